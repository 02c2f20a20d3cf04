/-! constructors: the reference -/
section YROWS
variable {X : zX} {D : va_G} {ct : Nat → ClassId} {cc : ByteArray} {own : String} {rm : Room} {ws : va_W} {cells slots pc : Nat} {lv : List (Nat × Value)} {rest : List Value}
theorem y_iast (C : yOk X D ct cc own rm) (q0 : Nat) {a n k : Nat} {f : Nat → Int32} (ha : ws[q0]? = some (a, .inl (ct 0, n, .inl f))) (hk : k < n) (hn : n < 1000) {i x : Int32} (hi : i = nI k) (ws' : va_W) (hws : ws.set q0 (a, .inl (ct 0, n, .inl (upd f k x))) = ws') (hd : decode cc pc = .ok (.iastore, 1)) (kk : Y X D ws' cells slots (pc + 1) lv rest) : Y X D ws cells slots pc lv (.int x :: .int i :: .ref a :: rest) := by
  obtain ⟨p, l, e, R, s, m, args, below, meth, c, z, Q, A⟩ := X
  obtain ⟨hx, hb, hts, hown, hK, hA, hAO, hlk, hR⟩ := C
  intro H locs ls hP hD hS hl
  subst hi; subst hws
  refine va_iast hx hb hK hP hD hS q0 0 (cA := ct 0) (n := n) (f := f) ha rfl (vp_in_nI hk (by omega)) hd (fun H1 locs1 hP1 hD1 hS1 => ?_)
  rw [nI_clamp (by omega)] at hP1 hD1
  exact kk H1 locs1 ls hP1 hD1 hS1 hl
theorem y_putv (C : yOk X D ct cc own rm) {n index ci k a : Nat} {ty : FieldType} (F : zFd own index ci k ty false) {v : Value} {fs : List Value} {rows : va_W} (hN : fs.length = n) (hkl : k < n) (hn : narrow ty v = v) (hfit : fits ty v = true) (hd : decode cc pc = .ok (.putfield index, 3)) (kk : ∀ fs', fs' = fs.set k v → fs'.length = n → Y X D ((a, .inr (ci, fs')) :: rows) cells slots (pc + 3) lv rest) : Y X D ((a, .inr (ci, fs)) :: rows) cells slots pc lv (v :: .ref a :: rest) :=
  y_put C F (by omega) hn hfit _ rfl hd (kk _ rfl (by rw [List.length_set]; exact hN))
theorem y_putFv (C : yOk X D ct cc own rm) (hin : yIn X) {n index ci k a : Nat} {ty : FieldType} (F : zFd own index ci k ty true) (hdec : ∀ q, vwCl[ci]? = some q → (q.2.1 k).1 = own) {v : Value} {fs : List Value} {rows : va_W} (hN : fs.length = n) (hkl : k < n) (hn : narrow ty v = v) (hfit : fits ty v = true) (hd : decode cc pc = .ok (.putfield index, 3)) (kk : ∀ fs', fs' = fs.set k v → fs'.length = n → Y X D ((a, .inr (ci, fs')) :: rows) cells slots (pc + 3) lv rest) : Y X D ((a, .inr (ci, fs)) :: rows) cells slots pc lv (v :: .ref a :: rest) :=
  y_putF C hin F hdec (by omega) hn hfit _ rfl hd (kk _ rfl (by rw [List.length_set]; exact hN))
theorem y_iastv (C : yOk X D ct cc own rm) {o : Nat × va_E} {rows rows' : va_W} {a n k : Nat} {f : Nat → Int32} (er : rows' = rows ++ [(a, .inl (ct 0, n, .inl f))]) (hk : k < n) (hn : n < 1000) {i x : Int32} (hi : i = nI k) (hd : decode cc pc = .ok (.iastore, 1)) (kk : ∀ r, r = rows ++ [(a, .inl (ct 0, n, .inl (upd f k x)))] → Y X D (o :: r) cells slots (pc + 1) lv rest) : Y X D (o :: rows') cells slots pc lv (.int x :: .int i :: .ref a :: rest) := by
  subst er
  refine y_iast C (f := f) (rows.length + 1) ?_ hk hn hi (o :: (rows ++ [(a, .inl (ct 0, n, .inl (upd f k x)))])) ?_ hd (kk _ rfl)
  · rw [List.getElem?_cons_succ, List.getElem?_append_right (Nat.le_refl _), Nat.sub_self]; rfl
  · rw [List.set_cons_succ, List.set_append_right _ _ (Nat.le_refl _), Nat.sub_self]; rfl
theorem y_newIv (C : yOk X D ct cc own rm) {o : Nat × va_E} {rows : va_W} {N : Nat} {n : Int32} (hn : n = nI N) (hN : N < 1000) {cells' slots' : Nat} (hc : cells + 1 = cells') (hs : slots + N = slots') (hc2 : cells' ≤ rm.cells) (hs2 : slots' ≤ rm.slots) (hd : decode cc pc = .ok (.newarray .int, 2)) (kk : ∀ q r, r = rows ++ [(q, .inl (ct 0, N, .inl fun _ => 0))] → Y X D (o :: r) cells' slots' (pc + 2) lv (.ref q :: rest)) : Y X D (o :: rows) cells slots pc lv (.int n :: rest) :=
  y_newI C hn hN hc hs hc2 hs2 hd (fun q => kk q _ rfl)
theorem y_newLv (C : yOk X D ct cc own rm) {o : Nat × va_E} {rows : va_W} {N : Nat} {n : Int32} (hn : n = nI N) (hN : N < 1000) {cells' slots' : Nat} (hc : cells + 1 = cells') (hs : slots + N = slots') (hc2 : cells' ≤ rm.cells) (hs2 : slots' ≤ rm.slots) (hd : decode cc pc = .ok (.newarray .long, 2)) (kk : ∀ q r, r = rows ++ [(q, .inl (ct 1, N, .inr (.inl fun _ => 0)))] → Y X D (o :: r) cells' slots' (pc + 2) lv (.ref q :: rest)) : Y X D (o :: rows) cells slots pc lv (.int n :: rest) :=
  y_newL C hn hN hc hs hc2 hs2 hd (fun q => kk q _ rfl)
theorem y_newZv (C : yOk X D ct cc own rm) {o : Nat × va_E} {rows : va_W} {N : Nat} {n : Int32} (hn : n = nI N) (hN : N < 1000) {cells' slots' : Nat} (hc : cells + 1 = cells') (hs : slots + N = slots') (hc2 : cells' ≤ rm.cells) (hs2 : slots' ≤ rm.slots) (hd : decode cc pc = .ok (.newarray .boolean, 2)) (kk : ∀ q r, r = rows ++ [(q, .inl (ct 2, N, .inl fun _ => 0))] → Y X D (o :: r) cells' slots' (pc + 2) lv (.ref q :: rest)) : Y X D (o :: rows) cells slots pc lv (.int n :: rest) :=
  y_newZ C hn hN hc hs hc2 hs2 hd (fun q => kk q _ rfl)
end YROWS
abbrev rm_X8_init : Room := { frames := 1, cells := 40, slots := 2192, locals := 12 }
def F_X8_init (ct : Nat → ClassId) (h0 : Nat) : (Nat → Nat) → va_W := fun q => (h0, .inr (8, [.int 0, .ref (q 0), .ref (q 1), .ref (q 2), .int 0, .int (-1), .int 0, .int 0, .int 0, .ref (q 3), .ref (q 4), .ref (q 5), .ref (q 6), .ref (q 7), .ref (q 8), .ref (q 9), .ref (q 10), .int 0, .int 0, .int 0, .ref (q 11), .ref (q 12), .ref (q 13), .ref (q 14), .ref (q 15), .int 9, .ref (q 16), .int 0, .ref (q 17), .ref (q 18), .ref (q 19), .ref (q 20), .ref (q 21), .ref (q 22), .long 1, .int 0, .ref (q 23), .ref (q 24), .ref (q 25), .ref (q 26), .int 0, .int (-1), .int 0, .int 0, .ref (q 27), .ref (q 28), .ref (q 29), .ref (q 30), .ref (q 31), .ref (q 32), .ref (q 33), .ref (q 34), .int 0, .ref (q 35), .ref (q 36), .ref (q 37), .ref (q 38), .ref (q 39)])) :: [(q 0, .inl (ct 0, 8, .inl fun _ => 0)), (q 1, .inl (ct 0, 64, .inl fun _ => 0)), (q 2, .inl (ct 0, 8, .inl (upd (upd (upd (upd (upd (upd (upd (upd (fun _ => 0) 0 (-1)) 1 (-1)) 2 (-1)) 3 (-1)) 4 (-1)) 5 (-1)) 6 (-1)) 7 (-1)))), (q 3, .inl (ct 0, 100, .inl fun _ => 0)), (q 4, .inl (ct 0, 6, .inl fun _ => 0)), (q 5, .inl (ct 0, 60, .inl fun _ => 0)), (q 6, .inl (ct 0, 60, .inl fun _ => 0)), (q 7, .inl (ct 0, 60, .inl fun _ => 0)), (q 8, .inl (ct 0, 60, .inl fun _ => 0)), (q 9, .inl (ct 0, 600, .inl fun _ => 0)), (q 10, .inl (ct 0, 101, .inl fun _ => 0)), (q 11, .inl (ct 0, 5, .inl fun _ => 0)), (q 12, .inl (ct 2, 100, .inl fun _ => 0)), (q 13, .inl (ct 0, 64, .inl fun _ => 0)), (q 14, .inl (ct 0, 80, .inl fun _ => 0)), (q 15, .inl (ct 0, 80, .inl fun _ => 0)), (q 16, .inl (ct 0, 10, .inl fun _ => 0)), (q 17, .inl (ct 0, 16, .inl fun _ => 0)), (q 18, .inl (ct 0, 16, .inl fun _ => 0)), (q 19, .inl (ct 0, 16, .inl fun _ => 0)), (q 20, .inl (ct 0, 16, .inl fun _ => 0)), (q 21, .inl (ct 0, 16, .inl fun _ => 0)), (q 22, .inl (ct 1, 10, .inr (.inl fun _ => 0))), (q 23, .inl (ct 0, 6, .inl fun _ => 0)), (q 24, .inl (ct 0, 7, .inl fun _ => 0)), (q 25, .inl (ct 0, 7, .inl fun _ => 0)), (q 26, .inl (ct 0, 6, .inl fun _ => 0)), (q 27, .inl (ct 0, 64, .inl fun _ => 0)), (q 28, .inl (ct 0, 8, .inl fun _ => 0)), (q 29, .inl (ct 0, 16, .inl fun _ => 0)), (q 30, .inl (ct 0, 16, .inl fun _ => 0)), (q 31, .inl (ct 0, 16, .inl fun _ => 0)), (q 32, .inl (ct 0, 16, .inl fun _ => 0)), (q 33, .inl (ct 0, 16, .inl fun _ => 0)), (q 34, .inl (ct 0, 6, .inl fun _ => 0)), (q 35, .inl (ct 0, 20, .inl fun _ => 0)), (q 36, .inl (ct 0, 6, .inl (upd (upd (upd (upd (upd (upd (fun _ => 0) 0 (-1)) 1 (-1)) 2 (-1)) 3 (-1)) 4 (-1)) 5 (-1)))), (q 37, .inl (ct 0, 6, .inl fun _ => 0)), (q 38, .inl (ct 1, 360, .inr (.inl fun _ => 0))), (q 39, .inl (ct 1, 60, .inr (.inl fun _ => 0)))]
set_option maxRecDepth 100000 in
theorem F_X8_eq (ct : Nat → ClassId) (h0 q0 q1 q2 q3 q4 q5 q6 q7 q8 q9 q10 q11 q12 q13 q14 q15 q16 q17 q18 q19 q20 q21 q22 q23 q24 q25 q26 q27 q28 q29 q30 q31 q32 q33 q34 q35 q36 q37 q38 q39 : Nat) : ∃ q : Nat → Nat, F_X8_init ct h0 q = (h0, .inr (8, [.int 0, .ref q0, .ref q1, .ref q2, .int 0, .int (-1), .int 0, .int 0, .int 0, .ref q3, .ref q4, .ref q5, .ref q6, .ref q7, .ref q8, .ref q9, .ref q10, .int 0, .int 0, .int 0, .ref q11, .ref q12, .ref q13, .ref q14, .ref q15, .int 9, .ref q16, .int 0, .ref q17, .ref q18, .ref q19, .ref q20, .ref q21, .ref q22, .long 1, .int 0, .ref q23, .ref q24, .ref q25, .ref q26, .int 0, .int (-1), .int 0, .int 0, .ref q27, .ref q28, .ref q29, .ref q30, .ref q31, .ref q32, .ref q33, .ref q34, .int 0, .ref q35, .ref q36, .ref q37, .ref q38, .ref q39])) :: [(q0, .inl (ct 0, 8, .inl fun _ => 0)), (q1, .inl (ct 0, 64, .inl fun _ => 0)), (q2, .inl (ct 0, 8, .inl (upd (upd (upd (upd (upd (upd (upd (upd (fun _ => 0) 0 (-1)) 1 (-1)) 2 (-1)) 3 (-1)) 4 (-1)) 5 (-1)) 6 (-1)) 7 (-1)))), (q3, .inl (ct 0, 100, .inl fun _ => 0)), (q4, .inl (ct 0, 6, .inl fun _ => 0)), (q5, .inl (ct 0, 60, .inl fun _ => 0)), (q6, .inl (ct 0, 60, .inl fun _ => 0)), (q7, .inl (ct 0, 60, .inl fun _ => 0)), (q8, .inl (ct 0, 60, .inl fun _ => 0)), (q9, .inl (ct 0, 600, .inl fun _ => 0)), (q10, .inl (ct 0, 101, .inl fun _ => 0)), (q11, .inl (ct 0, 5, .inl fun _ => 0)), (q12, .inl (ct 2, 100, .inl fun _ => 0)), (q13, .inl (ct 0, 64, .inl fun _ => 0)), (q14, .inl (ct 0, 80, .inl fun _ => 0)), (q15, .inl (ct 0, 80, .inl fun _ => 0)), (q16, .inl (ct 0, 10, .inl fun _ => 0)), (q17, .inl (ct 0, 16, .inl fun _ => 0)), (q18, .inl (ct 0, 16, .inl fun _ => 0)), (q19, .inl (ct 0, 16, .inl fun _ => 0)), (q20, .inl (ct 0, 16, .inl fun _ => 0)), (q21, .inl (ct 0, 16, .inl fun _ => 0)), (q22, .inl (ct 1, 10, .inr (.inl fun _ => 0))), (q23, .inl (ct 0, 6, .inl fun _ => 0)), (q24, .inl (ct 0, 7, .inl fun _ => 0)), (q25, .inl (ct 0, 7, .inl fun _ => 0)), (q26, .inl (ct 0, 6, .inl fun _ => 0)), (q27, .inl (ct 0, 64, .inl fun _ => 0)), (q28, .inl (ct 0, 8, .inl fun _ => 0)), (q29, .inl (ct 0, 16, .inl fun _ => 0)), (q30, .inl (ct 0, 16, .inl fun _ => 0)), (q31, .inl (ct 0, 16, .inl fun _ => 0)), (q32, .inl (ct 0, 16, .inl fun _ => 0)), (q33, .inl (ct 0, 16, .inl fun _ => 0)), (q34, .inl (ct 0, 6, .inl fun _ => 0)), (q35, .inl (ct 0, 20, .inl fun _ => 0)), (q36, .inl (ct 0, 6, .inl (upd (upd (upd (upd (upd (upd (fun _ => 0) 0 (-1)) 1 (-1)) 2 (-1)) 3 (-1)) 4 (-1)) 5 (-1)))), (q37, .inl (ct 0, 6, .inl fun _ => 0)), (q38, .inl (ct 1, 360, .inr (.inl fun _ => 0))), (q39, .inl (ct 1, 60, .inr (.inl fun _ => 0)))] := by
  obtain ⟨q, e0, e1, e2, e3, e4, e5, e6, e7, e8, e9, e10, e11, e12, e13, e14, e15, e16, e17, e18, e19, e20, e21, e22, e23, e24, e25, e26, e27, e28, e29, e30, e31, e32, e33, e34, e35, e36, e37, e38, e39⟩ : ∃ q : Nat → Nat, q 0 = q0 ∧ q 1 = q1 ∧ q 2 = q2 ∧ q 3 = q3 ∧ q 4 = q4 ∧ q 5 = q5 ∧ q 6 = q6 ∧ q 7 = q7 ∧ q 8 = q8 ∧ q 9 = q9 ∧ q 10 = q10 ∧ q 11 = q11 ∧ q 12 = q12 ∧ q 13 = q13 ∧ q 14 = q14 ∧ q 15 = q15 ∧ q 16 = q16 ∧ q 17 = q17 ∧ q 18 = q18 ∧ q 19 = q19 ∧ q 20 = q20 ∧ q 21 = q21 ∧ q 22 = q22 ∧ q 23 = q23 ∧ q 24 = q24 ∧ q 25 = q25 ∧ q 26 = q26 ∧ q 27 = q27 ∧ q 28 = q28 ∧ q 29 = q29 ∧ q 30 = q30 ∧ q 31 = q31 ∧ q 32 = q32 ∧ q 33 = q33 ∧ q 34 = q34 ∧ q 35 = q35 ∧ q 36 = q36 ∧ q 37 = q37 ∧ q 38 = q38 ∧ q 39 = q39 := ⟨fun i => [q0, q1, q2, q3, q4, q5, q6, q7, q8, q9, q10, q11, q12, q13, q14, q15, q16, q17, q18, q19, q20, q21, q22, q23, q24, q25, q26, q27, q28, q29, q30, q31, q32, q33, q34, q35, q36, q37, q38, q39].getD i 0, rfl, rfl, rfl, rfl, rfl, rfl, rfl, rfl, rfl, rfl, rfl, rfl, rfl, rfl, rfl, rfl, rfl, rfl, rfl, rfl, rfl, rfl, rfl, rfl, rfl, rfl, rfl, rfl, rfl, rfl, rfl, rfl, rfl, rfl, rfl, rfl, rfl, rfl, rfl, rfl⟩
  refine ⟨q, ?_⟩
  unfold F_X8_init
  simp only [e0, e1, e2, e3, e4, e5, e6, e7, e8, e9, e10, e11, e12, e13, e14, e15, e16, e17, e18, e19, e20, e21, e22, e23, e24, e25, e26, e27, e28, e29, e30, e31, e32, e33, e34, e35, e36, e37, e38, e39]

set_option maxHeartbeats 1000000 in
set_option maxRecDepth 100000 in
theorem k_X8_init (D : va_G) (ct : Nat → ClassId) (h0 : Nat) : yMet yX8_init cX8_init 1 rm_X8_init D ct [.ref h0] [(h0, .inr (8, [.int 0, .null, .null, .null, .int 0, .int 0, .int 0, .int 0, .int 0, .null, .null, .null, .null, .null, .null, .null, .null, .int 0, .int 0, .int 0, .null, .null, .null, .null, .null, .int 0, .null, .int 0, .null, .null, .null, .null, .null, .null, .long 0, .int 0, .null, .null, .null, .null, .int 0, .int 0, .int 0, .int 0, .null, .null, .null, .null, .null, .null, .null, .null, .int 0, .null, .null, .null, .null, .null]))] 40 2192 (F_X8_init ct h0) := by
  refine yMet_of (by decide) rfl (Nat.le_of_ble_eq_true rfl) (fun X C hm hin hr => ?_)
  obtain ⟨fs0, hf0⟩ : ∃ z : List Value, z = [.int 0, .null, .null, .null, .int 0, .int 0, .int 0, .int 0, .int 0, .null, .null, .null, .null, .null, .null, .null, .null, .int 0, .int 0, .int 0, .null, .null, .null, .null, .null, .int 0, .null, .int 0, .null, .null, .null, .null, .null, .null, .long 0, .int 0, .null, .null, .null, .null, .int 0, .int 0, .int 0, .int 0, .null, .null, .null, .null, .null, .null, .null, .null, .int 0, .null, .null, .null, .null, .null] := ⟨_, rfl⟩
  obtain ⟨rs0, hr0⟩ : ∃ z : va_W, z = [] := ⟨_, rfl⟩
  have hN0 : fs0.length = 58 := by rw [hf0]; rfl
  rw [← hf0, ← hr0]
  refine y_aload_n C dX8_init_0 rfl 0 rfl ?_
  refine y_obj C hm (zin_r5 _ (List.mem_of_getElem? (i := 2) rfl)) (zin_r1 _ (List.mem_of_getElem? (i := 11) rfl)) (zin_r1 _ (List.mem_of_getElem? (i := 12) rfl)) (by decide) (by decide) dX8_init_1 ?_
  refine y_aload_n C dX8_init_4 rfl 0 rfl ?_
  refine y_iconst C (v := 0) dX8_init_5 (by decide) ?_
  refine y_putv C ff_X8_7 hN0 (by decide) rfl rfl dX8_init_6 (fun fs1 ef1 hN1 => ?_)
  refine y_aload_n C dX8_init_9 rfl 0 rfl ?_
  refine y_bipush C (v := 8) dX8_init_10 (by decide) ?_
  refine y_newIv C (N := 8) (by decide) (by decide) (cells' := 1) (slots' := 8) rfl rfl (by decide) (by decide) dX8_init_12 (fun q0 rs1 er1 => ?_)
  refine y_putFv C hin ff_X8_13 (fun q e => by cases e; rfl) hN1 (by decide) rfl rfl dX8_init_14 (fun fs2 ef2 hN2 => ?_)
  refine y_aload_n C dX8_init_17 rfl 0 rfl ?_
  refine y_bipush C (v := 64) dX8_init_18 (by decide) ?_
  refine y_newIv C (N := 64) (by decide) (by decide) (cells' := 2) (slots' := 72) rfl rfl (by decide) (by decide) dX8_init_20 (fun q1 rs2 er2 => ?_)
  refine y_putFv C hin ff_X8_17 (fun q e => by cases e; rfl) hN2 (by decide) rfl rfl dX8_init_22 (fun fs3 ef3 hN3 => ?_)
  refine y_aload_n C dX8_init_25 rfl 0 rfl ?_
  refine y_bipush C (v := 8) dX8_init_26 (by decide) ?_
  refine y_newIv C (N := 8) (by decide) (by decide) (cells' := 3) (slots' := 80) rfl rfl (by decide) (by decide) dX8_init_28 (fun q2 rs3 er3 => ?_)
  refine y_dup C dX8_init_30 rfl ?_
  refine y_iconst C (v := 0) dX8_init_31 (by decide) ?_
  refine y_iconst C (v := -1) dX8_init_32 (by decide) ?_
  refine y_iastv C er3 (k := 0) (by decide) (by decide) (by decide) dX8_init_33 (fun rs4 er4 => ?_)
  refine y_dup C dX8_init_34 rfl ?_
  refine y_iconst C (v := 1) dX8_init_35 (by decide) ?_
  refine y_iconst C (v := -1) dX8_init_36 (by decide) ?_
  refine y_iastv C er4 (k := 1) (by decide) (by decide) (by decide) dX8_init_37 (fun rs5 er5 => ?_)
  refine y_dup C dX8_init_38 rfl ?_
  refine y_iconst C (v := 2) dX8_init_39 (by decide) ?_
  refine y_iconst C (v := -1) dX8_init_40 (by decide) ?_
  refine y_iastv C er5 (k := 2) (by decide) (by decide) (by decide) dX8_init_41 (fun rs6 er6 => ?_)
  refine y_dup C dX8_init_42 rfl ?_
  refine y_iconst C (v := 3) dX8_init_43 (by decide) ?_
  refine y_iconst C (v := -1) dX8_init_44 (by decide) ?_
  refine y_iastv C er6 (k := 3) (by decide) (by decide) (by decide) dX8_init_45 (fun rs7 er7 => ?_)
  refine y_dup C dX8_init_46 rfl ?_
  refine y_iconst C (v := 4) dX8_init_47 (by decide) ?_
  refine y_iconst C (v := -1) dX8_init_48 (by decide) ?_
  refine y_iastv C er7 (k := 4) (by decide) (by decide) (by decide) dX8_init_49 (fun rs8 er8 => ?_)
  refine y_dup C dX8_init_50 rfl ?_
  refine y_iconst C (v := 5) dX8_init_51 (by decide) ?_
  refine y_iconst C (v := -1) dX8_init_52 (by decide) ?_
  refine y_iastv C er8 (k := 5) (by decide) (by decide) (by decide) dX8_init_53 (fun rs9 er9 => ?_)
  refine y_dup C dX8_init_54 rfl ?_
  refine y_bipush C (v := 6) dX8_init_55 (by decide) ?_
  refine y_iconst C (v := -1) dX8_init_57 (by decide) ?_
  refine y_iastv C er9 (k := 6) (by decide) (by decide) (by decide) dX8_init_58 (fun rs10 er10 => ?_)
  refine y_dup C dX8_init_59 rfl ?_
  refine y_bipush C (v := 7) dX8_init_60 (by decide) ?_
  refine y_iconst C (v := -1) dX8_init_62 (by decide) ?_
  refine y_iastv C er10 (k := 7) (by decide) (by decide) (by decide) dX8_init_63 (fun rs11 er11 => ?_)
  refine y_putFv C hin ff_X8_20 (fun q e => by cases e; rfl) hN3 (by decide) rfl rfl dX8_init_64 (fun fs4 ef4 hN4 => ?_)
  refine y_aload_n C dX8_init_67 rfl 0 rfl ?_
  refine y_iconst C (v := 0) dX8_init_68 (by decide) ?_
  refine y_putv C ff_X8_23 hN4 (by decide) rfl rfl dX8_init_69 (fun fs5 ef5 hN5 => ?_)
  refine y_aload_n C dX8_init_72 rfl 0 rfl ?_
  refine y_iconst C (v := -1) dX8_init_73 (by decide) ?_
  refine y_putv C ff_X8_26 hN5 (by decide) rfl rfl dX8_init_74 (fun fs6 ef6 hN6 => ?_)
  refine y_aload_n C dX8_init_77 rfl 0 rfl ?_
  refine y_iconst C (v := 0) dX8_init_78 (by decide) ?_
  refine y_putv C ff_X8_29 hN6 (by decide) rfl rfl dX8_init_79 (fun fs7 ef7 hN7 => ?_)
  refine y_aload_n C dX8_init_82 rfl 0 rfl ?_
  refine y_iconst C (v := 0) dX8_init_83 (by decide) ?_
  refine y_putv C ff_X8_32 hN7 (by decide) rfl rfl dX8_init_84 (fun fs8 ef8 hN8 => ?_)
  refine y_aload_n C dX8_init_87 rfl 0 rfl ?_
  refine y_iconst C (v := 0) dX8_init_88 (by decide) ?_
  refine y_putv C ff_X8_35 hN8 (by decide) rfl rfl dX8_init_89 (fun fs9 ef9 hN9 => ?_)
  refine y_aload_n C dX8_init_92 rfl 0 rfl ?_
  refine y_bipush C (v := 100) dX8_init_93 (by decide) ?_
  refine y_newIv C (N := 100) (by decide) (by decide) (cells' := 4) (slots' := 180) rfl rfl (by decide) (by decide) dX8_init_95 (fun q3 rs12 er12 => ?_)
  refine y_putFv C hin ff_X8_38 (fun q e => by cases e; rfl) hN9 (by decide) rfl rfl dX8_init_97 (fun fs10 ef10 hN10 => ?_)
  refine y_aload_n C dX8_init_100 rfl 0 rfl ?_
  refine y_bipush C (v := 6) dX8_init_101 (by decide) ?_
  refine y_newIv C (N := 6) (by decide) (by decide) (cells' := 5) (slots' := 186) rfl rfl (by decide) (by decide) dX8_init_103 (fun q4 rs13 er13 => ?_)
  refine y_putFv C hin ff_X8_41 (fun q e => by cases e; rfl) hN10 (by decide) rfl rfl dX8_init_105 (fun fs11 ef11 hN11 => ?_)
  refine y_aload_n C dX8_init_108 rfl 0 rfl ?_
  refine y_bipush C (v := 60) dX8_init_109 (by decide) ?_
  refine y_newIv C (N := 60) (by decide) (by decide) (cells' := 6) (slots' := 246) rfl rfl (by decide) (by decide) dX8_init_111 (fun q5 rs14 er14 => ?_)
  refine y_putFv C hin ff_X8_44 (fun q e => by cases e; rfl) hN11 (by decide) rfl rfl dX8_init_113 (fun fs12 ef12 hN12 => ?_)
  refine y_aload_n C dX8_init_116 rfl 0 rfl ?_
  refine y_bipush C (v := 60) dX8_init_117 (by decide) ?_
  refine y_newIv C (N := 60) (by decide) (by decide) (cells' := 7) (slots' := 306) rfl rfl (by decide) (by decide) dX8_init_119 (fun q6 rs15 er15 => ?_)
  refine y_putFv C hin ff_X8_47 (fun q e => by cases e; rfl) hN12 (by decide) rfl rfl dX8_init_121 (fun fs13 ef13 hN13 => ?_)
  refine y_aload_n C dX8_init_124 rfl 0 rfl ?_
  refine y_bipush C (v := 60) dX8_init_125 (by decide) ?_
  refine y_newIv C (N := 60) (by decide) (by decide) (cells' := 8) (slots' := 366) rfl rfl (by decide) (by decide) dX8_init_127 (fun q7 rs16 er16 => ?_)
  refine y_putFv C hin ff_X8_50 (fun q e => by cases e; rfl) hN13 (by decide) rfl rfl dX8_init_129 (fun fs14 ef14 hN14 => ?_)
  refine y_aload_n C dX8_init_132 rfl 0 rfl ?_
  refine y_bipush C (v := 60) dX8_init_133 (by decide) ?_
  refine y_newIv C (N := 60) (by decide) (by decide) (cells' := 9) (slots' := 426) rfl rfl (by decide) (by decide) dX8_init_135 (fun q8 rs17 er17 => ?_)
  refine y_putFv C hin ff_X8_53 (fun q e => by cases e; rfl) hN14 (by decide) rfl rfl dX8_init_137 (fun fs15 ef15 hN15 => ?_)
  refine y_aload_n C dX8_init_140 rfl 0 rfl ?_
  refine y_sipush C (v := 600) dX8_init_141 (by decide) ?_
  refine y_newIv C (N := 600) (by decide) (by decide) (cells' := 10) (slots' := 1026) rfl rfl (by decide) (by decide) dX8_init_144 (fun q9 rs18 er18 => ?_)
  refine y_putFv C hin ff_X8_56 (fun q e => by cases e; rfl) hN15 (by decide) rfl rfl dX8_init_146 (fun fs16 ef16 hN16 => ?_)
  refine y_aload_n C dX8_init_149 rfl 0 rfl ?_
  refine y_bipush C (v := 101) dX8_init_150 (by decide) ?_
  refine y_newIv C (N := 101) (by decide) (by decide) (cells' := 11) (slots' := 1127) rfl rfl (by decide) (by decide) dX8_init_152 (fun q10 rs19 er19 => ?_)
  refine y_putFv C hin ff_X8_59 (fun q e => by cases e; rfl) hN16 (by decide) rfl rfl dX8_init_154 (fun fs17 ef17 hN17 => ?_)
  refine y_aload_n C dX8_init_157 rfl 0 rfl ?_
  refine y_iconst C (v := 0) dX8_init_158 (by decide) ?_
  refine y_putv C ff_X8_62 hN17 (by decide) rfl rfl dX8_init_159 (fun fs18 ef18 hN18 => ?_)
  refine y_aload_n C dX8_init_162 rfl 0 rfl ?_
  refine y_iconst C (v := 0) dX8_init_163 (by decide) ?_
  refine y_putv C ff_X8_65 hN18 (by decide) rfl rfl dX8_init_164 (fun fs19 ef19 hN19 => ?_)
  refine y_aload_n C dX8_init_167 rfl 0 rfl ?_
  refine y_iconst C (v := 0) dX8_init_168 (by decide) ?_
  refine y_putv C ff_X8_68 hN19 (by decide) rfl rfl dX8_init_169 (fun fs20 ef20 hN20 => ?_)
  refine y_aload_n C dX8_init_172 rfl 0 rfl ?_
  refine y_iconst C (v := 5) dX8_init_173 (by decide) ?_
  refine y_newIv C (N := 5) (by decide) (by decide) (cells' := 12) (slots' := 1132) rfl rfl (by decide) (by decide) dX8_init_174 (fun q11 rs20 er20 => ?_)
  refine y_putFv C hin ff_X8_71 (fun q e => by cases e; rfl) hN20 (by decide) rfl rfl dX8_init_176 (fun fs21 ef21 hN21 => ?_)
  refine y_aload_n C dX8_init_179 rfl 0 rfl ?_
  refine y_bipush C (v := 100) dX8_init_180 (by decide) ?_
  refine y_newZv C (N := 100) (by decide) (by decide) (cells' := 13) (slots' := 1232) rfl rfl (by decide) (by decide) dX8_init_182 (fun q12 rs21 er21 => ?_)
  refine y_putFv C hin ff_X8_74 (fun q e => by cases e; rfl) hN21 (by decide) rfl rfl dX8_init_184 (fun fs22 ef22 hN22 => ?_)
  refine y_aload_n C dX8_init_187 rfl 0 rfl ?_
  refine y_bipush C (v := 64) dX8_init_188 (by decide) ?_
  refine y_newIv C (N := 64) (by decide) (by decide) (cells' := 14) (slots' := 1296) rfl rfl (by decide) (by decide) dX8_init_190 (fun q13 rs22 er22 => ?_)
  refine y_putFv C hin ff_X8_78 (fun q e => by cases e; rfl) hN22 (by decide) rfl rfl dX8_init_192 (fun fs23 ef23 hN23 => ?_)
  refine y_aload_n C dX8_init_195 rfl 0 rfl ?_
  refine y_bipush C (v := 80) dX8_init_196 (by decide) ?_
  refine y_newIv C (N := 80) (by decide) (by decide) (cells' := 15) (slots' := 1376) rfl rfl (by decide) (by decide) dX8_init_198 (fun q14 rs23 er23 => ?_)
  refine y_putFv C hin ff_X8_81 (fun q e => by cases e; rfl) hN23 (by decide) rfl rfl dX8_init_200 (fun fs24 ef24 hN24 => ?_)
  refine y_aload_n C dX8_init_203 rfl 0 rfl ?_
  refine y_bipush C (v := 80) dX8_init_204 (by decide) ?_
  refine y_newIv C (N := 80) (by decide) (by decide) (cells' := 16) (slots' := 1456) rfl rfl (by decide) (by decide) dX8_init_206 (fun q15 rs24 er24 => ?_)
  refine y_putFv C hin ff_X8_84 (fun q e => by cases e; rfl) hN24 (by decide) rfl rfl dX8_init_208 (fun fs25 ef25 hN25 => ?_)
  refine y_aload_n C dX8_init_211 rfl 0 rfl ?_
  refine y_bipush C (v := 9) dX8_init_212 (by decide) ?_
  refine y_putv C ff_X8_87 hN25 (by decide) rfl rfl dX8_init_214 (fun fs26 ef26 hN26 => ?_)
  refine y_aload_n C dX8_init_217 rfl 0 rfl ?_
  refine y_bipush C (v := 10) dX8_init_218 (by decide) ?_
  refine y_newIv C (N := 10) (by decide) (by decide) (cells' := 17) (slots' := 1466) rfl rfl (by decide) (by decide) dX8_init_220 (fun q16 rs25 er25 => ?_)
  refine y_putFv C hin ff_X8_90 (fun q e => by cases e; rfl) hN26 (by decide) rfl rfl dX8_init_222 (fun fs27 ef27 hN27 => ?_)
  refine y_aload_n C dX8_init_225 rfl 0 rfl ?_
  refine y_iconst C (v := 0) dX8_init_226 (by decide) ?_
  refine y_putv C ff_X8_93 hN27 (by decide) rfl rfl dX8_init_227 (fun fs28 ef28 hN28 => ?_)
  refine y_aload_n C dX8_init_230 rfl 0 rfl ?_
  refine y_bipush C (v := 16) dX8_init_231 (by decide) ?_
  refine y_newIv C (N := 16) (by decide) (by decide) (cells' := 18) (slots' := 1482) rfl rfl (by decide) (by decide) dX8_init_233 (fun q17 rs26 er26 => ?_)
  refine y_putFv C hin ff_X8_96 (fun q e => by cases e; rfl) hN28 (by decide) rfl rfl dX8_init_235 (fun fs29 ef29 hN29 => ?_)
  refine y_aload_n C dX8_init_238 rfl 0 rfl ?_
  refine y_bipush C (v := 16) dX8_init_239 (by decide) ?_
  refine y_newIv C (N := 16) (by decide) (by decide) (cells' := 19) (slots' := 1498) rfl rfl (by decide) (by decide) dX8_init_241 (fun q18 rs27 er27 => ?_)
  refine y_putFv C hin ff_X8_99 (fun q e => by cases e; rfl) hN29 (by decide) rfl rfl dX8_init_243 (fun fs30 ef30 hN30 => ?_)
  refine y_aload_n C dX8_init_246 rfl 0 rfl ?_
  refine y_bipush C (v := 16) dX8_init_247 (by decide) ?_
  refine y_newIv C (N := 16) (by decide) (by decide) (cells' := 20) (slots' := 1514) rfl rfl (by decide) (by decide) dX8_init_249 (fun q19 rs28 er28 => ?_)
  refine y_putFv C hin ff_X8_102 (fun q e => by cases e; rfl) hN30 (by decide) rfl rfl dX8_init_251 (fun fs31 ef31 hN31 => ?_)
  refine y_aload_n C dX8_init_254 rfl 0 rfl ?_
  refine y_bipush C (v := 16) dX8_init_255 (by decide) ?_
  refine y_newIv C (N := 16) (by decide) (by decide) (cells' := 21) (slots' := 1530) rfl rfl (by decide) (by decide) dX8_init_257 (fun q20 rs29 er29 => ?_)
  refine y_putFv C hin ff_X8_105 (fun q e => by cases e; rfl) hN31 (by decide) rfl rfl dX8_init_259 (fun fs32 ef32 hN32 => ?_)
  refine y_aload_n C dX8_init_262 rfl 0 rfl ?_
  refine y_bipush C (v := 16) dX8_init_263 (by decide) ?_
  refine y_newIv C (N := 16) (by decide) (by decide) (cells' := 22) (slots' := 1546) rfl rfl (by decide) (by decide) dX8_init_265 (fun q21 rs30 er30 => ?_)
  refine y_putFv C hin ff_X8_108 (fun q e => by cases e; rfl) hN32 (by decide) rfl rfl dX8_init_267 (fun fs33 ef33 hN33 => ?_)
  refine y_aload_n C dX8_init_270 rfl 0 rfl ?_
  refine y_bipush C (v := 10) dX8_init_271 (by decide) ?_
  refine y_newLv C (N := 10) (by decide) (by decide) (cells' := 23) (slots' := 1556) rfl rfl (by decide) (by decide) dX8_init_273 (fun q22 rs31 er31 => ?_)
  refine y_putFv C hin ff_X8_111 (fun q e => by cases e; rfl) hN33 (by decide) rfl rfl dX8_init_275 (fun fs34 ef34 hN34 => ?_)
  refine y_aload_n C dX8_init_278 rfl 0 rfl ?_
  refine y_lconst C (v := 1) dX8_init_279 (by decide) ?_
  refine y_putv C ff_X8_115 hN34 (by decide) rfl rfl dX8_init_280 (fun fs35 ef35 hN35 => ?_)
  refine y_aload_n C dX8_init_283 rfl 0 rfl ?_
  refine y_iconst C (v := 0) dX8_init_284 (by decide) ?_
  refine y_putv C ff_X8_119 hN35 (by decide) rfl rfl dX8_init_285 (fun fs36 ef36 hN36 => ?_)
  refine y_aload_n C dX8_init_288 rfl 0 rfl ?_
  refine y_bipush C (v := 6) dX8_init_289 (by decide) ?_
  refine y_newIv C (N := 6) (by decide) (by decide) (cells' := 24) (slots' := 1562) rfl rfl (by decide) (by decide) dX8_init_291 (fun q23 rs32 er32 => ?_)
  refine y_putFv C hin ff_X8_122 (fun q e => by cases e; rfl) hN36 (by decide) rfl rfl dX8_init_293 (fun fs37 ef37 hN37 => ?_)
  refine y_aload_n C dX8_init_296 rfl 0 rfl ?_
  refine y_bipush C (v := 7) dX8_init_297 (by decide) ?_
  refine y_newIv C (N := 7) (by decide) (by decide) (cells' := 25) (slots' := 1569) rfl rfl (by decide) (by decide) dX8_init_299 (fun q24 rs33 er33 => ?_)
  refine y_putFv C hin ff_X8_125 (fun q e => by cases e; rfl) hN37 (by decide) rfl rfl dX8_init_301 (fun fs38 ef38 hN38 => ?_)
  refine y_aload_n C dX8_init_304 rfl 0 rfl ?_
  refine y_bipush C (v := 7) dX8_init_305 (by decide) ?_
  refine y_newIv C (N := 7) (by decide) (by decide) (cells' := 26) (slots' := 1576) rfl rfl (by decide) (by decide) dX8_init_307 (fun q25 rs34 er34 => ?_)
  refine y_putFv C hin ff_X8_128 (fun q e => by cases e; rfl) hN38 (by decide) rfl rfl dX8_init_309 (fun fs39 ef39 hN39 => ?_)
  refine y_aload_n C dX8_init_312 rfl 0 rfl ?_
  refine y_bipush C (v := 6) dX8_init_313 (by decide) ?_
  refine y_newIv C (N := 6) (by decide) (by decide) (cells' := 27) (slots' := 1582) rfl rfl (by decide) (by decide) dX8_init_315 (fun q26 rs35 er35 => ?_)
  refine y_putFv C hin ff_X8_131 (fun q e => by cases e; rfl) hN39 (by decide) rfl rfl dX8_init_317 (fun fs40 ef40 hN40 => ?_)
  refine y_aload_n C dX8_init_320 rfl 0 rfl ?_
  refine y_iconst C (v := 0) dX8_init_321 (by decide) ?_
  refine y_putv C ff_X8_134 hN40 (by decide) rfl rfl dX8_init_322 (fun fs41 ef41 hN41 => ?_)
  refine y_aload_n C dX8_init_325 rfl 0 rfl ?_
  refine y_iconst C (v := -1) dX8_init_326 (by decide) ?_
  refine y_putv C ff_X8_138 hN41 (by decide) rfl rfl dX8_init_327 (fun fs42 ef42 hN42 => ?_)
  refine y_aload_n C dX8_init_330 rfl 0 rfl ?_
  refine y_iconst C (v := 0) dX8_init_331 (by decide) ?_
  refine y_putv C ff_X8_141 hN42 (by decide) rfl rfl dX8_init_332 (fun fs43 ef43 hN43 => ?_)
  refine y_aload_n C dX8_init_335 rfl 0 rfl ?_
  refine y_iconst C (v := 0) dX8_init_336 (by decide) ?_
  refine y_putv C ff_X8_144 hN43 (by decide) rfl rfl dX8_init_337 (fun fs44 ef44 hN44 => ?_)
  refine y_aload_n C dX8_init_340 rfl 0 rfl ?_
  refine y_bipush C (v := 64) dX8_init_341 (by decide) ?_
  refine y_newIv C (N := 64) (by decide) (by decide) (cells' := 28) (slots' := 1646) rfl rfl (by decide) (by decide) dX8_init_343 (fun q27 rs36 er36 => ?_)
  refine y_putFv C hin ff_X8_147 (fun q e => by cases e; rfl) hN44 (by decide) rfl rfl dX8_init_345 (fun fs45 ef45 hN45 => ?_)
  refine y_aload_n C dX8_init_348 rfl 0 rfl ?_
  refine y_bipush C (v := 8) dX8_init_349 (by decide) ?_
  refine y_newIv C (N := 8) (by decide) (by decide) (cells' := 29) (slots' := 1654) rfl rfl (by decide) (by decide) dX8_init_351 (fun q28 rs37 er37 => ?_)
  refine y_putFv C hin ff_X8_150 (fun q e => by cases e; rfl) hN45 (by decide) rfl rfl dX8_init_353 (fun fs46 ef46 hN46 => ?_)
  refine y_aload_n C dX8_init_356 rfl 0 rfl ?_
  refine y_bipush C (v := 16) dX8_init_357 (by decide) ?_
  refine y_newIv C (N := 16) (by decide) (by decide) (cells' := 30) (slots' := 1670) rfl rfl (by decide) (by decide) dX8_init_359 (fun q29 rs38 er38 => ?_)
  refine y_putFv C hin ff_X8_153 (fun q e => by cases e; rfl) hN46 (by decide) rfl rfl dX8_init_361 (fun fs47 ef47 hN47 => ?_)
  refine y_aload_n C dX8_init_364 rfl 0 rfl ?_
  refine y_bipush C (v := 16) dX8_init_365 (by decide) ?_
  refine y_newIv C (N := 16) (by decide) (by decide) (cells' := 31) (slots' := 1686) rfl rfl (by decide) (by decide) dX8_init_367 (fun q30 rs39 er39 => ?_)
  refine y_putFv C hin ff_X8_156 (fun q e => by cases e; rfl) hN47 (by decide) rfl rfl dX8_init_369 (fun fs48 ef48 hN48 => ?_)
  refine y_aload_n C dX8_init_372 rfl 0 rfl ?_
  refine y_bipush C (v := 16) dX8_init_373 (by decide) ?_
  refine y_newIv C (N := 16) (by decide) (by decide) (cells' := 32) (slots' := 1702) rfl rfl (by decide) (by decide) dX8_init_375 (fun q31 rs40 er40 => ?_)
  refine y_putFv C hin ff_X8_159 (fun q e => by cases e; rfl) hN48 (by decide) rfl rfl dX8_init_377 (fun fs49 ef49 hN49 => ?_)
  refine y_aload_n C dX8_init_380 rfl 0 rfl ?_
  refine y_bipush C (v := 16) dX8_init_381 (by decide) ?_
  refine y_newIv C (N := 16) (by decide) (by decide) (cells' := 33) (slots' := 1718) rfl rfl (by decide) (by decide) dX8_init_383 (fun q32 rs41 er41 => ?_)
  refine y_putFv C hin ff_X8_162 (fun q e => by cases e; rfl) hN49 (by decide) rfl rfl dX8_init_385 (fun fs50 ef50 hN50 => ?_)
  refine y_aload_n C dX8_init_388 rfl 0 rfl ?_
  refine y_bipush C (v := 16) dX8_init_389 (by decide) ?_
  refine y_newIv C (N := 16) (by decide) (by decide) (cells' := 34) (slots' := 1734) rfl rfl (by decide) (by decide) dX8_init_391 (fun q33 rs42 er42 => ?_)
  refine y_putFv C hin ff_X8_165 (fun q e => by cases e; rfl) hN50 (by decide) rfl rfl dX8_init_393 (fun fs51 ef51 hN51 => ?_)
  refine y_aload_n C dX8_init_396 rfl 0 rfl ?_
  refine y_bipush C (v := 6) dX8_init_397 (by decide) ?_
  refine y_newIv C (N := 6) (by decide) (by decide) (cells' := 35) (slots' := 1740) rfl rfl (by decide) (by decide) dX8_init_399 (fun q34 rs43 er43 => ?_)
  refine y_putFv C hin ff_X8_168 (fun q e => by cases e; rfl) hN51 (by decide) rfl rfl dX8_init_401 (fun fs52 ef52 hN52 => ?_)
  refine y_aload_n C dX8_init_404 rfl 0 rfl ?_
  refine y_iconst C (v := 0) dX8_init_405 (by decide) ?_
  refine y_putv C ff_X8_171 hN52 (by decide) rfl rfl dX8_init_406 (fun fs53 ef53 hN53 => ?_)
  refine y_aload_n C dX8_init_409 rfl 0 rfl ?_
  refine y_bipush C (v := 20) dX8_init_410 (by decide) ?_
  refine y_newIv C (N := 20) (by decide) (by decide) (cells' := 36) (slots' := 1760) rfl rfl (by decide) (by decide) dX8_init_412 (fun q35 rs44 er44 => ?_)
  refine y_putFv C hin ff_X8_174 (fun q e => by cases e; rfl) hN53 (by decide) rfl rfl dX8_init_414 (fun fs54 ef54 hN54 => ?_)
  refine y_aload_n C dX8_init_417 rfl 0 rfl ?_
  refine y_bipush C (v := 6) dX8_init_418 (by decide) ?_
  refine y_newIv C (N := 6) (by decide) (by decide) (cells' := 37) (slots' := 1766) rfl rfl (by decide) (by decide) dX8_init_420 (fun q36 rs45 er45 => ?_)
  refine y_dup C dX8_init_422 rfl ?_
  refine y_iconst C (v := 0) dX8_init_423 (by decide) ?_
  refine y_iconst C (v := -1) dX8_init_424 (by decide) ?_
  refine y_iastv C er45 (k := 0) (by decide) (by decide) (by decide) dX8_init_425 (fun rs46 er46 => ?_)
  refine y_dup C dX8_init_426 rfl ?_
  refine y_iconst C (v := 1) dX8_init_427 (by decide) ?_
  refine y_iconst C (v := -1) dX8_init_428 (by decide) ?_
  refine y_iastv C er46 (k := 1) (by decide) (by decide) (by decide) dX8_init_429 (fun rs47 er47 => ?_)
  refine y_dup C dX8_init_430 rfl ?_
  refine y_iconst C (v := 2) dX8_init_431 (by decide) ?_
  refine y_iconst C (v := -1) dX8_init_432 (by decide) ?_
  refine y_iastv C er47 (k := 2) (by decide) (by decide) (by decide) dX8_init_433 (fun rs48 er48 => ?_)
  refine y_dup C dX8_init_434 rfl ?_
  refine y_iconst C (v := 3) dX8_init_435 (by decide) ?_
  refine y_iconst C (v := -1) dX8_init_436 (by decide) ?_
  refine y_iastv C er48 (k := 3) (by decide) (by decide) (by decide) dX8_init_437 (fun rs49 er49 => ?_)
  refine y_dup C dX8_init_438 rfl ?_
  refine y_iconst C (v := 4) dX8_init_439 (by decide) ?_
  refine y_iconst C (v := -1) dX8_init_440 (by decide) ?_
  refine y_iastv C er49 (k := 4) (by decide) (by decide) (by decide) dX8_init_441 (fun rs50 er50 => ?_)
  refine y_dup C dX8_init_442 rfl ?_
  refine y_iconst C (v := 5) dX8_init_443 (by decide) ?_
  refine y_iconst C (v := -1) dX8_init_444 (by decide) ?_
  refine y_iastv C er50 (k := 5) (by decide) (by decide) (by decide) dX8_init_445 (fun rs51 er51 => ?_)
  refine y_putFv C hin ff_X8_177 (fun q e => by cases e; rfl) hN54 (by decide) rfl rfl dX8_init_446 (fun fs55 ef55 hN55 => ?_)
  refine y_aload_n C dX8_init_449 rfl 0 rfl ?_
  refine y_bipush C (v := 6) dX8_init_450 (by decide) ?_
  refine y_newIv C (N := 6) (by decide) (by decide) (cells' := 38) (slots' := 1772) rfl rfl (by decide) (by decide) dX8_init_452 (fun q37 rs52 er52 => ?_)
  refine y_putFv C hin ff_X8_180 (fun q e => by cases e; rfl) hN55 (by decide) rfl rfl dX8_init_454 (fun fs56 ef56 hN56 => ?_)
  refine y_aload_n C dX8_init_457 rfl 0 rfl ?_
  refine y_sipush C (v := 360) dX8_init_458 (by decide) ?_
  refine y_newLv C (N := 360) (by decide) (by decide) (cells' := 39) (slots' := 2132) rfl rfl (by decide) (by decide) dX8_init_461 (fun q38 rs53 er53 => ?_)
  refine y_putFv C hin ff_X8_183 (fun q e => by cases e; rfl) hN56 (by decide) rfl rfl dX8_init_463 (fun fs57 ef57 hN57 => ?_)
  refine y_aload_n C dX8_init_466 rfl 0 rfl ?_
  refine y_bipush C (v := 60) dX8_init_467 (by decide) ?_
  refine y_newLv C (N := 60) (by decide) (by decide) (cells' := 40) (slots' := 2192) rfl rfl (by decide) (by decide) dX8_init_469 (fun q39 rs54 er54 => ?_)
  refine y_putFv C hin ff_X8_186 (fun q e => by cases e; rfl) hN57 (by decide) rfl rfl dX8_init_471 (fun fs58 ef58 hN58 => ?_)
  have hfs : fs58 = [.int 0, .ref q0, .ref q1, .ref q2, .int 0, .int (-1), .int 0, .int 0, .int 0, .ref q3, .ref q4, .ref q5, .ref q6, .ref q7, .ref q8, .ref q9, .ref q10, .int 0, .int 0, .int 0, .ref q11, .ref q12, .ref q13, .ref q14, .ref q15, .int 9, .ref q16, .int 0, .ref q17, .ref q18, .ref q19, .ref q20, .ref q21, .ref q22, .long 1, .int 0, .ref q23, .ref q24, .ref q25, .ref q26, .int 0, .int (-1), .int 0, .int 0, .ref q27, .ref q28, .ref q29, .ref q30, .ref q31, .ref q32, .ref q33, .ref q34, .int 0, .ref q35, .ref q36, .ref q37, .ref q38, .ref q39] := by
    rw [ef58, ef57, ef56, ef55, ef54, ef53, ef52, ef51, ef50, ef49, ef48, ef47, ef46, ef45, ef44, ef43, ef42, ef41, ef40, ef39, ef38, ef37, ef36, ef35, ef34, ef33, ef32, ef31, ef30, ef29, ef28, ef27, ef26, ef25, ef24, ef23, ef22, ef21, ef20, ef19, ef18, ef17, ef16, ef15, ef14, ef13, ef12, ef11, ef10, ef9, ef8, ef7, ef6, ef5, ef4, ef3, ef2, ef1, hf0]
    simp only [List.set_cons_zero, List.set_cons_succ]
  have hrs : rs54 = [(q0, .inl (ct 0, 8, .inl fun _ => 0)), (q1, .inl (ct 0, 64, .inl fun _ => 0)), (q2, .inl (ct 0, 8, .inl (upd (upd (upd (upd (upd (upd (upd (upd (fun _ => 0) 0 (-1)) 1 (-1)) 2 (-1)) 3 (-1)) 4 (-1)) 5 (-1)) 6 (-1)) 7 (-1)))), (q3, .inl (ct 0, 100, .inl fun _ => 0)), (q4, .inl (ct 0, 6, .inl fun _ => 0)), (q5, .inl (ct 0, 60, .inl fun _ => 0)), (q6, .inl (ct 0, 60, .inl fun _ => 0)), (q7, .inl (ct 0, 60, .inl fun _ => 0)), (q8, .inl (ct 0, 60, .inl fun _ => 0)), (q9, .inl (ct 0, 600, .inl fun _ => 0)), (q10, .inl (ct 0, 101, .inl fun _ => 0)), (q11, .inl (ct 0, 5, .inl fun _ => 0)), (q12, .inl (ct 2, 100, .inl fun _ => 0)), (q13, .inl (ct 0, 64, .inl fun _ => 0)), (q14, .inl (ct 0, 80, .inl fun _ => 0)), (q15, .inl (ct 0, 80, .inl fun _ => 0)), (q16, .inl (ct 0, 10, .inl fun _ => 0)), (q17, .inl (ct 0, 16, .inl fun _ => 0)), (q18, .inl (ct 0, 16, .inl fun _ => 0)), (q19, .inl (ct 0, 16, .inl fun _ => 0)), (q20, .inl (ct 0, 16, .inl fun _ => 0)), (q21, .inl (ct 0, 16, .inl fun _ => 0)), (q22, .inl (ct 1, 10, .inr (.inl fun _ => 0))), (q23, .inl (ct 0, 6, .inl fun _ => 0)), (q24, .inl (ct 0, 7, .inl fun _ => 0)), (q25, .inl (ct 0, 7, .inl fun _ => 0)), (q26, .inl (ct 0, 6, .inl fun _ => 0)), (q27, .inl (ct 0, 64, .inl fun _ => 0)), (q28, .inl (ct 0, 8, .inl fun _ => 0)), (q29, .inl (ct 0, 16, .inl fun _ => 0)), (q30, .inl (ct 0, 16, .inl fun _ => 0)), (q31, .inl (ct 0, 16, .inl fun _ => 0)), (q32, .inl (ct 0, 16, .inl fun _ => 0)), (q33, .inl (ct 0, 16, .inl fun _ => 0)), (q34, .inl (ct 0, 6, .inl fun _ => 0)), (q35, .inl (ct 0, 20, .inl fun _ => 0)), (q36, .inl (ct 0, 6, .inl (upd (upd (upd (upd (upd (upd (fun _ => 0) 0 (-1)) 1 (-1)) 2 (-1)) 3 (-1)) 4 (-1)) 5 (-1)))), (q37, .inl (ct 0, 6, .inl fun _ => 0)), (q38, .inl (ct 1, 360, .inr (.inl fun _ => 0))), (q39, .inl (ct 1, 60, .inr (.inl fun _ => 0)))] := by
    rw [er54, er53, er52, er51, er44, er43, er42, er41, er40, er39, er38, er37, er36, er35, er34, er33, er32, er31, er30, er29, er28, er27, er26, er25, er24, er23, er22, er21, er20, er19, er18, er17, er16, er15, er14, er13, er12, er11, er2, er1, hr0]
    simp only [List.nil_append, List.cons_append]
  obtain ⟨q, hq⟩ := F_X8_eq ct h0 q0 q1 q2 q3 q4 q5 q6 q7 q8 q9 q10 q11 q12 q13 q14 q15 q16 q17 q18 q19 q20 q21 q22 q23 q24 q25 q26 q27 q28 q29 q30 q31 q32 q33 q34 q35 q36 q37 q38 q39
  rw [← hfs, ← hrs] at hq
  exact y_ret C hr dX8_init_474 q hq
