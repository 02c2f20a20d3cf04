/-! constructors: objects, rows of objects, mates -/
/-- a link to a mate's constructor -/
def yNw (X : zX) (own : String) (index : Nat) (y : MethodName) (host : String) : Prop := va_Nw (.methodLinkNest own index y host) X.2.2.2.2.1
section YROWS
variable {X : zX} {D : va_G} {ct : Nat → ClassId} {cc : ByteArray} {own : String} {rm : Room} {ws : va_W} {cells slots pc : Nat} {lv : List (Nat × Value)} {rest : List Value} {c0 : Nat}
theorem y_getq {index ci j : Nat} {ty : FieldType} {fin : Bool} (C : yOk X D ct cc own rm) (F : zFd own index ci j ty fin) (q0 : Nat) {a : Nat} {fs : List Value} {v : Value} (ha : ws[q0]? = some (a, .inr (ci, fs))) (hv : fs[j]? = some v) (hd : decode cc pc = .ok (.getfield index, 3)) (kk : Y X D ws cells slots (pc + 3) lv (v :: rest)) : Y X D ws cells slots pc lv (.ref a :: rest) := by
  obtain ⟨p, l, e, R, s, m, args, below, meth, c, z, Q, A⟩ := X
  obtain ⟨hx, hb, hts, hown, hK, hA, hAO, hlk, hR⟩ := C
  obtain ⟨Cn, T, Nf, ty0, h1, h2, h3, h4, h5, h6, h7, h8⟩ := F
  intro H locs ls hP hD hS hl
  exact va_get hx hb (Ts := zT) hts h2 hown hK hP q0 (fs := fs) ha h1 j h3 (hts _ h4) (fun _ h => h) (v := v) hv hd (kk H locs ls hP hD hS hl)
theorem y_new (C : yOk X D ct cc own rm) {ci index N : Nat} {Cn : String} {T : u_T} (ty : Nat → FieldType) (hc : vwCl[ci]? = some (Cn, T, N)) (hin : ∀ w ∈ u_ws Cn T N, w ∈ zT) (hty : ∀ k, k < N → parseFieldDescriptor (T k).2.2.1 = some (ty k)) (h1 : Cond.classLink own index Cn ∈ zT) (h2 : Cond.instantiable Cn N ∈ zT) (h3 : Cond.initialized Cn ∈ zT) {fs : List Value} (hfs : ∀ j, j < N → defaultValue (ty j) = vp_V fs j) {cells' slots' : Nat} (hcc : cells + 1 = cells') (hss : slots + N = slots') (hc2 : cells' ≤ rm.cells) (hs2 : slots' ≤ rm.slots) (hd : decode cc pc = .ok (.new index, 3)) (kk : ∀ h, Y X D (ws ++ [(h, .inr (ci, fs))]) cells' slots' (pc + 3) lv (.ref h :: rest)) : Y X D ws cells slots pc lv rest := by
  obtain ⟨p, l, e, R, s, m, args, below, meth, c, z, Q, A⟩ := X
  obtain ⟨hx, hb, hts, hown, hK, hA, hAO, hlk, hR⟩ := C
  intro H locs ls hP hD hS hl
  subst hcc; subst hss; subst hR
  exact va_new hx hb (Ts := zT) hts hin ty hty hown (hts _ h1) (hts _ h2) (hts _ h3) hK hP hD hS hA hc hfs hc2 hs2 hd (fun q H1 hP1 hD1 hS1 => kk q H1 locs ls hP1 hD1 hS1 hl)
theorem y_aald (C : yOk X D ct cc own rm) (q0 t : Nat) {a n k : Nat} {Cn : String} {f : Nat → Option Nat} (ha : ws[q0]? = some (a, .inl (ct t, n, .inr (.inr (.inr (.inr f)))))) (ht : (kTy ct)[t]? = some (ct t, .object Cn)) (hk : k < n) (hn : n < 1000) {i : Int32} (hi : i = nI k) {v : Nat} (hv : f k = some v) (hd : decode cc pc = .ok (.aaload, 1)) (kk : Y X D ws cells slots (pc + 1) lv (.ref v :: rest)) : Y X D ws cells slots pc lv (.int i :: .ref a :: rest) := by
  obtain ⟨p, l, e, R, s, m, args, below, meth, c, z, Q, A⟩ := X
  obtain ⟨hx, hb, hts, hown, hK, hA, hAO, hlk, hR⟩ := C
  intro H locs ls hP hD hS hl
  subst hi
  refine va_aldq hx hb hK hP q0 t (cA := ct t) (n := n) (f := f) ha ht (vp_in_nI hk (by omega)) hd ?_
  rw [nI_clamp (by omega), hv]
  exact kk H locs ls hP hD hS hl
theorem y_aast (C : yOk X D ct cc own rm) (q0 t qk ci : Nat) {a n k v : Nat} {r : vw_C} {vs : List Value} {f : Nat → Option Nat} (ha : ws[q0]? = some (a, .inl (ct t, n, .inr (.inr (.inr (.inr f)))))) (ht : (kTy ct)[t]? = some (ct t, .object r.1)) (hv : ws[qk]? = some (v, .inr (ci, vs))) (hc : vwCl[ci]? = some r) (hk : k < n) (hn : n < 1000) {i : Int32} (hi : i = nI k) (hd : decode cc pc = .ok (.aastore, 1)) (kk : Y X D (ws.set q0 (a, .inl (ct t, n, .inr (.inr (.inr (.inr (va_up f k (some v)))))))) cells slots (pc + 1) lv rest) : Y X D ws cells slots pc lv (.ref v :: .int i :: .ref a :: rest) := by
  obtain ⟨p, l, e, R, s, m, args, below, meth, c, z, Q, A⟩ := X
  obtain ⟨hx, hb, hts, hown, hK, hA, hAO, hlk, hR⟩ := C
  intro H locs ls hP hD hS hl
  subst hi
  refine va_astq hx hb hK hP hD hS q0 t qk ci (cA := ct t) (n := n) (f := f) ha ht hv hc (vp_in_nI hk (by omega)) hd (fun H1 locs1 hP1 hD1 hS1 => ?_)
  rw [nI_clamp (by omega)] at hP1 hD1
  exact kk H1 locs1 ls hP1 hD1 hS1 hl
theorem y_anewL (C : yOk X D ct cc own rm) {index N : Nat} {n : Int32} (hcl : Cond.classLink own index "TuesdayKnew$Law" ∈ zT) (hn : n = nI N) (hN : N < 1000) {cells' slots' : Nat} (hcc : cells + 1 = cells') (hss : slots + N = slots') (hc2 : cells' ≤ rm.cells) (hs2 : slots' ≤ rm.slots) (hd : decode cc pc = .ok (.anewarray index, 3)) (kk : ∀ q, Y X D (ws ++ [(q, .inl (ct 3, N, .inr (.inr (.inr (.inr (fun _ => none))))))]) cells' slots' (pc + 3) lv (.ref q :: rest)) : Y X D ws cells slots pc lv (.int n :: rest) := by
  obtain ⟨p, l, e, R, s, m, args, below, meth, c, z, Q, A⟩ := X
  obtain ⟨hx, hb, hts, hown, hK, hA, hAO, hlk, hR⟩ := C
  intro H locs ls hP hD hS hl
  subst hn; subst hcc; subst hss; subst hR
  refine va_newq hx hb hown (hts _ hcl) hAO.1 hK hP hD hS hA (N' := N) (nI_pos (by omega)) (nI_clamp (by omega)) (by omega) hc2 hs2 hd (fun q cA H1 hK1 hP1 hD1 hS1 => ?_)
  obtain ⟨kA, comp, -, -, -, e1⟩ : va_RA s cA (.object "TuesdayKnew$Law") := (hK1.2 5 _ rfl).2
  obtain ⟨kA0, comp0, -, -, -, e0⟩ : va_RA s (ct 3) (.object "TuesdayKnew$Law") := (hK.2 3 _ rfl).2
  have e2 : cA = ct 3 := Option.some.inj (e1.symm.trans e0)
  subst e2
  exact kk q H1 locs ls hP1 hD1 hS1 hl
theorem y_anewT (C : yOk X D ct cc own rm) {index N : Nat} {n : Int32} (hcl : Cond.classLink own index "TuesdayKnew$Tape" ∈ zT) (hn : n = nI N) (hN : N < 1000) {cells' slots' : Nat} (hcc : cells + 1 = cells') (hss : slots + N = slots') (hc2 : cells' ≤ rm.cells) (hs2 : slots' ≤ rm.slots) (hd : decode cc pc = .ok (.anewarray index, 3)) (kk : ∀ q, Y X D (ws ++ [(q, .inl (ct 4, N, .inr (.inr (.inr (.inr (fun _ => none))))))]) cells' slots' (pc + 3) lv (.ref q :: rest)) : Y X D ws cells slots pc lv (.int n :: rest) := by
  obtain ⟨p, l, e, R, s, m, args, below, meth, c, z, Q, A⟩ := X
  obtain ⟨hx, hb, hts, hown, hK, hA, hAO, hlk, hR⟩ := C
  intro H locs ls hP hD hS hl
  subst hn; subst hcc; subst hss; subst hR
  refine va_newq hx hb hown (hts _ hcl) hAO.2 hK hP hD hS hA (N' := N) (nI_pos (by omega)) (nI_clamp (by omega)) (by omega) hc2 hs2 hd (fun q cA H1 hK1 hP1 hD1 hS1 => ?_)
  obtain ⟨kA, comp, -, -, -, e1⟩ : va_RA s cA (.object "TuesdayKnew$Tape") := (hK1.2 5 _ rfl).2
  obtain ⟨kA0, comp0, -, -, -, e0⟩ : va_RA s (ct 4) (.object "TuesdayKnew$Tape") := (hK.2 4 _ rfl).2
  have e2 : cA = ct 4 := Option.some.inj (e1.symm.trans e0)
  subst e2
  exact kk q H1 locs ls hP1 hD1 hS1 hl
theorem y_callIN (C : yOk X D ct cc own rm) (hm : zML X c0) {index : Nat} {y : MethodName} {bytes : ByteArray} {maxL n mc ms : Nat} {rmc : Room} {F : (Nat → Nat) → va_W} {host : String} (hnw : yNw X own index y host) (hc : Cond.initialized y.cls ∈ zT ∧ Cond.code y bytes maxL none ∈ zT ∧ (y.cls ≠ "java/lang/invoke/MethodHandle" ∧ y.cls ≠ "java/lang/invoke/VarHandle" ∧ (parseMethodDescriptor y.desc).map (fun d => d.parameters.length) = some n)) (hv : y.name = "<init>" ∧ Cond.instanceMethod y ∈ zT) {As : List Value} (hn : As.length = n) {b : Nat} {st : List Value} (hst : st = As.reverse ++ .ref b :: rest) {wc wr : va_W} (hM : yMet y bytes maxL rmc D ct (.ref b :: As) wc mc ms F) (hrm : rmc.cells = mc ∧ rmc.slots = ms ∧ rmc.frames + 1 ≤ rm.frames ∧ 8 + (maxL + 11) + rmc.locals ≤ rm.locals) (hcs : cells + mc ≤ rm.cells ∧ slots + ms ≤ rm.slots) (isC isR : List Nat) (hC : isC.map (fun i => ws[i]?) = wc.map some) (hW : isR.map (fun i => ws[i]?) = wr.map some) (hnC : va_nd isC = true) (hnR : va_nd isR = true) (hdis : ∀ i ∈ isR, i ∉ isC) (hcat : (rest.map fun v => v.category).sum ≤ 8) (hd : decode cc pc = .ok (.invokespecial index, 3))
    (kk : ∀ q, Y X D (wr ++ F q) (cells + mc) (slots + ms) (pc + 3) lv rest) : Y X D ws cells slots pc lv st := by
  obtain ⟨p, l, e, R, s, m, args, below, meth, c, z, Q, A⟩ := X
  obtain ⟨hx, hb, hts, hown, hK, hA, hAO, hlk, hR⟩ := C
  obtain ⟨g2, g3, g4⟩ := hc
  intro H locs ls hP hD hS hl
  subst hR
  have hsz : ls.size = c0 := hl.1.trans hm
  have hPc := hP.sub (ws' := wc) isC (fm_of isC wc hC)
  have hDc := hD.sub isC hnC hC
  have hFc := va_free (wc := wc) hD hS hA isC hC
  refine va_callv (va_runIN (b := b) (Ts := zT) (As := As) (rest := rest) (n := n) (nL := c0) ⟨hx, hb, hm, hown, hts⟩ (hM l H.size) ⟨va_cnB n hts (zT_cons g3) rfl hrm.1 hrm.2.1 hnw (hts _ g2) g4 hrm.2.2, hv.1, hts _ hv.2⟩ ⟨yPre_blind, fun U hU hW => ⟨rfl, by rw [hU], by rw [hU]; exact hPc, va_K.moved hW.alike hK, hDc.weaken (fun _ _ _ _ => trivial), kAO.moved hW.alike hAO⟩⟩ rfl hn hsz hst (lv_room hcat) hd hcs) hS (fun q _ h => hFc q h) hFc (fun u t H1 locs1 ht hvm hw hB hz1 hk1 hS1 => ?_)
  obtain ⟨hP1, hD1⟩ := hB
  rw [ht] at hP1
  obtain ⟨hP2, hD2⟩ := va_join (wr := wr) (w1 := F u) hP hD isC isR hC hW hnR hdis hk1 hFc hP1 hD1
  exact kk u H1 locs1 ls hP2 hD2 hS1 hl
end YROWS
