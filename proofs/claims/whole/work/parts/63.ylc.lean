/-! constructors: calls, loops -/
theorem fm_of {α β : Type} {g : α → Option β} : ∀ (is : List α) (w : List β), is.map g = w.map some → is.filterMap g = w
  | [], [], _ => rfl
  | [], _ :: _, h => by simp at h
  | _ :: _, [], h => by simp at h
  | a :: is, b :: w, h => by
    rw [List.map_cons, List.map_cons] at h
    rw [List.filterMap_cons_some (List.cons.inj h).1, fm_of is w (List.cons.inj h).2]
theorem kAO.moved {u U : State} (hvm : u.vm.Alike U.vm) (h : kAO u) : kAO U := ⟨h.1.moved hvm, h.2.moved hvm⟩
theorem yPre_blind {D : va_G} {ct : Nat → ClassId} {As : List Value} {ws : va_W} {sz : Nat} : FrameBlind (va_Pc As (yPre D ct ws sz)) := fun a U g mk q => by
  obtain ⟨q0, q1, qP, qK, qD, qO⟩ := q
  exact ⟨q0, q1, qP, va_K.moved (u := U) (U := U.calling g mk a) (Vm.Alike.refl U.vm) qK, qD, kAO.moved (u := U) (U := U.calling g mk a) (Vm.Alike.refl U.vm) qO⟩
set_option maxHeartbeats 1000000 in
theorem yMet_of2 {y : MethodName} {cc : ByteArray} {maxL : Nat} {rm : Room} {D : va_G} {ct : Nat → ClassId} {As : List Value} {ws0 : va_W} {mc ms : Nat} {F : (Nat → Nat) → va_W} (hpl : plainName y.cls = true) (hAs : (lg_sl As).length ≤ maxL)
    (body : ∀ X : zX, yOk X D ct cc y.cls rm → zML X maxL → yRet X D ws0 mc ms F → Y X D ws0 0 0 0 (lv_args 0 As) []) : yMet y cc maxL rm D ct As ws0 mc ms F := by
  intro l sz
  refine Met.ofW (cc := cc) (maxL := maxL) (ret := none) hpl rfl ?_
  intro p e s m args below meth c s₁ B hml hv
  obtain ⟨rfl, hsz, hP, hK, hD0, hAO⟩ := hv
  subst hsz
  have hts0 := atoms_spec (ws := .code y cc maxL none :: zT) B.pre
  have hts : ∀ t ∈ zT, t.before As.toArray s = true := fun t h => hts0 t (List.mem_cons_of_mem _ h)
  have hl := lv_entry As (n := maxL) hAs
  rw [lg_entry_eq]
  rw [← hml] at hl ⊢
  exact body (p, l, e, (headSpec (.code y cc maxL none :: zT) rm).room, s, m, As.toArray, below, meth, c, (0, 0), MQ below (va_Qv (fun _ : Nat → Nat => True) (yAt D (va_A ws0 s.heap.size) F) (va_A ws0 s.heap.size)) As.toArray s mc ms (va_A ws0 s.heap.size), va_A ws0 s.heap.size)
    ⟨B.exec, B.bytes, hts, findClass_of_methodNamed B.named, hK, fun q h => Or.inr h, hAO, B.notSynchronized, rfl⟩ hml ⟨rfl, B.returns, rfl⟩ s.heap [] _ hP hD0.self va_S.rf hl
section YROWS
variable {X : zX} {D : va_G} {ct : Nat → ClassId} {cc : ByteArray} {own : String} {rm : Room} {ws : va_W} {cells slots pc : Nat} {lv : List (Nat × Value)} {rest : List Value} {c0 : Nat}
theorem y_sub (ks : List Nat) {lv' : List (Nat × Value)} (h : lv_pick lv ks = lv') (k : Y X D ws cells slots pc lv' rest) : Y X D ws cells slots pc lv rest := by
  obtain ⟨p, l, e, R, s, m, args, below, meth, c, z, Q, A⟩ := X
  intro H locs ls hP hD hS hl
  exact k H locs ls hP hD hS (lv_sub hl ks h)
theorem y_ws {ws' : va_W} (h : ws = ws') (k : Y X D ws' cells slots pc lv rest) : Y X D ws cells slots pc lv rest := by
  subst h; exact k
theorem y_get {index ci j : Nat} {ty : FieldType} {fin : Bool} (C : yOk X D ct cc own rm) (F : zFd own index ci j ty fin) {a : Nat} {fs : List Value} {rows : va_W} {v : Value} (hv : fs[j]? = some v) (hd : decode cc pc = .ok (.getfield index, 3)) (kk : Y X D ((a, .inr (ci, fs)) :: rows) cells slots (pc + 3) lv (v :: rest)) : Y X D ((a, .inr (ci, fs)) :: rows) cells slots pc lv (.ref a :: rest) := by
  obtain ⟨p, l, e, R, s, m, args, below, meth, c, z, Q, A⟩ := X
  obtain ⟨hx, hb, hts, hown, hK, hA, hAO, hlk, hR⟩ := C
  obtain ⟨Cn, T, Nf, ty0, h1, h2, h3, h4, h5, h6, h7, h8⟩ := F
  intro H locs ls hP hD hS hl
  exact va_get hx hb (Ts := zT) hts h2 hown hK hP 0 (fs := fs) rfl h1 j h3 (hts _ h4) (fun _ h => h) (v := v) hv hd (kk H locs ls hP hD hS hl)
theorem y_alen (C : yOk X D ct cc own rm) (q0 : Nat) {a n : Nat} {x : (Nat → Int32) ⊕ (Nat → Int64) ⊕ (Nat → UInt32) ⊕ (Nat → UInt64) ⊕ (Nat → Option Nat)} {t : Nat} {ty : FieldType} (ha : ws[q0]? = some (a, .inl (ct t, n, x))) (ht : (kTy ct)[t]? = some (ct t, ty)) {v : Int32} (hv : Int32.ofNat n = v) (hd : decode cc pc = .ok (.arraylength, 1)) (kk : Y X D ws cells slots (pc + 1) lv (.int v :: rest)) : Y X D ws cells slots pc lv (.ref a :: rest) := by
  obtain ⟨p, l, e, R, s, m, args, below, meth, c, z, Q, A⟩ := X
  obtain ⟨hx, hb, hts, hown, hK, hA, hAO, hlk, hR⟩ := C
  intro H locs ls hP hD hS hl
  exact va_alen (x := (n, x)) hx hb hK hP q0 t ha ht hv hd (kk H locs ls hP hD hS hl)
theorem y_goto (C : yOk X D ct cc own rm)  {off : Int} {tgt : Nat} (hdg : decode cc pc = .ok (.goto off, 3)) (ht : (pc : Int) + off = (tgt : Int)) (k : Y X D ws cells slots tgt lv rest) : Y X D ws cells slots pc lv rest := by
  obtain ⟨p, l, e, R, s, m, args, below, meth, c, z, Q, A⟩ := X
  obtain ⟨hx, hb, hts, hown, hK, hA, hAO, hlk, hR⟩ := C
  intro H locs ls hP hD hS hl
  exact lv_goto hx hb hdg ht (k H locs ls hP hD hS hl)
theorem y_icmp_ge (C : yOk X D ct cc own rm)  {x y : Int32} {off : Int} {tgt : Nat} (hdg : decode cc pc = .ok (.if_icmp .ge off, 3)) (ht : (pc : Int) + off = (tgt : Int)) (kt : y ≤ x → Y X D ws cells slots tgt lv rest) (kf : ¬ y ≤ x → Y X D ws cells slots (pc + 3) lv rest) : Y X D ws cells slots pc lv (.int y :: .int x :: rest) := by
  obtain ⟨p, l, e, R, s, m, args, below, meth, c, z, Q, A⟩ := X
  obtain ⟨hx, hb, hts, hown, hK, hA, hAO, hlk, hR⟩ := C
  intro H locs ls hP hD hS hl
  exact lv_icmp_ge hx hb hdg ht (fun q => kt q H locs ls hP hD hS hl) (fun q => kf q H locs ls hP hD hS hl)
theorem y_iload_n (C : yOk X D ct cc own rm) {k : Fin 4} {i : Nat} {x : Int32} (hdg : decode cc pc = .ok (.iload_n k, 1)) (hi : (k : Nat) = i) (q : Nat) (hl0 : lv[q]? = some (i, .int x)) (kk : Y X D ws cells slots (pc + 1) lv (.int x :: rest)) : Y X D ws cells slots pc lv rest := by
  obtain ⟨p, l, e, R, s, m, args, below, meth, c, z, Q, A⟩ := X
  obtain ⟨hx, hb, hts, hown, hK, hA, hAO, hlk, hR⟩ := C
  intro H locs ls hP hD hS hl
  exact lv_iload_n hx hb hdg hi (lv_at hl q hl0) (kk H locs ls hP hD hS hl)
theorem y_istore_n (C : yOk X D ct cc own rm) (hm : zML X c0) {k : Fin 4} {i : Nat} {x : Int32} {lv' : List (Nat × Value)} (hdg : decode cc pc = .ok (.istore_n k, 1)) (hi : (k : Nat) = i) (hn : i < c0) (hl0 : (i, Value.int x) :: lv.filter (fun q : Nat × Value => !(q.1 == i) && !(q.1 + 1 == i && q.2.category == 2)) = lv') (kk : Y X D ws cells slots (pc + 1) lv' rest) : Y X D ws cells slots pc lv (.int x :: rest) := by
  obtain ⟨p, l, e, R, s, m, args, below, meth, c, z, Q, A⟩ := X
  obtain ⟨hx, hb, hts, hown, hK, hA, hAO, hlk, hR⟩ := C
  intro H locs ls hP hD hS hl
  exact lv_istore_n hx hb hdg hi hl (by rw [show c.maxLocals = c0 from hm]; exact hn) hl0 (fun ls' h' => kk H locs ls' hP hD hS h')
theorem y_astore_n (C : yOk X D ct cc own rm) (hm : zML X c0) {k : Fin 4} {i : Nat} {x : Nat} {lv' : List (Nat × Value)} (hdg : decode cc pc = .ok (.astore_n k, 1)) (hi : (k : Nat) = i) (hn : i < c0) (hl0 : (i, Value.ref x) :: lv.filter (fun q : Nat × Value => !(q.1 == i) && !(q.1 + 1 == i && q.2.category == 2)) = lv') (kk : Y X D ws cells slots (pc + 1) lv' rest) : Y X D ws cells slots pc lv (.ref x :: rest) := by
  obtain ⟨p, l, e, R, s, m, args, below, meth, c, z, Q, A⟩ := X
  obtain ⟨hx, hb, hts, hown, hK, hA, hAO, hlk, hR⟩ := C
  intro H locs ls hP hD hS hl
  exact lv_astore_n hx hb hdg hi hl (by rw [show c.maxLocals = c0 from hm]; exact hn) hl0 (fun ls' h' => kk H locs ls' hP hD hS h')
theorem y_iinc (C : yOk X D ct cc own rm) (hm : zML X c0) {i : Nat} (k : Nat) {n : Int} {x v : Int32} {lv' : List (Nat × Value)} (hdg : decode cc pc = .ok (.iinc i n, 3)) (hk : lv[k]? = some (i, .int x)) (hv : x + Int32.ofInt n = v) (hn : i < c0) (hl0 : (i, Value.int v) :: lv.filter (fun q : Nat × Value => !(q.1 == i) && !(q.1 + 1 == i && q.2.category == 2)) = lv') (kk : Y X D ws cells slots (pc + 3) lv' rest) : Y X D ws cells slots pc lv rest := by
  obtain ⟨p, l, e, R, s, m, args, below, meth, c, z, Q, A⟩ := X
  obtain ⟨hx, hb, hts, hown, hK, hA, hAO, hlk, hR⟩ := C
  intro H locs ls hP hD hS hl
  exact lv_iinc hx hb hdg hl hk hv (by rw [show c.maxLocals = c0 from hm]; exact hn) hl0 (fun ls' h' => kk H locs ls' hP hD hS h')
theorem y_icmp_ge_n (a b : Nat) {off : Int} {tgt : Nat} (C : yOk X D ct cc own rm) {x y : Int32} (hx : x = nI a) (hy : y = nI b) (ha : a < 2 ^ 31) (hb : b < 2 ^ 31) (hd : decode cc pc = .ok (.if_icmp .ge off, 3)) (ht : (pc : Int) + off = (tgt : Int)) (kt : b ≤ a → Y X D ws cells slots tgt lv rest) (kf : a < b → Y X D ws cells slots (pc + 3) lv rest) : Y X D ws cells slots pc lv (.int y :: .int x :: rest) := by
  subst hx; subst hy
  refine y_icmp_ge C hd ht (fun h => kt ?_) (fun h => kf ?_)
  · first | exact (nI_eq ha hb).mp h | exact fun q => h (by rw [q]) | exact (nI_ltI ha hb).mp h | exact (nI_ltI hb ha).mp h | exact (nI_leI ha hb).mp h | exact (nI_leI hb ha).mp h
  · first | exact (nI_eq ha hb).mp h | exact fun q => h (by rw [q]) | exact Classical.not_not.mp (fun q => h (fun z => q ((nI_eq ha hb).mp z))) | exact Nat.not_lt.mp (fun q => h ((nI_ltI ha hb).mpr q)) | exact Nat.not_lt.mp (fun q => h ((nI_ltI hb ha).mpr q)) | exact Nat.not_le.mp (fun q => h ((nI_leI ha hb).mpr q)) | exact Nat.not_le.mp (fun q => h ((nI_leI hb ha).mpr q))
theorem y_callI (C : yOk X D ct cc own rm) (hm : zML X c0) {index : Nat} {y : MethodName} {bytes : ByteArray} {maxL n mc ms : Nat} {rmc : Room} {F : (Nat → Nat) → va_W} (hc : zCl own index y bytes maxL none n) (hv : y.name = "<init>" ∧ Cond.instanceMethod y ∈ zT) {As : List Value} (hn : As.length = n) {b : Nat} {st : List Value} (hst : st = As.reverse ++ .ref b :: rest) {wc wr : va_W} (hM : yMet y bytes maxL rmc D ct (.ref b :: As) wc mc ms F) (hrm : rmc.cells = mc ∧ rmc.slots = ms ∧ rmc.frames + 1 ≤ rm.frames ∧ 8 + (maxL + 11) + rmc.locals ≤ rm.locals) (hcs : cells + mc ≤ rm.cells ∧ slots + ms ≤ rm.slots) (isC isR : List Nat) (hC : isC.map (fun i => ws[i]?) = wc.map some) (hW : isR.map (fun i => ws[i]?) = wr.map some) (hnC : va_nd isC = true) (hnR : va_nd isR = true) (hdis : ∀ i ∈ isR, i ∉ isC) (hcat : (rest.map fun v => v.category).sum ≤ 8) (hd : decode cc pc = .ok (.invokespecial index, 3))
    (kk : ∀ q, Y X D (wr ++ F q) (cells + mc) (slots + ms) (pc + 3) lv rest) : Y X D ws cells slots pc lv st := by
  obtain ⟨p, l, e, R, s, m, args, below, meth, c, z, Q, A⟩ := X
  obtain ⟨hx, hb, hts, hown, hK, hA, hAO, hlk, hR⟩ := C
  obtain ⟨g1, g2, g3, g4⟩ := hc
  intro H locs ls hP hD hS hl
  subst hR
  have hsz : ls.size = c0 := hl.1.trans hm
  have hPc := hP.sub (ws' := wc) isC (fm_of isC wc hC)
  have hDc := hD.sub isC hnC hC
  have hFc := va_free (wc := wc) hD hS hA isC hC
  refine va_callv (va_runI (b := b) (Ts := zT) (As := As) (rest := rest) (n := n) (nL := c0) ⟨hx, hb, hm, hown, hts⟩ (hM l H.size) ⟨callB_of n hts (zT_cons g3) rfl hrm.1 hrm.2.1 (hts _ g2) (hts _ g1) g4 hrm.2.2, hv.1, hts _ hv.2⟩ ⟨yPre_blind, fun U hU hW => ⟨rfl, by rw [hU], by rw [hU]; exact hPc, va_K.moved hW.alike hK, hDc.weaken (fun _ _ _ _ => trivial), kAO.moved hW.alike hAO⟩⟩ rfl hn hsz hst (lv_room hcat) hd hcs) hS (fun q _ h => hFc q h) hFc (fun u t H1 locs1 ht hvm hw hB hz1 hk1 hS1 => ?_)
  obtain ⟨hP1, hD1⟩ := hB
  rw [ht] at hP1
  obtain ⟨hP2, hD2⟩ := va_join (wr := wr) (w1 := F u) hP hD isC isR hC hW hnR hdis hk1 hFc hP1 hD1
  exact kk u H1 locs1 ls hP2 hD2 hS1 hl
theorem y_callS (C : yOk X D ct cc own rm) (hm : zML X c0) {index : Nat} {y : MethodName} {bytes : ByteArray} {maxL n mc ms : Nat} {rmc : Room} {F : (Nat → Nat) → va_W} (hc : zCl own index y bytes maxL none n) (hv : Cond.static y ∈ zT) {As : List Value} (hn : As.length = n) {st : List Value} (hst : st = As.reverse ++ rest) {wc wr : va_W} (hM : yMet y bytes maxL rmc D ct As wc mc ms F) (hrm : rmc.cells = mc ∧ rmc.slots = ms ∧ rmc.frames + 1 ≤ rm.frames ∧ 8 + (maxL + 11) + rmc.locals ≤ rm.locals) (hcs : cells + mc ≤ rm.cells ∧ slots + ms ≤ rm.slots) (isC isR : List Nat) (hC : isC.map (fun i => ws[i]?) = wc.map some) (hW : isR.map (fun i => ws[i]?) = wr.map some) (hnC : va_nd isC = true) (hnR : va_nd isR = true) (hdis : ∀ i ∈ isR, i ∉ isC) (hcat : (rest.map fun v => v.category).sum ≤ 8) (hd : decode cc pc = .ok (.invokestatic index, 3))
    (kk : ∀ q, Y X D (wr ++ F q) (cells + mc) (slots + ms) (pc + 3) lv rest) : Y X D ws cells slots pc lv st := by
  obtain ⟨p, l, e, R, s, m, args, below, meth, c, z, Q, A⟩ := X
  obtain ⟨hx, hb, hts, hown, hK, hA, hAO, hlk, hR⟩ := C
  obtain ⟨g1, g2, g3, g4⟩ := hc
  intro H locs ls hP hD hS hl
  subst hR
  have hsz : ls.size = c0 := hl.1.trans hm
  have hPc := hP.sub (ws' := wc) isC (fm_of isC wc hC)
  have hDc := hD.sub isC hnC hC
  have hFc := va_free (wc := wc) hD hS hA isC hC
  refine va_callv (va_runS (Ts := zT) (As := As) (rest := rest) (n := n) (nL := c0) ⟨hx, hb, hm, hown, hts⟩ (hM l H.size) ⟨callB_of n hts (zT_cons g3) rfl hrm.1 hrm.2.1 (hts _ g2) (hts _ g1) g4 hrm.2.2, hts _ hv⟩ ⟨yPre_blind, fun U hU hW => ⟨rfl, by rw [hU], by rw [hU]; exact hPc, va_K.moved hW.alike hK, hDc.weaken (fun _ _ _ _ => trivial), kAO.moved hW.alike hAO⟩⟩ rfl hn hsz hst (lv_room hcat) hd hcs) hS (fun q _ h => hFc q h) hFc (fun u t H1 locs1 ht hvm hw hB hz1 hk1 hS1 => ?_)
  obtain ⟨hP1, hD1⟩ := hB
  rw [ht] at hP1
  obtain ⟨hP2, hD2⟩ := va_join (wr := wr) (w1 := F u) hP hD isC isR hC hW hnR hdis hk1 hFc hP1 hD1
  exact kk u H1 locs1 ls hP2 hD2 hS1 hl
end YROWS
abbrev F_fill (ct : Nat → ClassId) (a n : Nat) (f : Nat → Int32) : (Nat → Nat) → va_W := fun _ => [(a, .inl (ct 0, n, .inl f))]
abbrev rm_yfill : Room := { frames := 0, cells := 0, slots := 0, locals := 0 }
set_option maxHeartbeats 1000000 in
theorem k_yfill (D : va_G) (ct : Nat → ClassId) (a n : Nat) (f : Nat → Int32) (v : Int32) (hn : n < 1000) : yMet yJ7_fill_53178 cJ7_fill_53178 4 rm_yfill D ct [.ref a, .int v] [(a, .inl (ct 0, n, .inl f))] 0 0 (F_fill ct a n (zfill v f n)) := by
  refine yMet_of2 (by decide) (Nat.le_of_ble_eq_true rfl) (fun X C hm hr => ?_)
  refine y_sub (lv' := [(0, .ref a), (1, .int v)]) [0, 1] rfl ?_
  refine y_iconst C (v := 0) dJ7_fill_53178_0 (by decide) ?_
  refine y_istore_n C hm (lv' := [(2, .int 0), (0, .ref a), (1, .int v)]) dJ7_fill_53178_1 rfl (by decide) rfl ?_
  refine y_aload_n C dJ7_fill_53178_2 rfl 1 rfl ?_
  refine y_alen C 0 (t := 0) (a := a) (n := n) rfl rfl (v := nI n) rfl dJ7_fill_53178_3 ?_
  refine y_istore_n C hm (lv' := [(3, .int (nI n)), (2, .int 0), (0, .ref a), (1, .int v)]) dJ7_fill_53178_4 rfl (by decide) rfl ?_
  have L5 : ∀ (d : Nat) (k : Nat), (n - k) < d → (k ≤ n) → Y X D [(a, .inl (ct 0, n, .inl (zfill v f k)))] 0 0 5 [(0, .ref a), (1, .int v), (2, .int (nI k)), (3, .int (nI n))] [] := by
    intro d
    induction d with
    | zero => intro k hd; exact absurd hd (Nat.not_lt_zero _)
    | succ d ih5 =>
      intro k hd5 hk
      refine y_iload_n C dJ7_fill_53178_5 rfl 2 rfl ?_
      refine y_iload_n C dJ7_fill_53178_6 rfl 3 rfl ?_
      refine y_icmp_ge_n k n (tgt := 20) C rfl rfl (by omega) (by omega) dJ7_fill_53178_7 (by decide) (fun c7 => ?_) (fun c7 => ?_)
      · have hkk : k = n := by omega
        subst hkk
        exact y_ret C hr dJ7_fill_53178_20 (fun _ => 0) rfl
      · refine y_aload_n C dJ7_fill_53178_10 rfl 0 rfl ?_
        refine y_iload_n C dJ7_fill_53178_11 rfl 2 rfl ?_
        refine y_iload_n C dJ7_fill_53178_12 rfl 1 rfl ?_
        refine y_iast C 0 (a := a) (n := n) (f := zfill v f k) rfl (k := k) c7 hn rfl [(a, .inl (ct 0, n, .inl (zfill v f (k + 1))))] (by rw [zfill_s]; rfl) dJ7_fill_53178_13 ?_
        refine y_iinc C hm 2 (v := nI (k + 1)) (lv' := [(2, .int (nI (k + 1))), (0, .ref a), (1, .int v), (3, .int (nI n))]) dJ7_fill_53178_14 rfl (nI_add k 1) (by decide) rfl ?_
        refine y_goto (tgt := 5) C dJ7_fill_53178_17 (by decide) ?_
        exact y_sub [1, 2, 0, 3] rfl (ih5 (k + 1) (by omega) (by omega))
  refine y_ws (ws' := [(a, .inl (ct 0, n, .inl (zfill v f 0)))]) (by rw [zfill_0]) ?_
  exact y_sub [2, 3, 1, 0] rfl (L5 _ 0 (Nat.lt_succ_self _) (by omega))
