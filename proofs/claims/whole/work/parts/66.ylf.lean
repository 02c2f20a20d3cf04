/-! constructors: one turn of the two loops of the component -/
theorem one_at {α : Type} (l : List α) (x : α) : [l.length].map (fun i => (l ++ [x])[i]?) = [x].map some := by
  rw [List.map_cons, List.map_cons, List.getElem?_append_right (Nat.le_refl _), Nat.sub_self]
  rfl
theorem range_at {α : Type} (l : List α) (x : α) : (List.range l.length).map (fun i => (l ++ [x])[i]?) = l.map some := by
  apply List.ext_getElem?
  intro i
  rw [List.getElem?_map, List.getElem?_map]
  by_cases h : i < l.length
  · rw [List.getElem?_range h, Option.map_some, List.getElem?_append_left h, List.getElem?_eq_getElem h]
    rfl
  · rw [List.getElem?_eq_none (by rw [List.length_range]; omega), List.getElem?_eq_none (by omega)]
    rfl
theorem nd_of : ∀ (l : List Nat), l.Nodup → va_nd l = true
  | [], _ => rfl
  | a :: l, h => by
    simp only [va_nd, Bool.and_eq_true, decide_eq_true_eq]
    exact ⟨(List.nodup_cons.mp h).1, nd_of l (List.nodup_cons.mp h).2⟩
theorem nd_range (n : Nat) : va_nd (List.range n) = true := nd_of _ List.nodup_range
theorem not_one {n : Nat} : ∀ i ∈ List.range n, i ∉ [n] := fun i h q => by
  have h1 := List.mem_range.mp h
  have h2 := List.mem_singleton.mp q
  omega
theorem dfX0 : ∀ j, j < 5 → defaultValue (tyX0 j) = vp_V [.null, .int 0, .int 0, .int 0, .int 0] j := fun j hj => by
  match j, hj with
  | 0, _ => rfl
  | 1, _ => rfl
  | 2, _ => rfl
  | 3, _ => rfl
  | 4, _ => rfl
theorem dfX1 : ∀ j, j < 6 → defaultValue (tyX1 j) = vp_V [.null, .null, .null, .int 0, .null, .int 0] j := fun j hj => by
  match j, hj with
  | 0, _ => rfl
  | 1, _ => rfl
  | 2, _ => rfl
  | 3, _ => rfl
  | 4, _ => rfl
  | 5, _ => rfl
theorem dfX2 : ∀ j, j < 4 → defaultValue (tyX2 j) = vp_V [.null, .int 0, .long 0, .long 0] j := fun j hj => by
  match j, hj with
  | 0, _ => rfl
  | 1, _ => rfl
  | 2, _ => rfl
  | 3, _ => rfl
theorem dfX3 : ∀ j, j < 8 → defaultValue (tyX3 j) = vp_V [.null, .null, .null, .null, .null, .null, .int 0, .int 0] j := fun j hj => by
  match j, hj with
  | 0, _ => rfl
  | 1, _ => rfl
  | 2, _ => rfl
  | 3, _ => rfl
  | 4, _ => rfl
  | 5, _ => rfl
  | 6, _ => rfl
  | 7, _ => rfl
theorem dfX4 : ∀ j, j < 3 → defaultValue (tyX4 j) = vp_V [.int 0, .int 0, .null] j := fun j hj => by
  match j, hj with
  | 0, _ => rfl
  | 1, _ => rfl
  | 2, _ => rfl
theorem dfX5 : ∀ j, j < 3 → defaultValue (tyX5 j) = vp_V [.null, .int 0, .int 0] j := fun j hj => by
  match j, hj with
  | 0, _ => rfl
  | 1, _ => rfl
  | 2, _ => rfl
theorem dfX6 : ∀ j, j < 11 → defaultValue (tyX6 j) = vp_V [.null, .null, .null, .null, .null, .null, .null, .null, .int 0, .null, .int 0] j := fun j hj => by
  match j, hj with
  | 0, _ => rfl
  | 1, _ => rfl
  | 2, _ => rfl
  | 3, _ => rfl
  | 4, _ => rfl
  | 5, _ => rfl
  | 6, _ => rfl
  | 7, _ => rfl
  | 8, _ => rfl
  | 9, _ => rfl
  | 10, _ => rfl
set_option maxHeartbeats 1000000 in
theorem X7_itL {X : zX} {D : va_G} {ct : Nat → ClassId} {rm : Room} (C : yOk X D ct cX7_init RX7 rm) (hm : zML X 2) (hnw : yNw X RX7 55 yX1_init RX7) (hrf : 2 ≤ rm.frames) (hrl : 32 ≤ rm.locals) {base : va_W} {h0 qL iA n cells slots k : Nat} {fs : List Value} {f : Nat → Option Nat} (b0 : base[0]? = some (h0, .inr (7, fs))) (bf : fs[3]? = some (.ref qL)) (hi : iA ≠ 0) (bL : base[iA]? = some (qL, .inl (ct 3, 7, .inr (.inr (.inr (.inr f)))))) (bn : base.length = n) (hk : k < 7) {cells' slots' : Nat} (hc : cells + 5 = cells') (hs : slots + 136 = slots') (hc2 : cells' ≤ rm.cells) (hs2 : slots' ≤ rm.slots)
    (kk : ∀ h q b, b = base.set iA (qL, .inl (ct 3, 7, .inr (.inr (.inr (.inr (va_up f k (some h))))))) ++ F_X1_init ct h q → b[0]? = some (h0, .inr (7, fs)) → b[iA]? = some (qL, .inl (ct 3, 7, .inr (.inr (.inr (.inr (va_up f k (some h))))))) → b.length = n + 5 → Y X D b cells' slots' 76 [(1, .int (nI (k + 1))), (0, .ref h0)] []) : Y X D base cells slots 76 [(1, .int (nI k)), (0, .ref h0)] [] := by
  have hlA : iA < base.length := (List.getElem?_eq_some_iff.mp bL).1
  have hl0 : 0 < base.length := by omega
  subst hc; subst hs
  have w3 : Cond.initialized RX1 ∈ zT := (zin_r2 _ (List.mem_of_getElem? (i := 12) rfl))
  refine y_iload_n C dX7_init_76 rfl 0 rfl ?_
  refine y_aload_n C dX7_init_77 rfl 1 rfl ?_
  refine y_getq C ff_X7_24 0 b0 bf dX7_init_78 ?_
  refine y_alen C iA (t := 3) bL rfl (v := nI 7) rfl dX7_init_81 ?_
  refine y_icmp_ge_n k 7 (tgt := 104) C rfl rfl (by omega) (by decide) dX7_init_82 (by decide) (fun c => absurd hk (by omega)) (fun c => ?_)
  refine y_aload_n C dX7_init_85 rfl 1 rfl ?_
  refine y_getq C ff_X7_24 0 b0 bf dX7_init_86 ?_
  refine y_iload_n C dX7_init_89 rfl 0 rfl ?_
  refine y_new C tyX1 (ci := 1) (T := TX1) rfl inlX1 tyX1_ok (zin_r1 _ (List.mem_of_getElem? (i := 19) rfl)) (zin_r2 _ (List.mem_of_getElem? (i := 11) rfl)) w3 dfX1 (cells' := cells + 1) (slots' := slots + 6) rfl rfl (by omega) (by omega) dX7_init_90 (fun h => ?_)
  refine y_dup C dX7_init_93 rfl ?_
  refine y_callIN C hm hnw ⟨w3, (zin_r3 _ (List.mem_of_getElem? (i := 19) rfl)), by decide, by decide, by decide +kernel⟩ ⟨rfl, (zin_r3 _ (List.mem_of_getElem? (i := 18) rfl))⟩ (As := []) rfl (b := h) (rest := [.ref h, .int (nI k), .ref qL]) rfl (wc := [(h, .inr (1, [.null, .null, .null, .int 0, .null, .int 0]))]) (wr := base) (k_X1_init D ct h) ⟨rfl, rfl, hrf, hrl⟩ ⟨by show _ + 4 ≤ _; omega, by show _ + 130 ≤ _; omega⟩ [base.length] (List.range base.length) (one_at base _) (range_at base _) rfl (nd_range _) not_one (Nat.le_of_ble_eq_true rfl) dX7_init_94 (fun q => ?_)
  refine y_aast C iA 3 base.length 1 (r := (RX1, TX1, 6)) (by rw [List.getElem?_append_left hlA]; exact bL) rfl (by rw [List.getElem?_append_right (Nat.le_refl _), Nat.sub_self]; rfl) rfl hk (by decide) rfl dX7_init_97 ?_
  rw [List.set_append_left _ _ hlA]
  refine y_iinc C hm 0 (v := nI (k + 1)) (lv' := [(1, .int (nI (k + 1))), (0, .ref h0)]) dX7_init_98 rfl (nI_add k 1) (by decide) rfl ?_
  refine y_goto (tgt := 76) C dX7_init_101 (by decide) ?_
  refine kk h q _ rfl ?_ ?_ ?_
  · rw [List.getElem?_append_left (by rw [List.length_set]; exact hl0), List.getElem?_set_ne hi]; exact b0
  · rw [List.getElem?_append_left (by rw [List.length_set]; exact hlA), List.getElem?_set_self hlA]
  · rw [List.length_append, List.length_set, bn]; rfl
set_option maxHeartbeats 1000000 in
theorem X7_itT {X : zX} {D : va_G} {ct : Nat → ClassId} {rm : Room} (C : yOk X D ct cX7_init RX7 rm) (hm : zML X 2) (hnw : yNw X RX7 56 yX4_init RX7) (hrf : 2 ≤ rm.frames) (hrl : 32 ≤ rm.locals) {base : va_W} {h0 qL iA n cells slots k : Nat} {fs : List Value} {f : Nat → Option Nat} (b0 : base[0]? = some (h0, .inr (7, fs))) (bf : fs[11]? = some (.ref qL)) (hi : iA ≠ 0) (bL : base[iA]? = some (qL, .inl (ct 4, 6, .inr (.inr (.inr (.inr f)))))) (bn : base.length = n) (hk : k < 6) {cells' slots' : Nat} (hc : cells + 2 = cells') (hs : slots + 63 = slots') (hc2 : cells' ≤ rm.cells) (hs2 : slots' ≤ rm.slots)
    (kk : ∀ h q b, b = base.set iA (qL, .inl (ct 4, 6, .inr (.inr (.inr (.inr (va_up f k (some h))))))) ++ F_X4_init ct h q → b[0]? = some (h0, .inr (7, fs)) → b[iA]? = some (qL, .inl (ct 4, 6, .inr (.inr (.inr (.inr (va_up f k (some h))))))) → b.length = n + 2 → Y X D b cells' slots' 106 [(1, .int (nI (k + 1))), (0, .ref h0)] []) : Y X D base cells slots 106 [(1, .int (nI k)), (0, .ref h0)] [] := by
  have hlA : iA < base.length := (List.getElem?_eq_some_iff.mp bL).1
  have hl0 : 0 < base.length := by omega
  subst hc; subst hs
  have w3 : Cond.initialized RX4 ∈ zT := (zin_r2 _ (List.mem_of_getElem? (i := 14) rfl))
  refine y_iload_n C dX7_init_106 rfl 0 rfl ?_
  refine y_aload_n C dX7_init_107 rfl 1 rfl ?_
  refine y_getq C ff_X7_51 0 b0 bf dX7_init_108 ?_
  refine y_alen C iA (t := 4) bL rfl (v := nI 6) rfl dX7_init_111 ?_
  refine y_icmp_ge_n k 6 (tgt := 134) C rfl rfl (by omega) (by decide) dX7_init_112 (by decide) (fun c => absurd hk (by omega)) (fun c => ?_)
  refine y_aload_n C dX7_init_115 rfl 1 rfl ?_
  refine y_getq C ff_X7_51 0 b0 bf dX7_init_116 ?_
  refine y_iload_n C dX7_init_119 rfl 0 rfl ?_
  refine y_new C tyX4 (ci := 4) (T := TX4) rfl inlX4 tyX4_ok (zin_r2 _ (List.mem_of_getElem? (i := 9) rfl)) (zin_r2 _ (List.mem_of_getElem? (i := 13) rfl)) w3 dfX4 (cells' := cells + 1) (slots' := slots + 3) rfl rfl (by omega) (by omega) dX7_init_120 (fun h => ?_)
  refine y_dup C dX7_init_123 rfl ?_
  refine y_callIN C hm hnw ⟨w3, (zin_r4 _ (List.mem_of_getElem? (i := 2) rfl)), by decide, by decide, by decide +kernel⟩ ⟨rfl, (zin_r4 _ (List.mem_of_getElem? (i := 1) rfl))⟩ (As := []) rfl (b := h) (rest := [.ref h, .int (nI k), .ref qL]) rfl (wc := [(h, .inr (4, [.int 0, .int 0, .null]))]) (wr := base) (k_X4_init D ct h) ⟨rfl, rfl, hrf, hrl⟩ ⟨by show _ + 1 ≤ _; omega, by show _ + 60 ≤ _; omega⟩ [base.length] (List.range base.length) (one_at base _) (range_at base _) rfl (nd_range _) not_one (Nat.le_of_ble_eq_true rfl) dX7_init_124 (fun q => ?_)
  refine y_aast C iA 4 base.length 4 (r := (RX4, TX4, 3)) (by rw [List.getElem?_append_left hlA]; exact bL) rfl (by rw [List.getElem?_append_right (Nat.le_refl _), Nat.sub_self]; rfl) rfl hk (by decide) rfl dX7_init_127 ?_
  rw [List.set_append_left _ _ hlA]
  refine y_iinc C hm 0 (v := nI (k + 1)) (lv' := [(1, .int (nI (k + 1))), (0, .ref h0)]) dX7_init_128 rfl (nI_add k 1) (by decide) rfl ?_
  refine y_goto (tgt := 106) C dX7_init_131 (by decide) ?_
  refine kk h q _ rfl ?_ ?_ ?_
  · rw [List.getElem?_append_left (by rw [List.length_set]; exact hl0), List.getElem?_set_ne hi]; exact b0
  · rw [List.getElem?_append_left (by rw [List.length_set]; exact hlA), List.getElem?_set_self hlA]
  · rw [List.length_append, List.length_set, bn]; rfl
