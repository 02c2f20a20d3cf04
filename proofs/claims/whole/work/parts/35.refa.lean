/-! the reference: its small helpers -/
theorem in_z {x : Int32} {m : Nat} (hm : m < 2 ^ 31) : ((0 : Int32) ≤ x ∧ x ≤ nI m) ↔ zin x (m + 1) := by
  constructor
  · intro ⟨h1, h2⟩; exact zin_le (Int32.not_lt.mpr h1) (Int32.not_lt.mpr h2) hm
  · intro ⟨k, h1, h2⟩; subst h2; exact ⟨nI_pos' (by omega), nI_le (by omega) hm⟩
theorem in_n {x : Int32} {n : Nat} (hn : n < 2 ^ 31) : ((0 : Int32) ≤ x ∧ x ≤ nI n - 1) ↔ zin x n := by
  cases n with
  | zero =>
    constructor
    · intro ⟨h1, h2⟩; exact absurd (Int32.le_trans h1 h2) (by decide)
    · intro ⟨k, h1, _⟩; exact absurd h1 (Nat.not_lt_zero _)
  | succ n => rw [nI_pred]; exact in_z (by omega)
theorem in_1 {x : Int32} {m : Nat} (hm : m < 2 ^ 31) : ((1 : Int32) ≤ x ∧ x ≤ nI m) ↔ zi1 x m := by
  constructor
  · intro ⟨h1, h2⟩; exact zi1_of (Int32.not_lt.mpr h1) (Int32.not_lt.mpr h2) hm
  · intro ⟨k, h0, h1, h2⟩; subst h2; exact ⟨nI_le (a := 1) h0 (by omega), nI_le h1 hm⟩
theorem in_m {x : Int32} {m : Nat} (hm : m < 2 ^ 31) : ((-1 : Int32) ≤ x ∧ x ≤ nI m) ↔ (x = -1 ∨ zin x (m + 1)) := by
  constructor
  · intro ⟨h1, h2⟩
    by_cases q : x < 0
    · left
      apply Int32.toInt_inj.mp
      rw [Int32.lt_iff_toInt_lt] at q
      rw [Int32.le_iff_toInt_le] at h1
      have e1 : (-1 : Int32).toInt = -1 := by decide
      have e0 : (0 : Int32).toInt = 0 := by decide
      omega
    · exact Or.inr (zin_le q (Int32.not_lt.mpr h2) hm)
  · intro h
    rcases h with h | h
    · subst h; exact ⟨Int32.le_refl _, Int32.le_trans (by decide) (nI_pos' hm)⟩
    · have := (in_z hm).mpr h
      exact ⟨Int32.le_trans (by decide) this.1, this.2⟩
theorem in_mn {x : Int32} {n : Nat} (hn : n < 2 ^ 31) : ((-1 : Int32) ≤ x ∧ x ≤ nI n - 1) ↔ (x = -1 ∨ zin x n) := by
  cases n with
  | zero =>
    constructor
    · intro ⟨h1, h2⟩
      left
      apply Int32.toInt_inj.mp
      rw [Int32.le_iff_toInt_le] at h1 h2
      have e1 : (-1 : Int32).toInt = -1 := by decide
      have e0 : (nI 0 - 1 : Int32).toInt = -1 := by decide
      omega
    · intro h
      rcases h with h | ⟨k, h, _⟩
      · subst h; exact ⟨Int32.le_refl _, by decide⟩
      · exact absurd h (Nat.not_lt_zero _)
  | succ n => rw [nI_pred]; exact in_m (by omega)
theorem zb_e {m a : Nat} (hm : m < 2 ^ 31) (ha : a < 32) : ((nI m >>> (nI a &&& 31)) &&& 1) = nI (m / 2 ^ a % 2) := by
  rw [pk_shrN hm (nI a &&& 31) a (s_l a ha)]
  exact pk_andN (m := 1) (by have := Nat.div_le_self m (2 ^ a); omega) 1 (by decide)
theorem zb_i {m a : Nat} (hm : m < 2 ^ 31) (ha : a < 32) : ((nI m >>> (nI a &&& 31)) &&& 1) = 1 ↔ zb m a = true := by
  rw [zb_e hm ha]
  have h2 := Nat.mod_lt (m / 2 ^ a) (show 2 > 0 by decide)
  constructor
  · intro h
    have := (nI_eq (b := 1) (by omega) (by decide)).mp h
    unfold zb; rw [this]; rfl
  · intro h
    unfold zb at h
    rw [of_decide_eq_true h]; rfl
theorem ones_s : ∀ m, m < 512 → m ≠ 0 → nI m &&& (nI m - 1) = nI (m &&& (m - 1)) ∧ zpop (m &&& (m - 1)) + 1 = zpop m ∧ m &&& (m - 1) < m := by decide +kernel
def oM : Option Nat → Int32
  | none => -1
  | some k => nI k
theorem oM_neg {o : Option Nat} (hb : ∀ k, o = some k → k ≤ 99) : oM o < 0 ↔ o = none := by
  cases o with
  | none => exact ⟨fun _ => rfl, fun _ => by decide⟩
  | some k => exact ⟨fun h => absurd h (nI_pos (by have := hb k rfl; omega)), fun h => by cases h⟩
abbrev rm_X8_in : Room := { frames := 4, cells := 0, slots := 0, locals := 200 }
set_option maxRecDepth 100000 in
set_option maxHeartbeats 4000000 in
theorem k_X8_in (w : zW) (I : zI) (J : zJ)  (x : Int32) (lo : Int32) (hi : Int32)  : zMet yX8_in cX8_in 4 (some .boolean) rm_X8_in w [.ref (zad w 82), .int x, .int lo, .int hi] I J (zpi (fun v I' J' => v = bI (lo ≤ x ∧ x ≤ hi) ∧ I' = I ∧ J' = J)) := by
  refine zMet_of (by decide) (Nat.le_of_ble_eq_true rfl) (fun X C hm hr => ?_)
  refine z_sub (lv' := [(0, .ref (zad w 82)), (1, .int x), (2, .int lo), (3, .int hi)]) [0, 1, 2, 3] rfl ?_
  refine z_iload_n C dX8_in_0 rfl 1 rfl ?_
  refine z_iload_n C dX8_in_1 rfl 2 rfl ?_
  refine z_icmp_lt (tgt := 14) C dX8_in_2 (by decide) (fun c2 => ?_) (fun c2 => ?_)
  · skip
    refine z_iconst C (v := 0) dX8_in_14 (by decide) ?_
    refine z_iret C hr (by decide) dX8_in_15 ?_
    refine ⟨_, rfl, ?_⟩
    exact ⟨(bI_f (fun q => absurd q.1 (Int32.not_le.mpr c2))).symm, rfl, rfl⟩
  · skip
    refine z_iload_n C dX8_in_5 rfl 1 rfl ?_
    refine z_iload_n C dX8_in_6 rfl 3 rfl ?_
    refine z_icmp_gt (tgt := 14) C dX8_in_7 (by decide) (fun c7 => ?_) (fun c7 => ?_)
    · skip
      refine z_iconst C (v := 0) dX8_in_14 (by decide) ?_
      refine z_iret C hr (by decide) dX8_in_15 ?_
      refine ⟨_, rfl, ?_⟩
      exact ⟨(bI_f (fun q => absurd q.2 (Int32.not_le.mpr c7))).symm, rfl, rfl⟩
    · skip
      refine z_iconst C (v := 1) dX8_in_10 (by decide) ?_
      refine z_goto (tgt := 15) C dX8_in_11 (by decide) ?_
      refine z_iret C hr (by decide) dX8_in_15 ?_
      refine ⟨_, rfl, ?_⟩
      exact ⟨(bI_t ⟨Int32.not_lt.mp c2, Int32.not_lt.mp c7⟩).symm, rfl, rfl⟩
theorem nar_b (p : Prop) : narrow .boolean (.int (bI p)) = .int (bI p) := by
  rcases bI_b (p := p) with h | h <;> rw [h] <;> decide
abbrev rm_X8_isName : Room := { frames := 5, cells := 0, slots := 0, locals := 223 }
set_option maxRecDepth 100000 in
set_option maxHeartbeats 4000000 in
theorem k_X8_isName (w : zW) (I : zI) (J : zJ) (n : Nat) (x : Int32) (hN : I 82 0 = nI n) (hn : n ≤ 8) : zMet yX8_isName cX8_isName 2 (some .boolean) rm_X8_isName w [.ref (zad w 82), .int x] I J (zpi (fun v I' J' => v = bI (zin x n) ∧ I' = I ∧ J' = J)) := by
  refine zMet_of (by decide) (Nat.le_of_ble_eq_true rfl) (fun X C hm hr => ?_)
  refine z_sub (lv' := [(0, .ref (zad w 82)), (1, .int x)]) [0, 1] rfl ?_
  refine z_aload_n C dX8_isName_0 rfl 0 rfl ?_
  refine z_iload_n C dX8_isName_1 rfl 1 rfl ?_
  refine z_iconst C (v := 0) dX8_isName_2 (by decide) ?_
  refine z_aload_n C dX8_isName_3 rfl 0 rfl ?_
  refine z_geti C ff_X8_7 82 (by decide) sh82 rfl (v := nI n) hN dX8_isName_4 ?_
  refine z_iconst C (v := 1) dX8_isName_7 (by decide) ?_
  refine z_isub C dX8_isName_8 ?_
  refine z_callVi C hm cl_X8_189 cv_X8_in 82 (by decide) sh82 ⟨_, _, rfl⟩ [.int x, .int 0, .int ((nI n) - 1)] rfl (rest := []) rfl (k_X8_in w _ _ x (0) ((nI n) - 1)) ⟨rfl, rfl, Nat.le_of_ble_eq_true rfl, Nat.le_of_ble_eq_true rfl⟩ (Nat.le_of_ble_eq_true rfl) dX8_isName_9 (fun v_1 I_1 J_1 h_1 => ?_)
  obtain ⟨ev_1, ei_1, ej_1⟩ := h_1
  replace ei_1 := ei_1.symm; subst ei_1
  replace ej_1 := ej_1.symm; subst ej_1
  replace ev_1 := ev_1.trans (bI_c (in_n (n := n) (by omega))); subst ev_1
  refine z_iret C hr (nar_b _) dX8_isName_12 ?_
  refine ⟨_, rfl, ?_⟩
  exact ⟨rfl, rfl, rfl⟩
abbrev rm_X8_isTrade : Room := { frames := 5, cells := 0, slots := 0, locals := 223 }
set_option maxRecDepth 100000 in
set_option maxHeartbeats 4000000 in
theorem k_X8_isTrade (w : zW) (I : zI) (J : zJ) (tr : Nat) (x : Int32) (hT : I 82 27 = nI tr) (htr : tr ≤ 16) : zMet yX8_isTrade cX8_isTrade 2 (some .boolean) rm_X8_isTrade w [.ref (zad w 82), .int x] I J (zpi (fun v I' J' => v = bI (zin x tr) ∧ I' = I ∧ J' = J)) := by
  refine zMet_of (by decide) (Nat.le_of_ble_eq_true rfl) (fun X C hm hr => ?_)
  refine z_sub (lv' := [(0, .ref (zad w 82)), (1, .int x)]) [0, 1] rfl ?_
  refine z_aload_n C dX8_isTrade_0 rfl 0 rfl ?_
  refine z_iload_n C dX8_isTrade_1 rfl 1 rfl ?_
  refine z_iconst C (v := 0) dX8_isTrade_2 (by decide) ?_
  refine z_aload_n C dX8_isTrade_3 rfl 0 rfl ?_
  refine z_geti C ff_X8_93 82 (by decide) sh82 rfl (v := nI tr) hT dX8_isTrade_4 ?_
  refine z_iconst C (v := 1) dX8_isTrade_7 (by decide) ?_
  refine z_isub C dX8_isTrade_8 ?_
  refine z_callVi C hm cl_X8_189 cv_X8_in 82 (by decide) sh82 ⟨_, _, rfl⟩ [.int x, .int 0, .int ((nI tr) - 1)] rfl (rest := []) rfl (k_X8_in w _ _ x (0) ((nI tr) - 1)) ⟨rfl, rfl, Nat.le_of_ble_eq_true rfl, Nat.le_of_ble_eq_true rfl⟩ (Nat.le_of_ble_eq_true rfl) dX8_isTrade_9 (fun v_1 I_1 J_1 h_1 => ?_)
  obtain ⟨ev_1, ei_1, ej_1⟩ := h_1
  replace ei_1 := ei_1.symm; subst ei_1
  replace ej_1 := ej_1.symm; subst ej_1
  replace ev_1 := ev_1.trans (bI_c (in_n (n := tr) (by omega))); subst ev_1
  refine z_iret C hr (nar_b _) dX8_isTrade_12 ?_
  refine ⟨_, rfl, ?_⟩
  exact ⟨rfl, rfl, rfl⟩
abbrev rm_X8_isHour : Room := { frames := 5, cells := 0, slots := 0, locals := 223 }
set_option maxRecDepth 100000 in
set_option maxHeartbeats 4000000 in
theorem k_X8_isHour (w : zW) (I : zI) (J : zJ)  (x : Int32)  : zMet yX8_isHour cX8_isHour 2 (some .boolean) rm_X8_isHour w [.ref (zad w 82), .int x] I J (zpi (fun v I' J' => v = bI (zin x 100) ∧ I' = I ∧ J' = J)) := by
  refine zMet_of (by decide) (Nat.le_of_ble_eq_true rfl) (fun X C hm hr => ?_)
  refine z_sub (lv' := [(0, .ref (zad w 82)), (1, .int x)]) [0, 1] rfl ?_
  refine z_aload_n C dX8_isHour_0 rfl 0 rfl ?_
  refine z_iload_n C dX8_isHour_1 rfl 1 rfl ?_
  refine z_iconst C (v := 0) dX8_isHour_2 (by decide) ?_
  refine z_bipush C (v := 99) dX8_isHour_3 (by decide) ?_
  refine z_callVi C hm cl_X8_189 cv_X8_in 82 (by decide) sh82 ⟨_, _, rfl⟩ [.int x, .int 0, .int 99] rfl (rest := []) rfl (k_X8_in w _ _ x (0) (99)) ⟨rfl, rfl, Nat.le_of_ble_eq_true rfl, Nat.le_of_ble_eq_true rfl⟩ (Nat.le_of_ble_eq_true rfl) dX8_isHour_5 (fun v_1 I_1 J_1 h_1 => ?_)
  obtain ⟨ev_1, ei_1, ej_1⟩ := h_1
  replace ei_1 := ei_1.symm; subst ei_1
  replace ej_1 := ej_1.symm; subst ej_1
  replace ev_1 := ev_1.trans (bI_c (in_z (m := 99) (by decide))); subst ev_1
  refine z_iret C hr (nar_b _) dX8_isHour_8 ?_
  refine ⟨_, rfl, ?_⟩
  exact ⟨rfl, rfl, rfl⟩
abbrev rm_X8_isTape : Room := { frames := 5, cells := 0, slots := 0, locals := 223 }
set_option maxRecDepth 100000 in
set_option maxHeartbeats 4000000 in
theorem k_X8_isTape (w : zW) (I : zI) (J : zJ)  (x : Int32)  : zMet yX8_isTape cX8_isTape 2 (some .boolean) rm_X8_isTape w [.ref (zad w 82), .int x] I J (zpi (fun v I' J' => v = bI (zin x 6) ∧ I' = I ∧ J' = J)) := by
  refine zMet_of (by decide) (Nat.le_of_ble_eq_true rfl) (fun X C hm hr => ?_)
  refine z_sub (lv' := [(0, .ref (zad w 82)), (1, .int x)]) [0, 1] rfl ?_
  refine z_aload_n C dX8_isTape_0 rfl 0 rfl ?_
  refine z_iload_n C dX8_isTape_1 rfl 1 rfl ?_
  refine z_iconst C (v := 0) dX8_isTape_2 (by decide) ?_
  refine z_iconst C (v := 5) dX8_isTape_3 (by decide) ?_
  refine z_callVi C hm cl_X8_189 cv_X8_in 82 (by decide) sh82 ⟨_, _, rfl⟩ [.int x, .int 0, .int 5] rfl (rest := []) rfl (k_X8_in w _ _ x (0) (5)) ⟨rfl, rfl, Nat.le_of_ble_eq_true rfl, Nat.le_of_ble_eq_true rfl⟩ (Nat.le_of_ble_eq_true rfl) dX8_isTape_4 (fun v_1 I_1 J_1 h_1 => ?_)
  obtain ⟨ev_1, ei_1, ej_1⟩ := h_1
  replace ei_1 := ei_1.symm; subst ei_1
  replace ej_1 := ej_1.symm; subst ej_1
  replace ev_1 := ev_1.trans (bI_c (in_z (m := 5) (by decide))); subst ev_1
  refine z_iret C hr (nar_b _) dX8_isTape_7 ?_
  refine ⟨_, rfl, ?_⟩
  exact ⟨rfl, rfl, rfl⟩
abbrev rm_X8_has : Room := { frames := 4, cells := 0, slots := 0, locals := 200 }
set_option maxRecDepth 100000 in
set_option maxHeartbeats 4000000 in
theorem k_X8_has (w : zW) (I : zI) (J : zJ)  (m : Nat) (a : Nat) (hm2 : m < 2 ^ 31) (ha : a < 32) : zMet yX8_has cX8_has 3 (some .boolean) rm_X8_has w [.ref (zad w 82), .int (nI m), .int (nI a)] I J (zpi (fun v I' J' => v = bI (zb m a = true) ∧ I' = I ∧ J' = J)) := by
  refine zMet_of (by decide) (Nat.le_of_ble_eq_true rfl) (fun X C hm hr => ?_)
  refine z_sub (lv' := [(0, .ref (zad w 82)), (1, .int (nI m)), (2, .int (nI a))]) [0, 1, 2] rfl ?_
  refine z_iload_n C dX8_has_0 rfl 1 rfl ?_
  refine z_iload_n C dX8_has_1 rfl 2 rfl ?_
  refine z_ishr C dX8_has_2 ?_
  refine z_iconst C (v := 1) dX8_has_3 (by decide) ?_
  refine z_iand C dX8_has_4 ?_
  refine z_iconst C (v := 1) dX8_has_5 (by decide) ?_
  refine z_icmp_ne (tgt := 13) C dX8_has_6 (by decide) (fun c6 => ?_) (fun c6 => ?_)
  · skip
    refine z_iconst C (v := 0) dX8_has_13 (by decide) ?_
    refine z_iret C hr (by decide) dX8_has_14 ?_
    refine ⟨_, rfl, ?_⟩
    exact ⟨(bI_f (fun q => c6 ((zb_i hm2 ha).mpr q))).symm, rfl, rfl⟩
  · skip
    refine z_iconst C (v := 1) dX8_has_9 (by decide) ?_
    refine z_goto (tgt := 14) C dX8_has_10 (by decide) ?_
    refine z_iret C hr (by decide) dX8_has_14 ?_
    refine ⟨_, rfl, ?_⟩
    exact ⟨(bI_t ((zb_i hm2 ha).mp c6)).symm, rfl, rfl⟩
abbrev rm_X8_ones : Room := { frames := 4, cells := 0, slots := 0, locals := 200 }
set_option maxRecDepth 100000 in
set_option maxHeartbeats 4000000 in
theorem k_X8_ones (w : zW) (I : zI) (J : zJ)  (m : Nat) (hm5 : m < 512) : zMet yX8_ones cX8_ones 4 (some .int) rm_X8_ones w [.ref (zad w 82), .int (nI m)] I J (zpi (fun v I' J' => v = nI (zpop m) ∧ I' = I ∧ J' = J)) := by
  refine zMet_of (by decide) (Nat.le_of_ble_eq_true rfl) (fun X C hm hr => ?_)
  refine z_sub (lv' := [(0, .ref (zad w 82)), (1, .int (nI m))]) [0, 1] rfl ?_
  refine z_iconst C (v := 0) dX8_ones_0 (by decide) ?_
  refine z_istore_n C hm (lv' := [(2, .int 0), (0, .ref (zad w 82)), (1, .int (nI m))]) dX8_ones_1 rfl (by decide) rfl ?_
  refine z_iload_n C dX8_ones_2 rfl 2 rfl ?_
  refine z_istore_n C hm (lv' := [(3, .int (nI m)), (2, .int 0), (0, .ref (zad w 82)), (1, .int (nI m))]) dX8_ones_3 rfl (by decide) rfl ?_
  have L4 : ∀ (d : Nat) (L N : Nat) (v4_2 : Int32) (v4_3 : Int32), L < d → (L < 512) → (N + zpop L = zpop m) → v4_2 = nI N → v4_3 = nI L → Z X w I J 4 [(0, .ref (zad w 82)), (1, .int (nI m)), (2, .int v4_2), (3, .int v4_3)] [] := by
    intro d
    induction d with
    | zero => intro L N v4_2 v4_3 hd; exact absurd hd (Nat.not_lt_zero _)
    | succ d ih4 => 
      intro L N v4_2 v4_3 hd4 hl hs e_v4_2 e_v4_3
      replace e_v4_2 := e_v4_2.symm; subst e_v4_2
      replace e_v4_3 := e_v4_3.symm; subst e_v4_3
      refine z_iload_n C dX8_ones_4 rfl 3 rfl ?_
      refine z_if_eq (tgt := 20) C dX8_ones_5 (by decide) (fun c5 => ?_) (fun c5 => ?_)
      · skip
        have hl0 : L = 0 := (nI_0eq (by omega)).mp c5
        subst hl0
        refine z_iload_n C dX8_ones_20 rfl 2 rfl ?_
        refine z_iret C hr rfl dX8_ones_21 ?_
        refine ⟨_, rfl, ?_⟩
        exact ⟨by rw [← hs]; rfl, rfl, rfl⟩
      · skip
        have hl0 : L ≠ 0 := fun q => c5 (by rw [q]; rfl)
        refine z_iinc C hm 2 (v := nI (N + 1)) (lv' := [(2, .int (nI (N + 1))), (0, .ref (zad w 82)), (1, .int (nI m)), (3, .int (nI L))]) dX8_ones_8 rfl (nI_add N 1) (by decide) rfl ?_
        refine z_iload_n C dX8_ones_11 rfl 3 rfl ?_
        refine z_iload_n C dX8_ones_12 rfl 3 rfl ?_
        refine z_iconst C (v := 1) dX8_ones_13 (by decide) ?_
        refine z_isub C dX8_ones_14 ?_
        refine z_iand C dX8_ones_15 ?_
        refine z_istore_n C hm (lv' := [(3, .int ((nI L) &&& ((nI L) - 1))), (2, .int (nI (N + 1))), (0, .ref (zad w 82)), (1, .int (nI m))]) dX8_ones_16 rfl (by decide) rfl ?_
        refine z_goto (tgt := 4) C dX8_ones_17 (by decide) ?_
        exact z_sub [2, 3, 1, 0] rfl (ih4  (L &&& (L - 1)) (N + 1) _ _ (by have := (ones_s L hl hl0).2.2; omega) (by have := (ones_s L hl hl0).2.2; omega) (by have := (ones_s L hl hl0).2.1; omega) rfl (ones_s L hl hl0).1)
  exact z_sub [2, 3, 1, 0] rfl (L4 _ m 0 _ _ (Nat.lt_succ_self _) hm5 (Nat.zero_add _) rfl rfl)
