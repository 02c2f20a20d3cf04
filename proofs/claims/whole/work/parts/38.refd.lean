/-! the reference's laws -/
def mTok : zTok → Int32
  | .inl 0 => -33
  | .inl 1 => -38
  | .inl _ => -124
  | .inr (l, r, n) => nI (1000 * l + 100 * r + n)
theorem mTok_pos {l r n : Nat} (h : l < 5 ∧ r < 3 ∧ n < 100) : ¬ nI (1000 * l + 100 * r + n) < 0 := nI_pos (by omega)
theorem mTok_not {t : zTok} (h : tkOk t) (e : mTok t = -33) : t = .inl 0 := by
  rcases t with k | ⟨l, r, n⟩
  · match k, e with
    | 0, _ => rfl
    | 1, e => exact absurd e (by decide)
    | k + 2, e => exact absurd e (by show ¬ (-124 : Int32) = -33; decide)
  · exact absurd (show nI (1000 * l + 100 * r + n) < 0 by rw [show nI (1000 * l + 100 * r + n) = -33 from e]; decide) (mTok_pos h)
theorem mTok_bin {t : zTok} (h : tkOk t) (e1 : mTok t ≠ -33) (e2 : ¬ (0 : Int32) ≤ mTok t) : (t = .inl 1 ∧ mTok t = -38) ∨ (t = .inl 2 ∧ mTok t ≠ -38) := by
  rcases t with k | ⟨l, r, n⟩
  · have hk : k < 3 := h
    match k, hk with
    | 0, _ => exact absurd rfl e1
    | 1, _ => exact Or.inl ⟨rfl, rfl⟩
    | 2, _ => exact Or.inr ⟨rfl, by decide⟩
  · exact absurd (Int32.not_lt.mp (mTok_pos h)) e2
theorem mTok_test {t : zTok} (h : tkOk t) (e1 : (0 : Int32) ≤ mTok t) : ∃ l r n, t = .inr (l, r, n) ∧ l < 5 ∧ r < 3 ∧ n < 100 ∧ mTok t = nI (1000 * l + 100 * r + n) := by
  rcases t with k | ⟨l, r, n⟩
  · match k, e1 with
    | 0, e => exact absurd e (by decide)
    | 1, e => exact absurd e (by decide)
    | k + 2, e => exact absurd e (by show ¬ (0 : Int32) ≤ -124; decide)
  · exact ⟨l, r, n, rfl, h.1, h.2.1, h.2.2, rfl⟩
theorem aEv_bin {env : Nat → Int32} {t : zTok} {ts : List zTok} {st : List Bool} {r : Bool} (ht : (t = .inl 1 ∧ mTok t = -38) ∨ (t = .inl 2 ∧ mTok t ≠ -38)) (h : aEv env (t :: ts) st = some [r]) : ∃ b0 c0 st0, st = b0 :: c0 :: st0 ∧ (mTok t = -38 → aEv env ts ((c0 && b0) :: st0) = some [r]) ∧ (mTok t ≠ -38 → aEv env ts ((c0 || b0) :: st0) = some [r]) := by
  rcases ht with ⟨h1, h2⟩ | ⟨h1, h2⟩
  · subst h1
    obtain ⟨b0, c0, st0, h3, h4⟩ := aEv_1 h
    exact ⟨b0, c0, st0, h3, fun _ => h4, fun q => absurd h2 q⟩
  · subst h1
    obtain ⟨b0, c0, st0, h3, h4⟩ := aEv_2 h
    exact ⟨b0, c0, st0, h3, fun q => absurd q h2, fun _ => h4⟩
def b2 (b : Bool) : Int32 := if b = true then 1 else 0
theorem b2_bI {b : Bool} : b2 b = bI (b = true) := by
  cases b with
  | true => exact (bI_t rfl).symm
  | false => exact (bI_f (fun q => Bool.noConfusion q)).symm
theorem b2_nar (b : Bool) : vp_nar .boolean (b2 b) = b2 b := by cases b <;> decide
theorem b2_ret (b : Bool) : narrow .boolean (.int (b2 b)) = .int (b2 b) := by cases b <;> decide
theorem b2_0 {b : Bool} (h : b2 b = 0) : b = false := by cases b with
  | true => exact absurd h (by decide)
  | false => rfl
theorem b2_1 {b : Bool} (h : ¬ b2 b = 0) : b = true := by cases b with
  | true => rfl
  | false => exact absurd rfl h
def zPile (f : Nat → Int32) : List Bool → Prop
  | [] => True
  | b :: st => f st.length = b2 b ∧ zPile f st
theorem zPile_u {f : Nat → Int32} {k : Nat} {x : Int32} : ∀ {st : List Bool}, st.length ≤ k → zPile f st → zPile (upd f k x) st
  | [], _, _ => trivial
  | b :: st, hk, h => ⟨by rw [upd_n (by have : st.length + 1 ≤ k := hk; omega)]; exact h.1, zPile_u (by have : st.length + 1 ≤ k := hk; omega) h.2⟩
theorem zPile_p {f : Nat → Int32} {st : List Bool} {b : Bool} {x : Int32} (h : zPile f st) (hx : x = b2 b) : zPile (upd f st.length x) (b :: st) := ⟨by rw [hx]; exact upd_s, zPile_u (Nat.le_refl _) h⟩
/-- a law of the reference: its clauses' rows -/
def mLaw (I : zI) (l : Nat) (A : List zCla) : Prop := aOk A ∧ I 87 l = nI A.length ∧ ∀ j, j < A.length → I 88 (10 * l + j) = nI (A.getD j dCl).1 ∧ I 89 (10 * l + j) = nI (A.getD j dCl).2.1 ∧ ((A.getD j dCl).1 < 2 → ∃ u, u + (A.getD j dCl).2.2.length ≤ 600 ∧ I 90 (10 * l + j) = nI u ∧ I 91 (10 * l + j) = nI (u + (A.getD j dCl).2.2.length) ∧ ∀ k, k < (A.getD j dCl).2.2.length → I 92 (u + k) = mTok ((A.getD j dCl).2.2.getD k dTk))
/-- the law that holds, by its number among all and none -/
def mHeld (I : zI) (h : Nat) (A : List zCla) : Prop := (h = 0 ∧ I 82 5 = -1 ∧ A = []) ∨ (∃ l, h = l + 1 ∧ l < 6 ∧ I 82 5 = nI l ∧ mLaw I l A)
theorem mHeld_ok {I : zI} {h : Nat} {A : List zCla} (H : mHeld I h A) : aOk A := by
  rcases H with ⟨_, _, e⟩ | ⟨l, _, _, _, e⟩
  · subst e; exact ⟨Nat.zero_le _, fun q h => absurd h List.not_mem_nil⟩
  · exact e.1
theorem mHeld_c {I : zI} {h : Nat} {A : List zCla} (H : mHeld I h A) : ∀ j, j < A.length → 10 * (h - 1) + j < 60 ∧ I 88 (10 * (h - 1) + j) = nI (A.getD j dCl).1 ∧ I 89 (10 * (h - 1) + j) = nI (A.getD j dCl).2.1 ∧ ((A.getD j dCl).1 < 2 → ∃ u, u + (A.getD j dCl).2.2.length ≤ 600 ∧ I 90 (10 * (h - 1) + j) = nI u ∧ I 91 (10 * (h - 1) + j) = nI (u + (A.getD j dCl).2.2.length) ∧ ∀ k, k < (A.getD j dCl).2.2.length → I 92 (u + k) = mTok ((A.getD j dCl).2.2.getD k dTk)) := by
  intro j hj
  rcases H with ⟨_, _, e⟩ | ⟨l, h1, h2, h3, h4, h5, h6⟩
  · subst e; exact absurd hj (Nat.not_lt_zero _)
  · subst h1
    have hl := h4.1
    rw [Nat.add_sub_cancel]
    exact ⟨by omega, h6 j hj⟩
theorem mHeld_f {I K : zI} {h : Nat} {A : List zCla} (e5 : K 82 5 = I 82 5) (e : ∀ k, 87 ≤ k → k ≤ 92 → K k = I k) (H : mHeld I h A) : mHeld K h A := by
  unfold mHeld mLaw at H ⊢
  rw [e5, e 87 (by decide) (by decide), e 88 (by decide) (by decide), e 89 (by decide) (by decide), e 90 (by decide) (by decide), e 91 (by decide) (by decide), e 92 (by decide) (by decide)]
  exact H
theorem dv1000 {v : Nat} (h : v < 2 ^ 31) : nI v / 1000 = nI (v / 1000) := pk_div (d := 1000) h (by decide) (by decide)
theorem md10 {v : Nat} (h : v < 2 ^ 31) : nI v - nI v / 10 * 10 = nI (v % 10) := pk_rem (d := 10) h (by decide) (by decide)
abbrev rm_X8_first : Room := { frames := 4, cells := 0, slots := 0, locals := 200 }
set_option maxRecDepth 100000 in
set_option maxHeartbeats 4000000 in
theorem k_X8_first (w : zW) (I : zI) (J : zJ) (h : Nat) (A : List zCla)  (hh : h < 7) (hM : mHeld I h A) : zMet yX8_first cX8_first 1 (some .int) rm_X8_first w [.ref (zad w 82)] I J (zpi (fun v I' J' => v = nI (10 * (h - 1)) ∧ I' = I ∧ J' = J)) := by
  refine zMet_of (by decide) (Nat.le_of_ble_eq_true rfl) (fun X C hm hr => ?_)
  refine z_sub (lv' := [(0, .ref (zad w 82))]) [0] rfl ?_
  rcases hM with ⟨rfl, h5, rfl⟩ | ⟨l, rfl, hl6, h5, h87⟩
  · skip
    refine z_aload_n C dX8_first_0 rfl 0 rfl ?_
    refine z_geti C ff_X8_26 82 (by decide) sh82 rfl (v := -1) h5 dX8_first_1 ?_
    refine z_if_ge (tgt := 11) C dX8_first_4 (by decide) (fun c4 => ?_) (fun c4 => ?_)
    · skip
      exact absurd c4 (by decide)
    · skip
      refine z_iconst C (v := 0) dX8_first_7 (by decide) ?_
      refine z_goto (tgt := 18) C dX8_first_8 (by decide) ?_
      refine z_iret C hr rfl dX8_first_18 ?_
      refine ⟨_, rfl, ?_⟩
      exact ⟨rfl, rfl, rfl⟩
  · skip
    refine z_aload_n C dX8_first_0 rfl 0 rfl ?_
    refine z_geti C ff_X8_26 82 (by decide) sh82 rfl (v := nI l) h5 dX8_first_1 ?_
    refine z_if_ge (tgt := 11) C dX8_first_4 (by decide) (fun c4 => ?_) (fun c4 => ?_)
    · skip
      refine z_bipush C (v := 10) dX8_first_11 (by decide) ?_
      refine z_aload_n C dX8_first_13 rfl 0 rfl ?_
      refine z_geti C ff_X8_26 82 (by decide) sh82 rfl (v := nI l) h5 dX8_first_14 ?_
      refine z_imul C dX8_first_17 ?_
      refine z_ti (y := nI (10 * l)) (pk_mul 10 l) ?_
      refine z_iret C hr rfl dX8_first_18 ?_
      refine ⟨_, rfl, ?_⟩
      exact ⟨rfl, rfl, rfl⟩
    · skip
      exact absurd (nI_pos' (by omega)) c4
abbrev rm_X8_behind : Room := { frames := 4, cells := 0, slots := 0, locals := 200 }
set_option maxRecDepth 100000 in
set_option maxHeartbeats 4000000 in
theorem k_X8_behind (w : zW) (I : zI) (J : zJ) (h : Nat) (A : List zCla)  (hh : h < 7) (hM : mHeld I h A) : zMet yX8_behind cX8_behind 1 (some .int) rm_X8_behind w [.ref (zad w 82)] I J (zpi (fun v I' J' => v = nI (10 * (h - 1) + A.length) ∧ I' = I ∧ J' = J)) := by
  refine zMet_of (by decide) (Nat.le_of_ble_eq_true rfl) (fun X C hm hr => ?_)
  refine z_sub (lv' := [(0, .ref (zad w 82))]) [0] rfl ?_
  rcases hM with ⟨rfl, h5, rfl⟩ | ⟨l, rfl, hl6, h5, h87⟩
  · skip
    refine z_aload_n C dX8_behind_0 rfl 0 rfl ?_
    refine z_geti C ff_X8_26 82 (by decide) sh82 rfl (v := -1) h5 dX8_behind_1 ?_
    refine z_if_ge (tgt := 11) C dX8_behind_4 (by decide) (fun c4 => ?_) (fun c4 => ?_)
    · skip
      exact absurd c4 (by decide)
    · skip
      refine z_iconst C (v := 0) dX8_behind_7 (by decide) ?_
      refine z_goto (tgt := 28) C dX8_behind_8 (by decide) ?_
      refine z_iret C hr rfl dX8_behind_28 ?_
      refine ⟨_, rfl, ?_⟩
      exact ⟨rfl, rfl, rfl⟩
  · skip
    refine z_aload_n C dX8_behind_0 rfl 0 rfl ?_
    refine z_geti C ff_X8_26 82 (by decide) sh82 rfl (v := nI l) h5 dX8_behind_1 ?_
    refine z_if_ge (tgt := 11) C dX8_behind_4 (by decide) (fun c4 => ?_) (fun c4 => ?_)
    · skip
      refine z_bipush C (v := 10) dX8_behind_11 (by decide) ?_
      refine z_aload_n C dX8_behind_13 rfl 0 rfl ?_
      refine z_geti C ff_X8_26 82 (by decide) sh82 rfl (v := nI l) h5 dX8_behind_14 ?_
      refine z_imul C dX8_behind_17 ?_
      refine z_ti (y := nI (10 * l)) (pk_mul 10 l) ?_
      refine z_aload_n C dX8_behind_18 rfl 0 rfl ?_
      refine z_getr C ff_X8_41 82 (by decide) sh82 rfl dX8_behind_19 ?_
      refine z_aload_n C dX8_behind_22 rfl 0 rfl ?_
      refine z_geti C ff_X8_26 82 (by decide) sh82 rfl (v := nI l) h5 dX8_behind_23 ?_
      refine z_iald C 87 (by decide) sh87 l (by omega) (by decide) rfl (v := nI A.length) h87.2.1 dX8_behind_26 ?_
      refine z_iadd C dX8_behind_27 ?_
      refine z_iret C hr rfl dX8_behind_28 ?_
      refine ⟨_, rfl, ?_⟩
      exact ⟨nI_add _ _, rfl, rfl⟩
    · skip
      exact absurd (nI_pos' (by omega)) c4
abbrev rm_X8_last : Room := { frames := 5, cells := 0, slots := 0, locals := 220 }
set_option maxRecDepth 100000 in
set_option maxHeartbeats 4000000 in
theorem k_X8_last (w : zW) (I : zI) (J : zJ) (h : Nat) (A : List zCla) (wn : Nat) (un : Nat) (hh : h < 7) (hM : mHeld I h A) (hw5 : wn < 5) (hun : un ≤ 999) : zMet yX8_last cX8_last 5 (some .int) rm_X8_last w [.ref (zad w 82), .int (nI wn), .int (nI un)] I J (zpi (fun v I' J' => v = nI (aLast wn A un) ∧ I' = I ∧ J' = J)) := by
  refine zMet_of (by decide) (Nat.le_of_ble_eq_true rfl) (fun X C hm hr => ?_)
  refine z_sub (lv' := [(0, .ref (zad w 82)), (1, .int (nI wn)), (2, .int (nI un))]) [0, 1, 2] rfl ?_
  have hA10 := (mHeld_ok hM).1
  refine z_iload_n C dX8_last_0 rfl 2 rfl ?_
  refine z_istore_n C hm (lv' := [(3, .int (nI un)), (0, .ref (zad w 82)), (1, .int (nI wn)), (2, .int (nI un))]) dX8_last_1 rfl (by decide) rfl ?_
  refine z_aload_n C dX8_last_2 rfl 1 rfl ?_
  refine z_callVi C hm cl_X8_251 cv_X8_first 82 (by decide) sh82 ⟨_, _, rfl⟩ [] rfl (rest := []) rfl (k_X8_first w _ _ h A  hh hM) ⟨rfl, rfl, Nat.le_of_ble_eq_true rfl, Nat.le_of_ble_eq_true rfl⟩ (Nat.le_of_ble_eq_true rfl) dX8_last_3 (fun v_1 I_1 J_1 h_1 => ?_)
  obtain ⟨ev_1, ei_1, ej_1⟩ := h_1
  replace ev_1 := ev_1.symm; subst ev_1
  replace ei_1 := ei_1.symm; subst ei_1
  replace ej_1 := ej_1.symm; subst ej_1
  refine z_istore C hm (lv' := [(4, .int (nI (10 * (h - 1)))), (3, .int (nI un)), (0, .ref (zad w 82)), (1, .int (nI wn)), (2, .int (nI un))]) dX8_last_6 (by decide) rfl ?_
  have L8 : ∀ (d : Nat) (k acc : Nat) (v8_3 : Int32) (v8_4 : Int32), (A.length - k) < d → (k ≤ A.length) → (aLast wn (A.drop k) acc = aLast wn A un) → v8_3 = nI acc → v8_4 = nI (10 * (h - 1) + k) → Z X w I J 8 [(0, .ref (zad w 82)), (1, .int (nI wn)), (2, .int (nI un)), (3, .int v8_3), (4, .int v8_4)] [] := by
    intro d
    induction d with
    | zero => intro k acc v8_3 v8_4 hd; exact absurd hd (Nat.not_lt_zero _)
    | succ d ih8 => 
      intro k acc v8_3 v8_4 hd8 hk hS e_v8_3 e_v8_4
      replace e_v8_3 := e_v8_3.symm; subst e_v8_3
      replace e_v8_4 := e_v8_4.symm; subst e_v8_4
      refine z_iload C dX8_last_8 4 rfl ?_
      refine z_aload_n C dX8_last_10 rfl 0 rfl ?_
      refine z_callVi C hm cl_X8_254 cv_X8_behind 82 (by decide) sh82 ⟨_, _, rfl⟩ [] rfl (rest := [.int (nI (10 * (h - 1) + k))]) rfl (k_X8_behind w _ _ h A  hh hM) ⟨rfl, rfl, Nat.le_of_ble_eq_true rfl, Nat.le_of_ble_eq_true rfl⟩ (Nat.le_of_ble_eq_true rfl) dX8_last_11 (fun v_2 I_2 J_2 h_2 => ?_)
      obtain ⟨ev_2, ei_2, ej_2⟩ := h_2
      replace ev_2 := ev_2.symm; subst ev_2
      replace ei_2 := ei_2.symm; subst ei_2
      replace ej_2 := ej_2.symm; subst ej_2
      refine z_icmp_ge_n (10 * (h - 1) + k) (10 * (h - 1) + A.length) (tgt := 46) C rfl rfl (by omega) (by omega) dX8_last_14 (by decide) (fun c14 => ?_) (fun c14 => ?_)
      · skip
        have hkk : k = A.length := by omega
        rw [hkk, List.drop_length, aLast] at hS
        refine z_iload_n C dX8_last_46 rfl 3 rfl ?_
        refine z_iret C hr rfl dX8_last_47 ?_
        refine ⟨_, rfl, ?_⟩
        exact ⟨by rw [hS], rfl, rfl⟩
      · skip
        have hkl : k < A.length := by omega
        obtain ⟨wb, w1, w2, -⟩ := mHeld_c hM k hkl
        obtain ⟨hq1, hq2, hq3⟩ := (mHeld_ok hM).2 _ (getD_mem dCl hkl)
        rw [drop_at dCl hkl] at hS
        refine z_aload_n C dX8_last_17 rfl 0 rfl ?_
        refine z_getr C ff_X8_44 82 (by decide) sh82 rfl dX8_last_18 ?_
        refine z_iload C dX8_last_21 4 rfl ?_
        refine z_iald C 88 (by decide) sh88 (10 * (h - 1) + k) (by omega) (by decide) rfl (v := nI ((A.getD k dCl).1)) w1 dX8_last_23 ?_
        refine z_iload_n C dX8_last_24 rfl 1 rfl ?_
        refine z_icmp_ne_n ((A.getD k dCl).1) wn (tgt := 38) C rfl rfl (by omega) (by omega) dX8_last_25 (by decide) (fun c25 => ?_) (fun c25 => ?_)
        · skip
          refine z_iload_n C dX8_last_38 rfl 3 rfl ?_
          refine z_istore_n C hm (lv' := [(3, .int (nI acc)), (0, .ref (zad w 82)), (1, .int (nI wn)), (2, .int (nI un)), (4, .int (nI (10 * (h - 1) + k)))]) dX8_last_39 rfl (by decide) rfl ?_
          refine z_iinc C hm 4 (v := nI (10 * (h - 1) + k + 1)) (lv' := [(4, .int (nI (10 * (h - 1) + k + 1))), (3, .int (nI acc)), (0, .ref (zad w 82)), (1, .int (nI wn)), (2, .int (nI un))]) dX8_last_40 rfl (nI_add (10 * (h - 1) + k) 1) (by decide) rfl ?_
          refine z_goto (tgt := 8) C dX8_last_43 (by decide) ?_
          exact z_sub [2, 3, 4, 1, 0] rfl (ih8  (k + 1) acc _ _ (by omega) (by omega) (by rw [aLast, if_neg c25] at hS; exact hS) rfl rfl)
        · skip
          refine z_aload_n C dX8_last_28 rfl 0 rfl ?_
          refine z_getr C ff_X8_47 82 (by decide) sh82 rfl dX8_last_29 ?_
          refine z_iload C dX8_last_32 4 rfl ?_
          refine z_iald C 89 (by decide) sh89 (10 * (h - 1) + k) (by omega) (by decide) rfl (v := nI ((A.getD k dCl).2.1)) w2 dX8_last_34 ?_
          refine z_goto (tgt := 39) C dX8_last_35 (by decide) ?_
          refine z_istore_n C hm (lv' := [(3, .int (nI ((A.getD k dCl).2.1))), (0, .ref (zad w 82)), (1, .int (nI wn)), (2, .int (nI un)), (4, .int (nI (10 * (h - 1) + k)))]) dX8_last_39 rfl (by decide) rfl ?_
          refine z_iinc C hm 4 (v := nI (10 * (h - 1) + k + 1)) (lv' := [(4, .int (nI (10 * (h - 1) + k + 1))), (3, .int (nI ((A.getD k dCl).2.1))), (0, .ref (zad w 82)), (1, .int (nI wn)), (2, .int (nI un))]) dX8_last_40 rfl (nI_add (10 * (h - 1) + k) 1) (by decide) rfl ?_
          refine z_goto (tgt := 8) C dX8_last_43 (by decide) ?_
          exact z_sub [2, 3, 4, 1, 0] rfl (ih8  (k + 1) (A.getD k dCl).2.1 _ _ (by omega) (by omega) (by rw [aLast, if_pos c25] at hS; exact hS) rfl rfl)
  exact z_sub [2, 3, 4, 1, 0] rfl (L8 _ 0 un _ _ (Nat.lt_succ_self _) (by omega) rfl rfl rfl)
abbrev rm_X8_ask : Room := { frames := 4, cells := 0, slots := 0, locals := 200 }
set_option maxRecDepth 100000 in
set_option maxHeartbeats 4000000 in
theorem k_X8_ask (w : zW) (I : zI) (J : zJ)  (a : Int32) (b : Int32) (s : Int32) (l : Int32) (f : Int32)  : zMet yX8_ask cX8_ask 6 none rm_X8_ask w [.ref (zad w 82), .int a, .int b, .int s, .int l, .int f] I J (zpv (fun I' J' => (∃ F, I' = zup I 94 F ∧ ∀ k, k < 5 → F k = zenv a b s l f k) ∧ J' = J)) := by
  refine zMet_of (by decide) (Nat.le_of_ble_eq_true rfl) (fun X C hm hr => ?_)
  refine z_sub (lv' := [(0, .ref (zad w 82)), (1, .int a), (2, .int b), (3, .int s), (4, .int l), (5, .int f)]) [0, 1, 2, 3, 4, 5] rfl ?_
  refine z_aload_n C dX8_ask_0 rfl 0 rfl ?_
  refine z_getr C ff_X8_71 82 (by decide) sh82 rfl dX8_ask_1 ?_
  refine z_iconst C (v := 0) dX8_ask_4 (by decide) ?_
  refine z_iload_n C dX8_ask_5 rfl 1 rfl ?_
  refine z_iast C 94 (by decide) sh94 0 (by omega) (by decide) rfl dX8_ask_6 ?_
  refine z_I (I' := zup I 94 (upd (I 94) 0 a)) rfl ?_
  refine z_aload_n C dX8_ask_7 rfl 0 rfl ?_
  refine z_getr C ff_X8_71 82 (by decide) sh82 rfl dX8_ask_8 ?_
  refine z_iconst C (v := 1) dX8_ask_11 (by decide) ?_
  refine z_iload_n C dX8_ask_12 rfl 2 rfl ?_
  refine z_iast C 94 (by decide) sh94 1 (by omega) (by decide) rfl dX8_ask_13 ?_
  refine z_I (I' := zup I 94 (upd (upd (I 94) 0 a) 1 b)) (by rw [zup_s, zup_up]) ?_
  refine z_aload_n C dX8_ask_14 rfl 0 rfl ?_
  refine z_getr C ff_X8_71 82 (by decide) sh82 rfl dX8_ask_15 ?_
  refine z_iconst C (v := 2) dX8_ask_18 (by decide) ?_
  refine z_iload_n C dX8_ask_19 rfl 3 rfl ?_
  refine z_iast C 94 (by decide) sh94 2 (by omega) (by decide) rfl dX8_ask_20 ?_
  refine z_I (I' := zup I 94 (upd (upd (upd (I 94) 0 a) 1 b) 2 s)) (by rw [zup_s, zup_up]) ?_
  refine z_aload_n C dX8_ask_21 rfl 0 rfl ?_
  refine z_getr C ff_X8_71 82 (by decide) sh82 rfl dX8_ask_22 ?_
  refine z_iconst C (v := 3) dX8_ask_25 (by decide) ?_
  refine z_iload C dX8_ask_26 4 rfl ?_
  refine z_iast C 94 (by decide) sh94 3 (by omega) (by decide) rfl dX8_ask_28 ?_
  refine z_I (I' := zup I 94 (upd (upd (upd (upd (I 94) 0 a) 1 b) 2 s) 3 l)) (by rw [zup_s, zup_up]) ?_
  refine z_aload_n C dX8_ask_29 rfl 0 rfl ?_
  refine z_getr C ff_X8_71 82 (by decide) sh82 rfl dX8_ask_30 ?_
  refine z_iconst C (v := 4) dX8_ask_33 (by decide) ?_
  refine z_iload C dX8_ask_34 5 rfl ?_
  refine z_iast C 94 (by decide) sh94 4 (by omega) (by decide) rfl dX8_ask_36 ?_
  refine z_I (I' := zup I 94 (upd (upd (upd (upd (upd (I 94) 0 a) 1 b) 2 s) 3 l) 4 f)) (by rw [zup_s, zup_up]) ?_
  refine z_vret C hr dX8_ask_37 ?_
  refine ⟨rfl, ?_⟩
  refine ⟨⟨_, rfl, fun k hk => ?_⟩, rfl⟩
  match k, hk with
  | 0, _ => rfl
  | 1, _ => rfl
  | 2, _ => rfl
  | 3, _ => rfl
  | 4, _ => rfl
abbrev rm_X8_holds : Room := { frames := 4, cells := 0, slots := 0, locals := 200 }
set_option maxRecDepth 100000 in
set_option maxHeartbeats 4000000 in
theorem k_X8_holds (w : zW) (I : zI) (J : zJ) (u : Nat) (T : List zTok) (r : Bool) (env : Nat → Int32) (cn : Nat) (hcn : cn < 60) (hlo : I 90 cn = nI u) (hhi : I 91 cn = nI (u + T.length)) (hb : u + T.length ≤ 600) (hT : ∀ k, k < T.length → I 92 (u + k) = mTok (T.getD k dTk)) (hok : ∀ t ∈ T, tkOk t) (hev : aEv env T [] = some [r]) (hE : ∀ k, k < 5 → I 94 k = env k) : zMet yX8_holds cX8_holds 7 (some .boolean) rm_X8_holds w [.ref (zad w 82), .int (nI cn)] I J (zpi (fun v I' J' => v = bI (r = true) ∧ (∃ P, I' = zup I 95 P) ∧ J' = J)) := by
  refine zMet_of (by decide) (Nat.le_of_ble_eq_true rfl) (fun X C hm hr => ?_)
  refine z_sub (lv' := [(0, .ref (zad w 82)), (1, .int (nI cn))]) [0, 1] rfl ?_
  refine z_iconst C (v := 0) dX8_holds_0 (by decide) ?_
  refine z_istore_n C hm (lv' := [(2, .int 0), (0, .ref (zad w 82)), (1, .int (nI cn))]) dX8_holds_1 rfl (by decide) rfl ?_
  refine z_aload_n C dX8_holds_2 rfl 1 rfl ?_
  refine z_getr C ff_X8_50 82 (by decide) sh82 rfl dX8_holds_3 ?_
  refine z_iload_n C dX8_holds_6 rfl 2 rfl ?_
  refine z_iald C 90 (by decide) sh90 cn (by omega) (by decide) rfl (v := nI u) hlo dX8_holds_7 ?_
  refine z_istore_n C hm (lv' := [(3, .int (nI u)), (2, .int 0), (0, .ref (zad w 82)), (1, .int (nI cn))]) dX8_holds_8 rfl (by decide) rfl ?_
  have L9 : ∀ (d : Nat) (k : Nat) (st : List Bool) (P : Nat → Int32) (v9_2 : Int32) (v9_3 : Int32) (I9 : zI), (T.length - k) < d → (k ≤ T.length) → (aEv env (T.drop k) st = some [r]) → (st.length ≤ 30) → (zPile P st) → v9_2 = nI st.length → v9_3 = nI (u + k) → I9 = zup I 95 P → Z X w I9 J 9 [(0, .ref (zad w 82)), (1, .int (nI cn)), (2, .int v9_2), (3, .int v9_3)] [] := by
    intro d
    induction d with
    | zero => intro k st P v9_2 v9_3 I9 hd; exact absurd hd (Nat.not_lt_zero _)
    | succ d ih9 => 
      intro k st P v9_2 v9_3 I9 hd9 hk hst hsl hp e_v9_2 e_v9_3 e_I9
      replace e_v9_2 := e_v9_2.symm; subst e_v9_2
      replace e_v9_3 := e_v9_3.symm; subst e_v9_3
      replace e_I9 := e_I9.symm; subst e_I9
      refine z_iload_n C dX8_holds_9 rfl 3 rfl ?_
      refine z_aload_n C dX8_holds_10 rfl 0 rfl ?_
      refine z_getr C ff_X8_53 82 (by decide) sh82 rfl dX8_holds_11 ?_
      refine z_iload_n C dX8_holds_14 rfl 1 rfl ?_
      refine z_iald C 91 (by decide) sh91 cn (by omega) (by decide) rfl (v := nI (u + T.length)) (by first | exact hhi | (simp [zup, zupJ, upd, vp_updL]; exact hhi)) dX8_holds_15 ?_
      refine z_icmp_ge_n (u + k) (u + T.length) (tgt := 240) C rfl rfl (by omega) (by omega) dX8_holds_16 (by decide) (fun c16 => ?_) (fun c16 => ?_)
      · skip
        have hkT : k = T.length := by omega
        rw [hkT, List.drop_length] at hst
        simp only [aEv, Option.some.injEq] at hst
        subst hst
        refine z_aload_n C dX8_holds_240 rfl 0 rfl ?_
        refine z_getr C ff_X8_74 82 (by decide) sh82 rfl dX8_holds_241 ?_
        refine z_iconst C (v := 0) dX8_holds_244 (by decide) ?_
        refine z_zald C 95 (by decide) sh95 0 (by omega) (by decide) rfl (v := b2 r) (by first | exact hp.1 | (simp [zup, zupJ, upd, vp_updL]; exact hp.1)) dX8_holds_245 ?_
        refine z_iret C hr (b2_ret r) dX8_holds_246 ?_
        refine ⟨_, rfl, ?_⟩
        exact ⟨b2_bI, ⟨_, rfl⟩, rfl⟩
      · skip
        have hkl : k < T.length := by omega
        have hok1 := hok _ (getD_mem dTk hkl)
        rw [drop_at dTk hkl] at hst
        refine z_aload_n C dX8_holds_19 rfl 0 rfl ?_
        refine z_getr C ff_X8_56 82 (by decide) sh82 rfl dX8_holds_20 ?_
        refine z_iload_n C dX8_holds_23 rfl 3 rfl ?_
        refine z_iald C 92 (by decide) sh92 (u + k) (by omega) (by decide) rfl (v := mTok (T.getD k dTk)) (by first | exact (hT k hkl) | (simp [zup, zupJ, upd, vp_updL]; exact (hT k hkl))) dX8_holds_24 ?_
        refine z_istore C hm (lv' := [(4, .int (mTok (T.getD k dTk))), (0, .ref (zad w 82)), (1, .int (nI cn)), (2, .int (nI st.length)), (3, .int (nI (u + k)))]) dX8_holds_25 (by decide) rfl ?_
        refine z_iload C dX8_holds_27 0 rfl ?_
        refine z_bipush C (v := -33) dX8_holds_29 (by decide) ?_
        refine z_icmp_ne (tgt := 61) C dX8_holds_31 (by decide) (fun c31 => ?_) (fun c31 => ?_)
        · skip
          refine z_iload C dX8_holds_61 0 rfl ?_
          refine z_if_ge (tgt := 140) C dX8_holds_63 (by decide) (fun c63 => ?_) (fun c63 => ?_)
          · skip
            obtain ⟨l0, r0, n0, htk2, hl0, hr0, hn0, hce⟩ := mTok_test hok1 c63
            rw [htk2] at hst
            obtain ⟨hlen, hst⟩ := aEv_t hst
            rw [hce]
            refine z_aload_n C dX8_holds_140 rfl 1 rfl ?_
            refine z_getr C ff_X8_71 82 (by decide) sh82 rfl dX8_holds_141 ?_
            refine z_iload C dX8_holds_144 0 rfl ?_
            refine z_sipush C (v := 1000) dX8_holds_146 (by decide) ?_
            refine z_idiv C dX8_holds_149 (by decide) ?_
            refine z_ti (y := nI l0) (by rw [dv1000 (by omega), show ((1000 * l0 + 100 * r0 + n0) / 1000) = l0 by omega]) ?_
            refine z_iald C 94 (by decide) sh94 l0 (by omega) (by decide) rfl (v := env l0) (by first | exact (hE l0 hl0) | (simp [zup, zupJ, upd, vp_updL]; exact (hE l0 hl0))) dX8_holds_150 ?_
            refine z_istore C hm (lv' := [(5, .int (env l0)), (4, .int (nI (1000 * l0 + 100 * r0 + n0))), (0, .ref (zad w 82)), (1, .int (nI cn)), (2, .int (nI st.length)), (3, .int (nI (u + k)))]) dX8_holds_151 (by decide) rfl ?_
            refine z_iload C dX8_holds_153 1 rfl ?_
            refine z_bipush C (v := 100) dX8_holds_155 (by decide) ?_
            refine z_idiv C dX8_holds_157 (by decide) ?_
            refine z_ti (y := nI (10 * l0 + r0)) (by rw [dv100 (by omega), show ((1000 * l0 + 100 * r0 + n0) / 100) = 10 * l0 + r0 by omega]) ?_
            refine z_bipush C (v := 10) dX8_holds_158 (by decide) ?_
            refine z_irem C dX8_holds_160 (by decide) ?_
            refine z_ti (y := nI r0) (by rw [md10 (by omega), show ((10 * l0 + r0) % 10) = r0 by omega]) ?_
            refine z_istore C hm (lv' := [(6, .int (nI r0)), (5, .int (env l0)), (4, .int (nI (1000 * l0 + 100 * r0 + n0))), (0, .ref (zad w 82)), (1, .int (nI cn)), (2, .int (nI st.length)), (3, .int (nI (u + k)))]) dX8_holds_161 (by decide) rfl ?_
            refine z_aload_n C dX8_holds_163 rfl 3 rfl ?_
            refine z_getr C ff_X8_74 82 (by decide) sh82 rfl dX8_holds_164 ?_
            refine z_iload_n C dX8_holds_167 rfl 5 rfl ?_
            refine z_iload C dX8_holds_168 0 rfl ?_
            refine z_if_ne (tgt := 191) C dX8_holds_170 (by decide) (fun c170 => ?_) (fun c170 => ?_)
            · skip
              have hr01 : r0 ≠ 0 := fun q => c170 (by rw [q]; rfl)
              refine z_iload C dX8_holds_191 0 rfl ?_
              refine z_iconst C (v := 1) dX8_holds_193 (by decide) ?_
              refine z_icmp_ne_n r0 1 (tgt := 215) C rfl rfl (by omega) (by omega) dX8_holds_194 (by decide) (fun c194 => ?_) (fun c194 => ?_)
              · skip
                refine z_iload C dX8_holds_215 1 rfl ?_
                refine z_iload C dX8_holds_217 2 rfl ?_
                refine z_bipush C (v := 100) dX8_holds_219 (by decide) ?_
                refine z_irem C dX8_holds_221 (by decide) ?_
                refine z_ti (y := nI n0) (by rw [md100 (by omega), show ((1000 * l0 + 100 * r0 + n0) % 100) = n0 by omega]) ?_
                refine z_icmp_le (tgt := 229) C dX8_holds_222 (by decide) (fun c222 => ?_) (fun c222 => ?_)
                · skip
                  have htb : tkB env l0 r0 n0 = false := by rw [show r0 = 2 by omega]; exact @decide_eq_false _ (Classical.propDecidable _) (Int32.not_lt.mpr c222)
                  refine z_iconst C (v := 0) dX8_holds_229 (by decide) ?_
                  refine z_zast C 95 (by decide) sh95 st.length (by omega) (by decide) rfl (by decide) dX8_holds_230 ?_
                  refine z_I (I' := zup I 95 (upd P st.length 0)) (by rw [zup_s, zup_up]) ?_
                  refine z_iinc C hm 5 (v := nI (st.length + 1)) (lv' := [(2, .int (nI (st.length + 1))), (6, .int (nI r0)), (5, .int (env l0)), (4, .int (nI (1000 * l0 + 100 * r0 + n0))), (0, .ref (zad w 82)), (1, .int (nI cn)), (3, .int (nI (u + k)))]) dX8_holds_231 rfl (nI_add st.length 1) (by decide) rfl ?_
                  refine z_iinc C hm 6 (v := nI (u + k + 1)) (lv' := [(3, .int (nI (u + k + 1))), (2, .int (nI (st.length + 1))), (6, .int (nI r0)), (5, .int (env l0)), (4, .int (nI (1000 * l0 + 100 * r0 + n0))), (0, .ref (zad w 82)), (1, .int (nI cn))]) dX8_holds_234 rfl (nI_add (u + k) 1) (by decide) rfl ?_
                  refine z_goto (tgt := 9) C dX8_holds_237 (by decide) ?_
                  exact z_sub [5, 6, 1, 0] rfl (ih9  (k + 1) (tkB env l0 r0 n0 :: st) (upd P st.length 0) _ _ _ (by omega) (by omega) (by omega) (by simp; omega) (zPile_p hp (by rw [htb]; rfl)) rfl rfl rfl)
                · skip
                  have htb : tkB env l0 r0 n0 = true := by rw [show r0 = 2 by omega]; exact @decide_eq_true _ (Classical.propDecidable _) (Int32.not_le.mp c222)
                  refine z_iconst C (v := 1) dX8_holds_225 (by decide) ?_
                  refine z_goto (tgt := 230) C dX8_holds_226 (by decide) ?_
                  refine z_zast C 95 (by decide) sh95 st.length (by omega) (by decide) rfl (by decide) dX8_holds_230 ?_
                  refine z_I (I' := zup I 95 (upd P st.length 1)) (by rw [zup_s, zup_up]) ?_
                  refine z_iinc C hm 5 (v := nI (st.length + 1)) (lv' := [(2, .int (nI (st.length + 1))), (6, .int (nI r0)), (5, .int (env l0)), (4, .int (nI (1000 * l0 + 100 * r0 + n0))), (0, .ref (zad w 82)), (1, .int (nI cn)), (3, .int (nI (u + k)))]) dX8_holds_231 rfl (nI_add st.length 1) (by decide) rfl ?_
                  refine z_iinc C hm 6 (v := nI (u + k + 1)) (lv' := [(3, .int (nI (u + k + 1))), (2, .int (nI (st.length + 1))), (6, .int (nI r0)), (5, .int (env l0)), (4, .int (nI (1000 * l0 + 100 * r0 + n0))), (0, .ref (zad w 82)), (1, .int (nI cn))]) dX8_holds_234 rfl (nI_add (u + k) 1) (by decide) rfl ?_
                  refine z_goto (tgt := 9) C dX8_holds_237 (by decide) ?_
                  exact z_sub [5, 6, 1, 0] rfl (ih9  (k + 1) (tkB env l0 r0 n0 :: st) (upd P st.length 1) _ _ _ (by omega) (by omega) (by omega) (by simp; omega) (zPile_p hp (by rw [htb]; rfl)) rfl rfl rfl)
              · skip
                refine z_iload C dX8_holds_197 1 rfl ?_
                refine z_iload C dX8_holds_199 2 rfl ?_
                refine z_bipush C (v := 100) dX8_holds_201 (by decide) ?_
                refine z_irem C dX8_holds_203 (by decide) ?_
                refine z_ti (y := nI n0) (by rw [md100 (by omega), show ((1000 * l0 + 100 * r0 + n0) % 100) = n0 by omega]) ?_
                refine z_icmp_ne (tgt := 211) C dX8_holds_204 (by decide) (fun c204 => ?_) (fun c204 => ?_)
                · skip
                  have htb : tkB env l0 r0 n0 = false := by rw [c194]; exact @decide_eq_false _ (Classical.propDecidable _) (c204)
                  refine z_iconst C (v := 0) dX8_holds_211 (by decide) ?_
                  refine z_goto (tgt := 230) C dX8_holds_212 (by decide) ?_
                  refine z_zast C 95 (by decide) sh95 st.length (by omega) (by decide) rfl (by decide) dX8_holds_230 ?_
                  refine z_I (I' := zup I 95 (upd P st.length 0)) (by rw [zup_s, zup_up]) ?_
                  refine z_iinc C hm 5 (v := nI (st.length + 1)) (lv' := [(2, .int (nI (st.length + 1))), (6, .int (nI r0)), (5, .int (env l0)), (4, .int (nI (1000 * l0 + 100 * r0 + n0))), (0, .ref (zad w 82)), (1, .int (nI cn)), (3, .int (nI (u + k)))]) dX8_holds_231 rfl (nI_add st.length 1) (by decide) rfl ?_
                  refine z_iinc C hm 6 (v := nI (u + k + 1)) (lv' := [(3, .int (nI (u + k + 1))), (2, .int (nI (st.length + 1))), (6, .int (nI r0)), (5, .int (env l0)), (4, .int (nI (1000 * l0 + 100 * r0 + n0))), (0, .ref (zad w 82)), (1, .int (nI cn))]) dX8_holds_234 rfl (nI_add (u + k) 1) (by decide) rfl ?_
                  refine z_goto (tgt := 9) C dX8_holds_237 (by decide) ?_
                  exact z_sub [5, 6, 1, 0] rfl (ih9  (k + 1) (tkB env l0 r0 n0 :: st) (upd P st.length 0) _ _ _ (by omega) (by omega) (by omega) (by simp; omega) (zPile_p hp (by rw [htb]; rfl)) rfl rfl rfl)
                · skip
                  have htb : tkB env l0 r0 n0 = true := by rw [c194]; exact @decide_eq_true _ (Classical.propDecidable _) (c204)
                  refine z_iconst C (v := 1) dX8_holds_207 (by decide) ?_
                  refine z_goto (tgt := 230) C dX8_holds_208 (by decide) ?_
                  refine z_zast C 95 (by decide) sh95 st.length (by omega) (by decide) rfl (by decide) dX8_holds_230 ?_
                  refine z_I (I' := zup I 95 (upd P st.length 1)) (by rw [zup_s, zup_up]) ?_
                  refine z_iinc C hm 5 (v := nI (st.length + 1)) (lv' := [(2, .int (nI (st.length + 1))), (6, .int (nI r0)), (5, .int (env l0)), (4, .int (nI (1000 * l0 + 100 * r0 + n0))), (0, .ref (zad w 82)), (1, .int (nI cn)), (3, .int (nI (u + k)))]) dX8_holds_231 rfl (nI_add st.length 1) (by decide) rfl ?_
                  refine z_iinc C hm 6 (v := nI (u + k + 1)) (lv' := [(3, .int (nI (u + k + 1))), (2, .int (nI (st.length + 1))), (6, .int (nI r0)), (5, .int (env l0)), (4, .int (nI (1000 * l0 + 100 * r0 + n0))), (0, .ref (zad w 82)), (1, .int (nI cn))]) dX8_holds_234 rfl (nI_add (u + k) 1) (by decide) rfl ?_
                  refine z_goto (tgt := 9) C dX8_holds_237 (by decide) ?_
                  exact z_sub [5, 6, 1, 0] rfl (ih9  (k + 1) (tkB env l0 r0 n0 :: st) (upd P st.length 1) _ _ _ (by omega) (by omega) (by omega) (by simp; omega) (zPile_p hp (by rw [htb]; rfl)) rfl rfl rfl)
            · skip
              have hr00 : r0 = 0 := (nI_0eq (by omega)).mp c170
              subst hr00
              refine z_iload C dX8_holds_173 1 rfl ?_
              refine z_iload C dX8_holds_175 2 rfl ?_
              refine z_bipush C (v := 100) dX8_holds_177 (by decide) ?_
              refine z_irem C dX8_holds_179 (by decide) ?_
              refine z_ti (y := nI n0) (by rw [md100 (by omega), show ((1000 * l0 + 100 * 0 + n0) % 100) = n0 by omega]) ?_
              refine z_icmp_ge (tgt := 187) C dX8_holds_180 (by decide) (fun c180 => ?_) (fun c180 => ?_)
              · skip
                have htb : tkB env l0 0 n0 = false := @decide_eq_false _ (Classical.propDecidable _) (Int32.not_lt.mpr c180)
                refine z_iconst C (v := 0) dX8_holds_187 (by decide) ?_
                refine z_goto (tgt := 230) C dX8_holds_188 (by decide) ?_
                refine z_zast C 95 (by decide) sh95 st.length (by omega) (by decide) rfl (by decide) dX8_holds_230 ?_
                refine z_I (I' := zup I 95 (upd P st.length 0)) (by rw [zup_s, zup_up]) ?_
                refine z_iinc C hm 5 (v := nI (st.length + 1)) (lv' := [(2, .int (nI (st.length + 1))), (6, .int (nI 0)), (5, .int (env l0)), (4, .int (nI (1000 * l0 + 100 * 0 + n0))), (0, .ref (zad w 82)), (1, .int (nI cn)), (3, .int (nI (u + k)))]) dX8_holds_231 rfl (nI_add st.length 1) (by decide) rfl ?_
                refine z_iinc C hm 6 (v := nI (u + k + 1)) (lv' := [(3, .int (nI (u + k + 1))), (2, .int (nI (st.length + 1))), (6, .int (nI 0)), (5, .int (env l0)), (4, .int (nI (1000 * l0 + 100 * 0 + n0))), (0, .ref (zad w 82)), (1, .int (nI cn))]) dX8_holds_234 rfl (nI_add (u + k) 1) (by decide) rfl ?_
                refine z_goto (tgt := 9) C dX8_holds_237 (by decide) ?_
                exact z_sub [5, 6, 1, 0] rfl (ih9  (k + 1) (tkB env l0 0 n0 :: st) (upd P st.length 0) _ _ _ (by omega) (by omega) (by omega) (by simp; omega) (zPile_p hp (by rw [htb]; rfl)) rfl rfl rfl)
              · skip
                have htb : tkB env l0 0 n0 = true := @decide_eq_true _ (Classical.propDecidable _) (Int32.not_le.mp c180)
                refine z_iconst C (v := 1) dX8_holds_183 (by decide) ?_
                refine z_goto (tgt := 230) C dX8_holds_184 (by decide) ?_
                refine z_zast C 95 (by decide) sh95 st.length (by omega) (by decide) rfl (by decide) dX8_holds_230 ?_
                refine z_I (I' := zup I 95 (upd P st.length 1)) (by rw [zup_s, zup_up]) ?_
                refine z_iinc C hm 5 (v := nI (st.length + 1)) (lv' := [(2, .int (nI (st.length + 1))), (6, .int (nI 0)), (5, .int (env l0)), (4, .int (nI (1000 * l0 + 100 * 0 + n0))), (0, .ref (zad w 82)), (1, .int (nI cn)), (3, .int (nI (u + k)))]) dX8_holds_231 rfl (nI_add st.length 1) (by decide) rfl ?_
                refine z_iinc C hm 6 (v := nI (u + k + 1)) (lv' := [(3, .int (nI (u + k + 1))), (2, .int (nI (st.length + 1))), (6, .int (nI 0)), (5, .int (env l0)), (4, .int (nI (1000 * l0 + 100 * 0 + n0))), (0, .ref (zad w 82)), (1, .int (nI cn))]) dX8_holds_234 rfl (nI_add (u + k) 1) (by decide) rfl ?_
                refine z_goto (tgt := 9) C dX8_holds_237 (by decide) ?_
                exact z_sub [5, 6, 1, 0] rfl (ih9  (k + 1) (tkB env l0 0 n0 :: st) (upd P st.length 1) _ _ _ (by omega) (by omega) (by omega) (by simp; omega) (zPile_p hp (by rw [htb]; rfl)) rfl rfl rfl)
          · skip
            obtain ⟨b0, c0, st0, hse, hst1, hst2⟩ := aEv_bin (mTok_bin hok1 c31 c63) hst
            subst hse
            clear hst
            have hsl0 : st0.length + 2 ≤ 30 := hsl
            refine z_iinc C hm 3 (v := nI (st0.length + 1)) (lv' := [(2, .int (nI (st0.length + 1))), (4, .int (mTok (T.getD k dTk))), (0, .ref (zad w 82)), (1, .int (nI cn)), (3, .int (nI (u + k)))]) dX8_holds_66 rfl (pk_m1 _) (by decide) rfl ?_
            refine z_aload_n C dX8_holds_69 rfl 2 rfl ?_
            refine z_getr C ff_X8_74 82 (by decide) sh82 rfl dX8_holds_70 ?_
            refine z_iload_n C dX8_holds_73 rfl 0 rfl ?_
            refine z_iconst C (v := 1) dX8_holds_74 (by decide) ?_
            refine z_isub C dX8_holds_75 ?_
            refine z_ti (y := nI st0.length) (nI_pred _) ?_
            refine z_iload C dX8_holds_76 1 rfl ?_
            refine z_bipush C (v := -38) dX8_holds_78 (by decide) ?_
            refine z_icmp_ne (tgt := 111) C dX8_holds_80 (by decide) (fun c80 => ?_) (fun c80 => ?_)
            · skip
              refine z_aload_n C dX8_holds_111 rfl 2 rfl ?_
              refine z_getr C ff_X8_74 82 (by decide) sh82 rfl dX8_holds_112 ?_
              refine z_iload_n C dX8_holds_115 rfl 0 rfl ?_
              refine z_iconst C (v := 1) dX8_holds_116 (by decide) ?_
              refine z_isub C dX8_holds_117 ?_
              refine z_ti (y := nI st0.length) (nI_pred _) ?_
              refine z_zald C 95 (by decide) sh95 st0.length (by omega) (by decide) rfl (v := b2 c0) (by first | exact hp.2.1 | (simp [zup, zupJ, upd, vp_updL]; exact hp.2.1)) dX8_holds_118 ?_
              refine z_if_ne (tgt := 131) C dX8_holds_119 (by decide) (fun c119 => ?_) (fun c119 => ?_)
              · skip
                refine z_iconst C (v := 1) dX8_holds_131 (by decide) ?_
                refine z_goto (tgt := 136) C dX8_holds_132 (by decide) ?_
                refine z_zast C 95 (by decide) sh95 st0.length (by omega) (by decide) rfl (by decide) dX8_holds_136 ?_
                refine z_I (I' := zup I 95 (upd P st0.length 1)) (by rw [zup_s, zup_up]) ?_
                refine z_goto (tgt := 234) C dX8_holds_137 (by decide) ?_
                refine z_iinc C hm 4 (v := nI (u + k + 1)) (lv' := [(3, .int (nI (u + k + 1))), (2, .int (nI (st0.length + 1))), (4, .int (mTok (T.getD k dTk))), (0, .ref (zad w 82)), (1, .int (nI cn))]) dX8_holds_234 rfl (nI_add (u + k) 1) (by decide) rfl ?_
                refine z_goto (tgt := 9) C dX8_holds_237 (by decide) ?_
                exact z_sub [3, 4, 1, 0] rfl (ih9  (k + 1) ((c0 || b0) :: st0) (upd P st0.length 1) _ _ _ (by omega) (by omega) (hst2 c80) (by simp at hsl ⊢; omega) (zPile_p hp.2.2 (by rw [b2_1 c119]; rfl)) rfl rfl rfl)
              · skip
                refine z_aload_n C dX8_holds_122 rfl 2 rfl ?_
                refine z_getr C ff_X8_74 82 (by decide) sh82 rfl dX8_holds_123 ?_
                refine z_iload_n C dX8_holds_126 rfl 0 rfl ?_
                refine z_zald C 95 (by decide) sh95 (st0.length + 1) (by omega) (by decide) rfl (v := b2 b0) (by first | exact hp.1 | (simp [zup, zupJ, upd, vp_updL]; exact hp.1)) dX8_holds_127 ?_
                refine z_if_eq (tgt := 135) C dX8_holds_128 (by decide) (fun c128 => ?_) (fun c128 => ?_)
                · skip
                  refine z_iconst C (v := 0) dX8_holds_135 (by decide) ?_
                  refine z_zast C 95 (by decide) sh95 st0.length (by omega) (by decide) rfl (by decide) dX8_holds_136 ?_
                  refine z_I (I' := zup I 95 (upd P st0.length 0)) (by rw [zup_s, zup_up]) ?_
                  refine z_goto (tgt := 234) C dX8_holds_137 (by decide) ?_
                  refine z_iinc C hm 4 (v := nI (u + k + 1)) (lv' := [(3, .int (nI (u + k + 1))), (2, .int (nI (st0.length + 1))), (4, .int (mTok (T.getD k dTk))), (0, .ref (zad w 82)), (1, .int (nI cn))]) dX8_holds_234 rfl (nI_add (u + k) 1) (by decide) rfl ?_
                  refine z_goto (tgt := 9) C dX8_holds_237 (by decide) ?_
                  exact z_sub [3, 4, 1, 0] rfl (ih9  (k + 1) ((c0 || b0) :: st0) (upd P st0.length 0) _ _ _ (by omega) (by omega) (hst2 c80) (by simp at hsl ⊢; omega) (zPile_p hp.2.2 (by rw [b2_0 c119, b2_0 c128]; rfl)) rfl rfl rfl)
                · skip
                  refine z_iconst C (v := 1) dX8_holds_131 (by decide) ?_
                  refine z_goto (tgt := 136) C dX8_holds_132 (by decide) ?_
                  refine z_zast C 95 (by decide) sh95 st0.length (by omega) (by decide) rfl (by decide) dX8_holds_136 ?_
                  refine z_I (I' := zup I 95 (upd P st0.length 1)) (by rw [zup_s, zup_up]) ?_
                  refine z_goto (tgt := 234) C dX8_holds_137 (by decide) ?_
                  refine z_iinc C hm 4 (v := nI (u + k + 1)) (lv' := [(3, .int (nI (u + k + 1))), (2, .int (nI (st0.length + 1))), (4, .int (mTok (T.getD k dTk))), (0, .ref (zad w 82)), (1, .int (nI cn))]) dX8_holds_234 rfl (nI_add (u + k) 1) (by decide) rfl ?_
                  refine z_goto (tgt := 9) C dX8_holds_237 (by decide) ?_
                  exact z_sub [3, 4, 1, 0] rfl (ih9  (k + 1) ((c0 || b0) :: st0) (upd P st0.length 1) _ _ _ (by omega) (by omega) (hst2 c80) (by simp at hsl ⊢; omega) (zPile_p hp.2.2 (by rw [b2_0 c119, b2_1 c128]; rfl)) rfl rfl rfl)
            · skip
              refine z_aload_n C dX8_holds_83 rfl 2 rfl ?_
              refine z_getr C ff_X8_74 82 (by decide) sh82 rfl dX8_holds_84 ?_
              refine z_iload_n C dX8_holds_87 rfl 0 rfl ?_
              refine z_iconst C (v := 1) dX8_holds_88 (by decide) ?_
              refine z_isub C dX8_holds_89 ?_
              refine z_ti (y := nI st0.length) (nI_pred _) ?_
              refine z_zald C 95 (by decide) sh95 st0.length (by omega) (by decide) rfl (v := b2 c0) (by first | exact hp.2.1 | (simp [zup, zupJ, upd, vp_updL]; exact hp.2.1)) dX8_holds_90 ?_
              refine z_if_eq (tgt := 107) C dX8_holds_91 (by decide) (fun c91 => ?_) (fun c91 => ?_)
              · skip
                refine z_iconst C (v := 0) dX8_holds_107 (by decide) ?_
                refine z_goto (tgt := 136) C dX8_holds_108 (by decide) ?_
                refine z_zast C 95 (by decide) sh95 st0.length (by omega) (by decide) rfl (by decide) dX8_holds_136 ?_
                refine z_I (I' := zup I 95 (upd P st0.length 0)) (by rw [zup_s, zup_up]) ?_
                refine z_goto (tgt := 234) C dX8_holds_137 (by decide) ?_
                refine z_iinc C hm 4 (v := nI (u + k + 1)) (lv' := [(3, .int (nI (u + k + 1))), (2, .int (nI (st0.length + 1))), (4, .int (mTok (T.getD k dTk))), (0, .ref (zad w 82)), (1, .int (nI cn))]) dX8_holds_234 rfl (nI_add (u + k) 1) (by decide) rfl ?_
                refine z_goto (tgt := 9) C dX8_holds_237 (by decide) ?_
                exact z_sub [3, 4, 1, 0] rfl (ih9  (k + 1) ((c0 && b0) :: st0) (upd P st0.length 0) _ _ _ (by omega) (by omega) (hst1 c80) (by simp at hsl ⊢; omega) (zPile_p hp.2.2 (by rw [b2_0 c91]; rfl)) rfl rfl rfl)
              · skip
                refine z_aload_n C dX8_holds_94 rfl 2 rfl ?_
                refine z_getr C ff_X8_74 82 (by decide) sh82 rfl dX8_holds_95 ?_
                refine z_iload_n C dX8_holds_98 rfl 0 rfl ?_
                refine z_zald C 95 (by decide) sh95 (st0.length + 1) (by omega) (by decide) rfl (v := b2 b0) (by first | exact hp.1 | (simp [zup, zupJ, upd, vp_updL]; exact hp.1)) dX8_holds_99 ?_
                refine z_if_eq (tgt := 107) C dX8_holds_100 (by decide) (fun c100 => ?_) (fun c100 => ?_)
                · skip
                  refine z_iconst C (v := 0) dX8_holds_107 (by decide) ?_
                  refine z_goto (tgt := 136) C dX8_holds_108 (by decide) ?_
                  refine z_zast C 95 (by decide) sh95 st0.length (by omega) (by decide) rfl (by decide) dX8_holds_136 ?_
                  refine z_I (I' := zup I 95 (upd P st0.length 0)) (by rw [zup_s, zup_up]) ?_
                  refine z_goto (tgt := 234) C dX8_holds_137 (by decide) ?_
                  refine z_iinc C hm 4 (v := nI (u + k + 1)) (lv' := [(3, .int (nI (u + k + 1))), (2, .int (nI (st0.length + 1))), (4, .int (mTok (T.getD k dTk))), (0, .ref (zad w 82)), (1, .int (nI cn))]) dX8_holds_234 rfl (nI_add (u + k) 1) (by decide) rfl ?_
                  refine z_goto (tgt := 9) C dX8_holds_237 (by decide) ?_
                  exact z_sub [3, 4, 1, 0] rfl (ih9  (k + 1) ((c0 && b0) :: st0) (upd P st0.length 0) _ _ _ (by omega) (by omega) (hst1 c80) (by simp at hsl ⊢; omega) (zPile_p hp.2.2 (by rw [b2_1 c91, b2_0 c100]; rfl)) rfl rfl rfl)
                · skip
                  refine z_iconst C (v := 1) dX8_holds_103 (by decide) ?_
                  refine z_goto (tgt := 136) C dX8_holds_104 (by decide) ?_
                  refine z_zast C 95 (by decide) sh95 st0.length (by omega) (by decide) rfl (by decide) dX8_holds_136 ?_
                  refine z_I (I' := zup I 95 (upd P st0.length 1)) (by rw [zup_s, zup_up]) ?_
                  refine z_goto (tgt := 234) C dX8_holds_137 (by decide) ?_
                  refine z_iinc C hm 4 (v := nI (u + k + 1)) (lv' := [(3, .int (nI (u + k + 1))), (2, .int (nI (st0.length + 1))), (4, .int (mTok (T.getD k dTk))), (0, .ref (zad w 82)), (1, .int (nI cn))]) dX8_holds_234 rfl (nI_add (u + k) 1) (by decide) rfl ?_
                  refine z_goto (tgt := 9) C dX8_holds_237 (by decide) ?_
                  exact z_sub [3, 4, 1, 0] rfl (ih9  (k + 1) ((c0 && b0) :: st0) (upd P st0.length 1) _ _ _ (by omega) (by omega) (hst1 c80) (by simp at hsl ⊢; omega) (zPile_p hp.2.2 (by rw [b2_1 c91, b2_1 c100]; rfl)) rfl rfl rfl)
        · skip
          rw [mTok_not hok1 c31] at hst
          obtain ⟨b0, st0, rfl, hst⟩ := aEv_0 hst
          have hsl0 : st0.length + 1 ≤ 30 := hsl
          refine z_aload_n C dX8_holds_34 rfl 1 rfl ?_
          refine z_getr C ff_X8_74 82 (by decide) sh82 rfl dX8_holds_35 ?_
          refine z_iload_n C dX8_holds_38 rfl 3 rfl ?_
          refine z_iconst C (v := 1) dX8_holds_39 (by decide) ?_
          refine z_isub C dX8_holds_40 ?_
          refine z_ti (y := nI st0.length) (nI_pred _) ?_
          refine z_aload_n C dX8_holds_41 rfl 1 rfl ?_
          refine z_getr C ff_X8_74 82 (by decide) sh82 rfl dX8_holds_42 ?_
          refine z_iload_n C dX8_holds_45 rfl 3 rfl ?_
          refine z_iconst C (v := 1) dX8_holds_46 (by decide) ?_
          refine z_isub C dX8_holds_47 ?_
          refine z_ti (y := nI st0.length) (nI_pred _) ?_
          refine z_zald C 95 (by decide) sh95 st0.length (by omega) (by decide) rfl (v := b2 b0) (by first | exact hp.1 | (simp [zup, zupJ, upd, vp_updL]; exact hp.1)) dX8_holds_48 ?_
          refine z_if_ne (tgt := 56) C dX8_holds_49 (by decide) (fun c49 => ?_) (fun c49 => ?_)
          · skip
            refine z_iconst C (v := 0) dX8_holds_56 (by decide) ?_
            refine z_zast C 95 (by decide) sh95 st0.length (by omega) (by decide) rfl (by decide) dX8_holds_57 ?_
            refine z_I (I' := zup I 95 (upd P st0.length 0)) (by rw [zup_s, zup_up]) ?_
            refine z_goto (tgt := 234) C dX8_holds_58 (by decide) ?_
            refine z_iinc C hm 4 (v := nI (u + k + 1)) (lv' := [(3, .int (nI (u + k + 1))), (4, .int (mTok (T.getD k dTk))), (0, .ref (zad w 82)), (1, .int (nI cn)), (2, .int (nI (st0.length + 1)))]) dX8_holds_234 rfl (nI_add (u + k) 1) (by decide) rfl ?_
            refine z_goto (tgt := 9) C dX8_holds_237 (by decide) ?_
            exact z_sub [2, 3, 4, 0] rfl (ih9  (k + 1) ((!b0) :: st0) (upd P st0.length 0) _ _ _ (by omega) (by omega) (by omega) (by simp at hsl ⊢; omega) (zPile_p hp.2 (by rw [b2_1 c49]; rfl)) rfl rfl rfl)
          · skip
            refine z_iconst C (v := 1) dX8_holds_52 (by decide) ?_
            refine z_goto (tgt := 57) C dX8_holds_53 (by decide) ?_
            refine z_zast C 95 (by decide) sh95 st0.length (by omega) (by decide) rfl (by decide) dX8_holds_57 ?_
            refine z_I (I' := zup I 95 (upd P st0.length 1)) (by rw [zup_s, zup_up]) ?_
            refine z_goto (tgt := 234) C dX8_holds_58 (by decide) ?_
            refine z_iinc C hm 4 (v := nI (u + k + 1)) (lv' := [(3, .int (nI (u + k + 1))), (4, .int (mTok (T.getD k dTk))), (0, .ref (zad w 82)), (1, .int (nI cn)), (2, .int (nI (st0.length + 1)))]) dX8_holds_234 rfl (nI_add (u + k) 1) (by decide) rfl ?_
            refine z_goto (tgt := 9) C dX8_holds_237 (by decide) ?_
            exact z_sub [2, 3, 4, 0] rfl (ih9  (k + 1) ((!b0) :: st0) (upd P st0.length 1) _ _ _ (by omega) (by omega) (by omega) (by simp at hsl ⊢; omega) (zPile_p hp.2 (by rw [b2_0 c49]; rfl)) rfl rfl rfl)
  exact z_sub [2, 3, 1, 0] rfl (L9 _ 0 [] (I 95) _ _ _ (Nat.lt_succ_self _) (Nat.zero_le _) hev (Nat.zero_le _) trivial rfl rfl (zup_id).symm)
