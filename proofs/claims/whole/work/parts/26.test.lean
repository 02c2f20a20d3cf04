/-! reading tests -/
abbrev zR : Type := Nat × Option (List zTok)
noncomputable def zTest (c : Nat → Nat) (p : Nat) : zR := match zWh 5 (c p) (zLen.getD 5 0) 0 with
  | none => (p, none)
  | some l => match zWh 6 (c (p + 1)) (zLen.getD 6 0) 0 with
    | none => (p + 1, none)
    | some r => if zDc c 2 (p + 1 + 1) = 0 then (p + 1 + 1, none) else (p + 1 + 1 + zDc c 2 (p + 1 + 1), some [.inr (l, r, zDv c (p + 1 + 1) (zDc c 2 (p + 1 + 1)))])
def zPs (I I' : zI) (i u : Nat) (r : zR) (v : Int32) : Prop := I' 2 = upd (I 2) 2 (nI r.1) ∧ (∀ k, k ≠ 2 → k ≠ 47 + 5 * i → k ≠ 47 + 5 * i + 4 → I' k = I k) ∧ match r.2 with
  | none => v = 0
  | some ts => v = 1 ∧ I' (47 + 5 * i) = upd (I (47 + 5 * i)) 5 (nI (u + ts.length)) ∧ (∀ j, j < u → I' (47 + 5 * i + 4) j = I (47 + 5 * i + 4) j) ∧ ∀ j, j < ts.length → I' (47 + 5 * i + 4) (u + j) = cTok (ts.getD j (.inl 0))
theorem zWh_some {i x q : Nat} : ∀ f k, zWh i x f k = some q → x = zSi i q ∧ k ≤ q ∧ q < k + f
  | 0, _, h => by simp [zWh] at h
  | f + 1, k, h => by
    rw [zWh] at h
    by_cases e : x = zSi i k
    · rw [if_pos e] at h; cases h; exact ⟨e, Nat.le_refl _, by omega⟩
    · rw [if_neg e] at h
      obtain ⟨h1, h2, h3⟩ := zWh_some f (k + 1) h
      exact ⟨h1, by omega, by omega⟩
theorem zWh_L {i x q : Nat} (hi : i < 7) (h : zWh i x (zLen.getD i 0) 0 = some q) : x < 128 ∧ q < zLen.getD i 0 := by
  obtain ⟨h1, _, h3⟩ := zWh_some _ _ h
  have := zSi_ok i hi q (by omega)
  exact ⟨by omega, by omega⟩
theorem zNu_ge {c : Nat → Nat} {m p : Nat} (hm : m ≤ 3) (h : (0 : Int32) ≤ zNu c m p) : zDc c m p ≠ 0 ∧ zNu c m p = nI (zDv c p (zDc c m p)) := by
  unfold zNu at h ⊢
  by_cases q : zDc c m p = 0
  · rw [if_pos q] at h; exact absurd h (by decide)
  · rw [if_neg q]; exact ⟨q, rfl⟩
theorem zNu_lt {c : Nat → Nat} {m p : Nat} (hm : m ≤ 3) (h : ¬ (0 : Int32) ≤ zNu c m p) : zDc c m p = 0 := by
  unfold zNu at h
  by_cases q : zDc c m p = 0
  · exact q
  · rw [if_neg q] at h
    have h1 := zDv_lt (c := c) (p := p) (zDc c m p) (fun j hj => zDc_dig m p j hj)
    have h2 : 10 ^ zDc c m p ≤ 10 ^ 3 := Nat.pow_le_pow_right (by decide) (by have := zDc_le (c := c) m p; omega)
    exact absurd (nI_pos' (by omega)) h
theorem zDc_L {c : Nat → Nat} {L : Nat} (hBe : ∀ q, L ≤ q → c q = 300) : ∀ m p, p ≤ L → p + zDc c m p ≤ L
  | 0, p, h => h
  | m + 1, p, h => by
    rw [zDc]
    by_cases q : zDi (c p)
    · rw [cif_t q]
      have h2 : p < L := Nat.lt_of_not_le (fun z => by have := hBe p z; unfold zDi at q; omega)
      have := zDc_L hBe m (p + 1) (by omega)
      omega
    · rw [cif_f q]; exact h
abbrev rm_X5_readTest : Room := { frames := 9, cells := 0, slots := 0, locals := 307 }
set_option maxRecDepth 100000 in
set_option maxHeartbeats 4000000 in
theorem k_X5_readTest (w : zW) (I : zI) (J : zJ) (i u : Nat) (c : Nat → Nat) (L p : Nat)  (hi7 : i < 7) (hU : I (47 + 5 * i) 5 = nI u) (hu1 : u ≤ p) (hL : I 2 1 = nI L) (hl : L ≤ 100) (hp : I 2 2 = nI p) (hpl : p ≤ L) (hBy : ∀ q, q < L → I 3 q = nI (c q) ∧ c q < 256) (hBe : ∀ q, L ≤ q → c q = 300) : zMet yX5_readTest cX5_readTest 5 (some .boolean) rm_X5_readTest w [.ref (zad w 2), .ref (zad w (47 + 5 * i))] I J (zpi (fun v I' J' => zPs I I' i u (zTest c p) v ∧ J' = J)) := by
  refine zMet_of (by decide) (Nat.le_of_ble_eq_true rfl) (fun X C hm hr => ?_)
  refine z_sub (lv' := [(0, .ref (zad w 2)), (1, .ref (zad w (47 + 5 * i)))]) [0, 1] rfl ?_
  refine z_aload_n C dX5_readTest_0 rfl 0 rfl ?_
  refine z_ldcS (i := 5) (by decide) C rfl dX5_readTest_1 ?_
  refine z_callVi C hm cl_X5_94 cv_X5_readSign 2 (by decide) sh2 ⟨_, _, rfl⟩ [.ref (w.2.2.2.1 5)] rfl (rest := []) rfl (k_X5_readSign w _ _ 5 c L p (by decide) hL hl hp hpl hBy hBe) ⟨rfl, rfl, Nat.le_of_ble_eq_true rfl, Nat.le_of_ble_eq_true rfl⟩ (Nat.le_of_ble_eq_true rfl) dX5_readTest_3 (fun v_1 I_1 J_1 h_1 => ?_)
  obtain ⟨ev_1, ei_1, ej_1⟩ := h_1
  replace ej_1 := ej_1.symm; subst ej_1
  rcases hz_1 : zWh 5 (c p) (zLen.getD 5 0) 0 with _ | l
  · skip
    rw [hz_1] at ev_1 ei_1
    replace ev_1 := ev_1; replace ei_1 := ei_1; simp only at ev_1 ei_1; subst ev_1; subst ei_1
    refine z_istore_n C hm (lv' := [(2, .int (-1)), (0, .ref (zad w 2)), (1, .ref (zad w (47 + 5 * i)))]) dX5_readTest_6 rfl (by decide) rfl ?_
    refine z_iload_n C dX5_readTest_7 rfl 0 rfl ?_
    refine z_if_ge (tgt := 13) C dX5_readTest_8 (by decide) (fun c8 => ?_) (fun c8 => ?_)
    · skip
      exact absurd c8 (by decide)
    · skip
      refine z_iconst C (v := 0) dX5_readTest_11 (by decide) ?_
      refine z_iret C hr (by decide) dX5_readTest_12 ?_
      refine ⟨_, rfl, ?_⟩
      refine ⟨?_, rfl⟩
      unfold zTest; rw [hz_1]
      exact ⟨by rw [← hp, upd_id], fun _ _ _ _ => rfl, rfl⟩
  · skip
    rw [hz_1] at ev_1 ei_1
    replace ev_1 := ev_1; replace ei_1 := ei_1; simp only at ev_1 ei_1; subst ev_1; subst ei_1
    obtain ⟨hc_1, hq_1⟩ := zWh_L (by decide) hz_1
    have hpl_1 : p < L := Nat.lt_of_not_le (fun z => by have := hBe _ z; omega)
    refine z_istore_n C hm (lv' := [(2, .int (nI l)), (0, .ref (zad w 2)), (1, .ref (zad w (47 + 5 * i)))]) dX5_readTest_6 rfl (by decide) rfl ?_
    refine z_iload_n C dX5_readTest_7 rfl 0 rfl ?_
    refine z_if_ge (tgt := 13) C dX5_readTest_8 (by decide) (fun c8 => ?_) (fun c8 => ?_)
    · skip
      refine z_aload_n C dX5_readTest_13 rfl 1 rfl ?_
      refine z_ldcS (i := 6) (by decide) C rfl dX5_readTest_14 ?_
      refine z_callVi C hm cl_X5_94 cv_X5_readSign 2 (by decide) sh2 ⟨_, _, rfl⟩ [.ref (w.2.2.2.1 6)] rfl (rest := []) rfl (k_X5_readSign w _ _ 6 c L (p + 1) (by decide) (by exact hL) hl (by exact rfl) (by omega) (by exact hBy) hBe) ⟨rfl, rfl, Nat.le_of_ble_eq_true rfl, Nat.le_of_ble_eq_true rfl⟩ (Nat.le_of_ble_eq_true rfl) dX5_readTest_16 (fun v_2 I_2 J_2 h_2 => ?_)
      obtain ⟨ev_2, ei_2, ej_2⟩ := h_2
      replace ej_2 := ej_2.symm; subst ej_2
      rcases hz_2 : zWh 6 (c (p + 1)) (zLen.getD 6 0) 0 with _ | r
      · skip
        rw [hz_2] at ev_2 ei_2
        replace ev_2 := ev_2; replace ei_2 := ei_2; simp only at ev_2 ei_2; subst ev_2; subst ei_2
        refine z_istore_n C hm (lv' := [(3, .int (-1)), (2, .int (nI l)), (0, .ref (zad w 2)), (1, .ref (zad w (47 + 5 * i)))]) dX5_readTest_19 rfl (by decide) rfl ?_
        refine z_iload_n C dX5_readTest_20 rfl 0 rfl ?_
        refine z_if_ge (tgt := 26) C dX5_readTest_21 (by decide) (fun c21 => ?_) (fun c21 => ?_)
        · skip
          exact absurd c21 (by decide)
        · skip
          refine z_iconst C (v := 0) dX5_readTest_24 (by decide) ?_
          refine z_iret C hr (by decide) dX5_readTest_25 ?_
          refine ⟨_, rfl, ?_⟩
          refine ⟨?_, rfl⟩
          unfold zTest; rw [hz_1]; simp only; rw [hz_2]
          exact ⟨rfl, fun k h1 _ _ => by simp only [zup]; rw [if_neg h1], rfl⟩
      · skip
        rw [hz_2] at ev_2 ei_2
        replace ev_2 := ev_2; replace ei_2 := ei_2; simp only at ev_2 ei_2; subst ev_2; subst ei_2
        obtain ⟨hc_2, hq_2⟩ := zWh_L (by decide) hz_2
        have hpl_2 : (p + 1) < L := Nat.lt_of_not_le (fun z => by have := hBe _ z; omega)
        refine z_istore_n C hm (lv' := [(3, .int (nI r)), (2, .int (nI l)), (0, .ref (zad w 2)), (1, .ref (zad w (47 + 5 * i)))]) dX5_readTest_19 rfl (by decide) rfl ?_
        refine z_iload_n C dX5_readTest_20 rfl 0 rfl ?_
        refine z_if_ge (tgt := 26) C dX5_readTest_21 (by decide) (fun c21 => ?_) (fun c21 => ?_)
        · skip
          refine z_aload_n C dX5_readTest_26 rfl 2 rfl ?_
          refine z_iconst C (v := 2) dX5_readTest_27 (by decide) ?_
          refine z_callVi C hm cl_X5_39 cv_X5_readNumber 2 (by decide) sh2 ⟨_, _, rfl⟩ [.int 2] rfl (rest := []) rfl (k_X5_readNumber w _ _ c L (p + 1 + 1) 2 (by exact hL) hl (by exact rfl) (by omega) (by exact hBy) hBe (by decide)) ⟨rfl, rfl, Nat.le_of_ble_eq_true rfl, Nat.le_of_ble_eq_true rfl⟩ (Nat.le_of_ble_eq_true rfl) dX5_readTest_28 (fun v_3 I_3 J_3 h_3 => ?_)
          obtain ⟨ev_3, ei_3, ej_3⟩ := h_3
          replace ev_3 := ev_3.symm; subst ev_3
          replace ei_3 := ei_3.symm; subst ei_3
          replace ej_3 := ej_3.symm; subst ej_3
          refine z_I (I' := zup I 2 (upd (upd (upd (I 2) 2 (nI (p + 1))) 2 (nI ((p + 1) + 1))) 2 (nI ((p + 1 + 1) + zDc c 2 (p + 1 + 1))))) (by funext zk; simp only [zup]; split <;> simp_all [zup]) ?_
          refine z_istore C hm (lv' := [(4, .int (zNu c 2 (p + 1 + 1))), (3, .int (nI r)), (2, .int (nI l)), (0, .ref (zad w 2)), (1, .ref (zad w (47 + 5 * i)))]) dX5_readTest_31 (by decide) rfl ?_
          refine z_iload C dX5_readTest_33 0 rfl ?_
          refine z_if_ge (tgt := 40) C dX5_readTest_35 (by decide) (fun c35 => ?_) (fun c35 => ?_)
          · skip
            obtain ⟨hd0, hde⟩ := zNu_ge (by decide) c35
            rw [hde]
            refine z_aload_n C dX5_readTest_40 rfl 4 rfl ?_
            refine z_iload_n C dX5_readTest_41 rfl 2 rfl ?_
            refine z_iload_n C dX5_readTest_42 rfl 1 rfl ?_
            refine z_iload C dX5_readTest_43 0 rfl ?_
            refine z_callSi C hm cl_X5_100 cs_X1_testSign [.int (nI l), .int (nI r), .int (nI (zDv c (p + 1 + 1) (zDc c 2 (p + 1 + 1))))] rfl (rest := [.ref (zad w (47 + 5 * i))]) rfl (k_X1_testSign w _ _ l r (zDv c (p + 1 + 1) (zDc c 2 (p + 1 + 1))) (nI l) (nI r) (nI (zDv c (p + 1 + 1) (zDc c 2 (p + 1 + 1)))) rfl rfl rfl) ⟨rfl, rfl, Nat.le_of_ble_eq_true rfl, Nat.le_of_ble_eq_true rfl⟩ (Nat.le_of_ble_eq_true rfl) dX5_readTest_45 (fun v_4 I_4 J_4 h_4 => ?_)
            obtain ⟨ev_4, ei_4, ej_4⟩ := h_4
            replace ev_4 := ev_4.symm; subst ev_4
            replace ei_4 := ei_4.symm; subst ei_4
            replace ej_4 := ej_4.symm; subst ej_4
            refine z_callVv C hm cl_X5_82 cv_X1_addSign (47 + 5 * i) (shLn0 hi7) (shL0 hi7) ⟨_, _, rfl⟩ [.int (nI ((3 * l + r) * 100 + zDv c (p + 1 + 1) (zDc c 2 (p + 1 + 1))))] rfl (rest := []) rfl (k_X1_addSign w _ _ i u (nI ((3 * l + r) * 100 + zDv c (p + 1 + 1) (zDc c 2 (p + 1 + 1)))) hi7 (by rw [zup_n (by omega)]; exact hU) (by omega)) ⟨rfl, rfl, Nat.le_of_ble_eq_true rfl, Nat.le_of_ble_eq_true rfl⟩ (Nat.le_of_ble_eq_true rfl) dX5_readTest_48 (fun I_5 J_5 h_5 => ?_)
            obtain ⟨ei_5, ej_5⟩ := h_5
            replace ei_5 := ei_5.symm; subst ei_5
            replace ej_5 := ej_5.symm; subst ej_5
            refine z_iconst C (v := 1) dX5_readTest_51 (by decide) ?_
            refine z_iret C hr (by decide) dX5_readTest_52 ?_
            refine ⟨_, rfl, ?_⟩
            refine ⟨?_, rfl⟩
            unfold zTest; rw [hz_1]; simp only; rw [hz_2]; simp only
            rw [if_neg hd0]
            refine ⟨?_, ?_, rfl, ?_, ?_, ?_⟩
            · rw [zup_n (by omega), zup_n (by omega)]; simp only [zup, upd_2]; rfl
            · intro k h1 h2 h3; simp only [zup]; rw [if_neg h2, if_neg h3, if_neg h1]
            · rw [zup_s, zup_n (by omega)]; rfl
            · intro j hj; rw [zup_n (by omega), zup_s, upd_n (by omega)]; rw [zup_n (by omega)]
            · intro j hj
              have hj0 : j = 0 := by simp at hj; omega
              subst hj0
              rw [zup_n (by omega), zup_s]; exact upd_s
          · skip
            have hd0 := zNu_lt (by decide) c35
            refine z_iconst C (v := 0) dX5_readTest_38 (by decide) ?_
            refine z_iret C hr (by decide) dX5_readTest_39 ?_
            refine ⟨_, rfl, ?_⟩
            refine ⟨?_, rfl⟩
            unfold zTest; rw [hz_1]; simp only; rw [hz_2]; simp only
            rw [if_pos hd0]
            exact ⟨by simp only [zup, upd_2, hd0]; rfl, fun k h1 _ _ => by simp only [zup]; rw [if_neg h1], rfl⟩
        · skip
          exact absurd (nI_pos' (by have := zLen_le 6 (by decide); omega)) c21
    · skip
      exact absurd (nI_pos' (by have := zLen_le 5 (by decide); omega)) c8
