/-! the component's law -/
abbrev rm_X7_law : Room := { frames := 37, cells := 0, slots := 0, locals := 1908 }
set_option maxRecDepth 100000 in
set_option maxHeartbeats 4000000 in
theorem k_X7_law (w : zW) (I : zI) (J : zJ) (lc : Nat) (c : Nat → Nat) (L : Nat)  (hLc : I 0 4 = nI lc) (hlc : lc ≤ 6) (hL : I 2 1 = nI L) (hl : L ≤ 100) (hBy : ∀ q, q < L → I 3 q = nI (c q) ∧ c q < 256) (hBe : ∀ q, L ≤ q → c q = 300) : zMet yX7_law cX7_law 3 (some .int) rm_X7_law w [.ref (zad w 0)] I J (zpi (fun v I' J' => J' = J ∧ ((lc = 6 ∧ v = -4 ∧ I' = I) ∨ (lc < 6 ∧ ∃ r : zRl, r = zLw c L 10 0 [] ∧ I' 2 1 = 0 ∧ match r.2 with | none => v = -10 - nI r.1 ∧ r.1 ≤ L ∧ (∀ k, k ≠ 2 → (k < 47 + 5 * (lc + 1) ∨ 47 + 5 * (lc + 1) + 4 < k) → I' k = I k) | some A => v = nI lc ∧ A ≠ [] ∧ cLaw I' (lc + 1) A ∧ I' 0 = upd (I 0) 4 (nI (lc + 1)) ∧ I' 5 = upd (I 5) 2 (nI (lc + 1)) ∧ (∀ k, k ≠ 0 → k ≠ 2 → k ≠ 5 → (k < 47 + 5 * (lc + 1) ∨ 47 + 5 * (lc + 1) + 4 < k) → I' k = I k))))) := by
  refine zMet_of (by decide) (Nat.le_of_ble_eq_true rfl) (fun X C hm hr => ?_)
  refine z_sub (lv' := [(0, .ref (zad w 0))]) [0] rfl ?_
  refine z_aload_n C dX7_law_0 rfl 0 rfl ?_
  refine z_geti C ff_X7_97 0 (by decide) sh0 rfl (v := nI lc) hLc dX7_law_1 ?_
  refine z_bipush C (v := 6) dX7_law_4 (by decide) ?_
  refine z_icmp_lt_n lc 6 (tgt := 12) C rfl rfl (by omega) (by omega) dX7_law_6 (by decide) (fun c6 => ?_) (fun c6 => ?_)
  · skip
    refine z_aload_n C dX7_law_12 rfl 0 rfl ?_
    refine z_getr C ff_X7_24 0 (by decide) sh0 rfl dX7_law_13 ?_
    refine z_aload_n C dX7_law_16 rfl 0 rfl ?_
    refine z_geti C ff_X7_97 0 (by decide) sh0 rfl (v := nI lc) hLc dX7_law_17 ?_
    refine z_iconst C (v := 1) dX7_law_20 (by decide) ?_
    refine z_iadd C dX7_law_21 ?_
    refine z_ti (y := nI (lc + 1)) (nI_add lc 1) ?_
    refine z_aald C 4 (by decide) 3 (by decide) sh4 (lc + 1) (by omega) (by decide) rfl (q := 47 + 5 * (lc + 1)) rfl dX7_law_22 ?_
    refine z_astore_n C hm (lv' := [(1, .ref (zad w (47 + 5 * (lc + 1)))), (0, .ref (zad w 0))]) dX7_law_23 rfl (by decide) rfl ?_
    refine z_aload_n C dX7_law_24 rfl 1 rfl ?_
    refine z_getr C ff_X7_18 0 (by decide) sh0 rfl dX7_law_25 ?_
    refine z_aload_n C dX7_law_28 rfl 0 rfl ?_
    refine z_callVi C hm cl_X7_100 cv_X5_readInto 2 (by decide) sh2 ⟨_, _, rfl⟩ [.ref (zad w (47 + 5 * (lc + 1)))] rfl (rest := []) rfl (k_X5_readInto w _ _ (lc + 1) c L (by omega) hL hl hBy hBe) ⟨rfl, rfl, Nat.le_of_ble_eq_true rfl, Nat.le_of_ble_eq_true rfl⟩ (Nat.le_of_ble_eq_true rfl) dX7_law_29 (fun v_1 I_1 J_1 h_1 => ?_)
    obtain ⟨⟨r, hr0, ⟨x2, hx2⟩, hf2, hm2⟩, ej_1⟩ := h_1
    replace ej_1 := ej_1.symm; subst ej_1
    rcases r with ⟨q, _ | A⟩
    · skip
      obtain ⟨hv_1, hqL⟩ := hm2
      replace hv_1 : v_1 = nI q := hv_1; subst hv_1
      replace hqL : q ≤ L := hqL
      refine z_istore_n C hm (lv' := [(2, .int (nI q)), (1, .ref (zad w (47 + 5 * (lc + 1)))), (0, .ref (zad w 0))]) dX7_law_32 rfl (by decide) rfl ?_
      refine z_aload_n C dX7_law_33 rfl 2 rfl ?_
      refine z_getr C ff_X7_18 0 (by decide) sh0 rfl dX7_law_34 ?_
      refine z_iconst C (v := 0) dX7_law_37 (by decide) ?_
      refine z_puti C ff_X7_90 2 (by decide) sh2 rfl rfl rfl dX7_law_38 ?_
      refine z_I (I' := zup I_1 2 (upd (I_1 2) 1 0)) rfl ?_
      refine z_iload_n C dX7_law_41 rfl 0 rfl ?_
      refine z_if_lt (tgt := 50) C dX7_law_42 (by decide) (fun c42 => ?_) (fun c42 => ?_)
      · skip
        exact absurd c42 (nI_pos (by omega))
      · skip
        refine z_bipush C (v := -10) dX7_law_45 (by decide) ?_
        refine z_iload_n C dX7_law_47 rfl 0 rfl ?_
        refine z_isub C dX7_law_48 ?_
        refine z_iret C hr rfl dX7_law_49 ?_
        refine ⟨_, rfl, ?_⟩
        refine ⟨rfl, Or.inr ⟨by omega, _, hr0, by rw [zup_s]; exact upd_s, ?_⟩⟩
        exact ⟨rfl, hqL, fun k h1 h2 => by rw [zup_n h1, hf2 k h1 h2]⟩
    · skip
      obtain ⟨hv_1, hne, u, hu, hPl⟩ := hm2
      subst hv_1
      refine z_istore_n C hm (lv' := [(2, .int (-1)), (1, .ref (zad w (47 + 5 * (lc + 1)))), (0, .ref (zad w 0))]) dX7_law_32 rfl (by decide) rfl ?_
      refine z_aload_n C dX7_law_33 rfl 2 rfl ?_
      refine z_getr C ff_X7_18 0 (by decide) sh0 rfl dX7_law_34 ?_
      refine z_iconst C (v := 0) dX7_law_37 (by decide) ?_
      refine z_puti C ff_X7_90 2 (by decide) sh2 rfl rfl rfl dX7_law_38 ?_
      refine z_I (I' := zup I_1 2 (upd (I_1 2) 1 0)) rfl ?_
      refine z_iload_n C dX7_law_41 rfl 0 rfl ?_
      refine z_if_lt (tgt := 50) C dX7_law_42 (by decide) (fun c42 => ?_) (fun c42 => ?_)
      · skip
        refine z_aload_n C dX7_law_50 rfl 2 rfl ?_
        refine z_getr C ff_X7_62 0 (by decide) sh0 rfl dX7_law_51 ?_
        refine z_aload_n C dX7_law_54 rfl 1 rfl ?_
        refine z_puth C ff_X7_104 5 (by decide) sh5 rfl (x := nI (lc + 1)) (by rw [zhd_h rfl (by omega)]) rfl rfl dX7_law_55 ?_
        refine z_I (I' := zup (zup I_1 2 (upd (I_1 2) 1 0)) 5 (upd (I_1 5) 2 (nI (lc + 1)))) (by first | rfl | (rw [zup_n] <;> omega)) ?_
        refine z_aload_n C dX7_law_58 rfl 2 rfl ?_
        refine z_dup C dX7_law_59 rfl ?_
        refine z_geti C ff_X7_97 0 (by decide) sh0 rfl (v := nI lc) (by first | exact (by first | exact ((congrFun (hf2 0 (by decide) (by omega)) 4).trans hLc) | (rw [zup_n (by decide), zup_n (by decide), hf2 0 (by decide) (by omega)]; exact hLc)) | (simp [zup, zupJ, upd, vp_updL]; exact (by first | exact ((congrFun (hf2 0 (by decide) (by omega)) 4).trans hLc) | (rw [zup_n (by decide), zup_n (by decide), hf2 0 (by decide) (by omega)]; exact hLc)))) dX7_law_60 ?_
        refine z_iconst C (v := 1) dX7_law_63 (by decide) ?_
        refine z_iadd C dX7_law_64 ?_
        refine z_ti (y := nI (lc + 1)) (nI_add lc 1) ?_
        refine z_puti C ff_X7_97 0 (by decide) sh0 rfl rfl rfl dX7_law_65 ?_
        refine z_I (I' := zup (zup (zup I_1 2 (upd (I_1 2) 1 0)) 5 (upd (I_1 5) 2 (nI (lc + 1)))) 0 (upd (I_1 0) 4 (nI (lc + 1)))) (by first | rfl | (rw [zup_n] <;> omega) | (rw [zup_n, zup_n] <;> omega)) ?_
        refine z_aload_n C dX7_law_68 rfl 2 rfl ?_
        refine z_geti C ff_X7_97 0 (by decide) sh0 rfl (v := nI (lc + 1)) (by first | exact rfl | (simp [zup, zupJ, upd, vp_updL]; exact rfl)) dX7_law_69 ?_
        refine z_iconst C (v := 1) dX7_law_72 (by decide) ?_
        refine z_isub C dX7_law_73 ?_
        refine z_ti (y := nI lc) (nI_pred lc) ?_
        refine z_iret C hr rfl dX7_law_74 ?_
        refine ⟨_, rfl, ?_⟩
        refine ⟨rfl, Or.inr ⟨by omega, _, hr0, by rw [zup_n (by decide), zup_n (by decide), zup_s]; exact upd_s, ?_⟩⟩
        refine ⟨rfl, hne, ?_, ?_, ?_, fun k h0 h1 h2 h3 => by rw [zup_n h0, zup_n h2, zup_n h1, hf2 k h1 h3]⟩
        · exact zPl_law (zPl_c hPl (fun k h1 h2 => by rw [zup_n (by omega), zup_n (by omega), zup_n (by omega)])) hu
        · rw [zup_s, hf2 0 (by decide) (by omega)]
        · rw [zup_n (by decide), zup_s, hf2 5 (by decide) (by omega)]
      · skip
        exact absurd (show (-1 : Int32) < 0 by decide) c42
  · skip
    refine z_bipush C (v := -4) dX7_law_9 (by decide) ?_
    refine z_iret C hr rfl dX7_law_11 ?_
    refine ⟨_, rfl, ?_⟩
    exact ⟨rfl, Or.inl ⟨by omega, rfl, rfl⟩⟩
