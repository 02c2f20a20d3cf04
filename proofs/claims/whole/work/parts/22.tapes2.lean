/-! tapes -/
def zSame (I' I : zI) (J' J : zJ) : Prop := I' = I ∧ J' = J
theorem nI_60 {x : Int32} (h : ¬ x < 0) (h2 : x ≤ 60) : ∃ k, k ≤ 60 ∧ x = nI k := nI_of2 (M := 60) (n := 60) (by decide) h h2
abbrev rm_X7_tape : Room := { frames := 6, cells := 0, slots := 0, locals := 246 }
set_option maxRecDepth 100000 in
set_option maxHeartbeats 4000000 in
theorem k_X7_tape (w : zW) (I : zI) (J : zJ)  (x : Int32) (sr : Int32) (z : Int32)  : zMet yX7_tape cX7_tape 5 (some .int) rm_X7_tape w [.ref (zad w 0), .int x, .int sr, .int z] I J (zpi (fun v I' J' => (¬ zin x 6 ∧ v = -1 ∧ I' = I ∧ J' = J) ∨ ∃ t, t < 6 ∧ x = nI t ∧ (((sr < -1 ∨ 4 < sr) ∧ v = -2 ∧ I' = I ∧ J' = J) ∨ (sr = -1 ∧ v = 1 ∧ I' = zup I (35 + 2 * t) (upd (upd (I (35 + 2 * t)) 0 (-1)) 1 0) ∧ J' = zupJ J (35 + 2 * t + 1) (zfill 0 (J (35 + 2 * t + 1)) 60)) ∨ (zin sr 5 ∧ ((60 < z ∧ v = -2 ∧ I' = I ∧ J' = J) ∨ (z < 0 ∧ v = -14 ∧ I' = I ∧ J' = J) ∨ ((∃ k, k ≤ 60 ∧ z = nI k) ∧ v = 1 ∧ I' = zup I (35 + 2 * t) (upd (upd (I (35 + 2 * t)) 0 sr) 1 z) ∧ J' = zupJ J (35 + 2 * t + 1) (zfill 0 (J (35 + 2 * t + 1)) 60))))))) := by
  refine zMet_of (by decide) (Nat.le_of_ble_eq_true rfl) (fun X C hm hr => ?_)
  refine z_sub (lv' := [(0, .ref (zad w 0)), (1, .int x), (2, .int sr), (3, .int z)]) [0, 1, 2, 3] rfl ?_
  refine z_aload_n C dX7_tape_0 rfl 0 rfl ?_
  refine z_iload_n C dX7_tape_1 rfl 1 rfl ?_
  refine z_callVr C hm cl_X7_266 cv_X7_tapeAt 0 (by decide) sh0 ⟨_, _, rfl⟩ [.int x] rfl (rest := []) rfl (k_X7_tapeAt w _ _ x) ⟨rfl, rfl, Nat.le_of_ble_eq_true rfl, Nat.le_of_ble_eq_true rfl⟩ (Nat.le_of_ble_eq_true rfl) dX7_tape_2 (fun v_1 I_1 J_1 h_1 => ?_)
  obtain ⟨ev_1, ei_1, ej_1⟩ := h_1
  replace ei_1 := ei_1.symm; subst ei_1
  replace ej_1 := ej_1.symm; subst ej_1
  by_cases t_1 : zin x 6
  · skip
    obtain ⟨t, ht, rfl⟩ := t_1
    rw [cif_t ⟨t, ht, rfl⟩, zn_n (by omega)] at ev_1
    subst ev_1
    refine z_astore C hm (lv' := [(4, .ref (zad w (35 + 2 * t))), (0, .ref (zad w 0)), (1, .int (nI t)), (2, .int sr), (3, .int z)]) dX7_tape_5 (by decide) rfl ?_
    refine z_aload C dX7_tape_7 0 rfl ?_
    refine z_ifnonnull (tgt := 14) C dX7_tape_9 (by decide) ?_
    refine z_iload_n C dX7_tape_14 rfl 3 rfl ?_
    refine z_iconst C (v := -1) dX7_tape_15 (by decide) ?_
    refine z_icmp_lt (tgt := 24) C dX7_tape_16 (by decide) (fun c16 => ?_) (fun c16 => ?_)
    · skip
      refine z_bipush C (v := -2) dX7_tape_24 (by decide) ?_
      refine z_iret C hr rfl dX7_tape_26 ?_
      refine ⟨_, rfl, ?_⟩
      exact Or.inr ⟨t, ht, rfl, Or.inl ⟨Or.inl c16, rfl, rfl, rfl⟩⟩
    · skip
      refine z_iload_n C dX7_tape_19 rfl 3 rfl ?_
      refine z_iconst C (v := 4) dX7_tape_20 (by decide) ?_
      refine z_icmp_le (tgt := 27) C dX7_tape_21 (by decide) (fun c21 => ?_) (fun c21 => ?_)
      · skip
        refine z_iload_n C dX7_tape_27 rfl 3 rfl ?_
        refine z_iconst C (v := -1) dX7_tape_28 (by decide) ?_
        refine z_icmp_ne (tgt := 41) C dX7_tape_29 (by decide) (fun c29 => ?_) (fun c29 => ?_)
        · skip
          refine z_iload_n C dX7_tape_41 rfl 4 rfl ?_
          refine z_bipush C (v := 60) dX7_tape_42 (by decide) ?_
          refine z_icmp_le (tgt := 50) C dX7_tape_44 (by decide) (fun c44 => ?_) (fun c44 => ?_)
          · skip
            refine z_iload_n C dX7_tape_50 rfl 4 rfl ?_
            refine z_if_ge (tgt := 57) C dX7_tape_51 (by decide) (fun c51 => ?_) (fun c51 => ?_)
            · skip
              refine z_aload C dX7_tape_57 0 rfl ?_
              refine z_iload_n C dX7_tape_59 rfl 3 rfl ?_
              refine z_iload_n C dX7_tape_60 rfl 4 rfl ?_
              refine z_callVv C hm cl_X7_307 cv_X4_become (35 + 2 * t) (shTn0 ht) (shT0 ht) ⟨_, _, rfl⟩ [.int sr, .int z] rfl (rest := []) rfl (k_X4_become w _ _ t sr z ht) ⟨rfl, rfl, Nat.le_of_ble_eq_true rfl, Nat.le_of_ble_eq_true rfl⟩ (Nat.le_of_ble_eq_true rfl) dX7_tape_61 (fun I_2 J_2 h_2 => ?_)
              obtain ⟨ei_2, ej_2⟩ := h_2
              replace ei_2 := ei_2.symm; subst ei_2
              replace ej_2 := ej_2.symm; subst ej_2
              refine z_iconst C (v := 1) dX7_tape_64 (by decide) ?_
              refine z_iret C hr rfl dX7_tape_65 ?_
              refine ⟨_, rfl, ?_⟩
              exact Or.inr ⟨t, ht, rfl, Or.inr (Or.inr ⟨zin_le (m := 4) (m1_0 c16 c29) (Int32.not_lt.mpr c21) (by decide), Or.inr (Or.inr ⟨nI_60 (Int32.not_lt.mpr c51) c44, rfl, rfl, rfl⟩)⟩)⟩
            · skip
              refine z_bipush C (v := -14) dX7_tape_54 (by decide) ?_
              refine z_iret C hr rfl dX7_tape_56 ?_
              refine ⟨_, rfl, ?_⟩
              exact Or.inr ⟨t, ht, rfl, Or.inr (Or.inr ⟨zin_le (m := 4) (m1_0 c16 c29) (Int32.not_lt.mpr c21) (by decide), Or.inr (Or.inl ⟨Int32.not_le.mp c51, rfl, rfl, rfl⟩)⟩)⟩
          · skip
            refine z_bipush C (v := -2) dX7_tape_47 (by decide) ?_
            refine z_iret C hr rfl dX7_tape_49 ?_
            refine ⟨_, rfl, ?_⟩
            exact Or.inr ⟨t, ht, rfl, Or.inr (Or.inr ⟨zin_le (m := 4) (m1_0 c16 c29) (Int32.not_lt.mpr c21) (by decide), Or.inl ⟨Int32.not_le.mp c44, rfl, rfl, rfl⟩⟩)⟩
        · skip
          refine z_aload C dX7_tape_32 0 rfl ?_
          refine z_iconst C (v := -1) dX7_tape_34 (by decide) ?_
          refine z_iconst C (v := 0) dX7_tape_35 (by decide) ?_
          refine z_callVv C hm cl_X7_307 cv_X4_become (35 + 2 * t) (shTn0 ht) (shT0 ht) ⟨_, _, rfl⟩ [.int (-1), .int 0] rfl (rest := []) rfl (k_X4_become w _ _ t (-1) (0) ht) ⟨rfl, rfl, Nat.le_of_ble_eq_true rfl, Nat.le_of_ble_eq_true rfl⟩ (Nat.le_of_ble_eq_true rfl) dX7_tape_36 (fun I_3 J_3 h_3 => ?_)
          obtain ⟨ei_3, ej_3⟩ := h_3
          replace ei_3 := ei_3.symm; subst ei_3
          replace ej_3 := ej_3.symm; subst ej_3
          refine z_iconst C (v := 1) dX7_tape_39 (by decide) ?_
          refine z_iret C hr rfl dX7_tape_40 ?_
          refine ⟨_, rfl, ?_⟩
          exact Or.inr ⟨t, ht, rfl, Or.inr (Or.inl ⟨c29, rfl, rfl, rfl⟩)⟩
      · skip
        refine z_bipush C (v := -2) dX7_tape_24 (by decide) ?_
        refine z_iret C hr rfl dX7_tape_26 ?_
        refine ⟨_, rfl, ?_⟩
        exact Or.inr ⟨t, ht, rfl, Or.inl ⟨Or.inr (Int32.not_le.mp c21), rfl, rfl, rfl⟩⟩
  · skip
    rw [cif_f t_1] at ev_1
    subst ev_1
    refine z_astoreN C hm (lv' := [(4, .null), (0, .ref (zad w 0)), (1, .int x), (2, .int sr), (3, .int z)]) dX7_tape_5 (by decide) rfl ?_
    refine z_aloadN C dX7_tape_7 0 rfl ?_
    refine z_ifnonnullN C dX7_tape_9 ?_
    refine z_iconst C (v := -1) dX7_tape_12 (by decide) ?_
    refine z_iret C hr rfl dX7_tape_13 ?_
    refine ⟨_, rfl, ?_⟩
    exact Or.inl ⟨t_1, rfl, rfl, rfl⟩
abbrev rm_X7_item : Room := { frames := 5, cells := 0, slots := 0, locals := 222 }
set_option maxRecDepth 100000 in
set_option maxHeartbeats 4000000 in
theorem k_X7_item (w : zW) (I : zI) (J : zJ) (ln : Nat → Nat) (x : Int32) (y : Int32) (q : Int64) (hTp : ∀ t, t < 6 → I (35 + 2 * t) 1 = nI (ln t) ∧ ln t ≤ 60) : zMet yX7_item cX7_item 6 (some .int) rm_X7_item w [.ref (zad w 0), .int x, .int y, .long q] I J (zpi (fun v I' J' => (¬ zin x 6 ∧ v = -1 ∧ I' = I ∧ J' = J) ∨ ∃ t, t < 6 ∧ x = nI t ∧ ((I (35 + 2 * t) 0 = -1 ∧ v = -11 ∧ I' = I ∧ J' = J) ∨ (I (35 + 2 * t) 0 ≠ -1 ∧ ((¬ zin y (ln t) ∧ v = -13 ∧ I' = I ∧ J' = J) ∨ ∃ i, i < ln t ∧ y = nI i ∧ v = 1 ∧ I' = I ∧ J' = zupJ J (35 + 2 * t + 1) (vp_updL (J (35 + 2 * t + 1)) i (zcut (I (35 + 2 * t) 0) q))))))) := by
  refine zMet_of (by decide) (Nat.le_of_ble_eq_true rfl) (fun X C hm hr => ?_)
  refine z_sub (lv' := [(0, .ref (zad w 0)), (1, .int x), (2, .int y), (3, .long q)]) [0, 1, 2, 3] rfl ?_
  refine z_aload_n C dX7_item_0 rfl 0 rfl ?_
  refine z_iload_n C dX7_item_1 rfl 1 rfl ?_
  refine z_callVr C hm cl_X7_266 cv_X7_tapeAt 0 (by decide) sh0 ⟨_, _, rfl⟩ [.int x] rfl (rest := []) rfl (k_X7_tapeAt w _ _ x) ⟨rfl, rfl, Nat.le_of_ble_eq_true rfl, Nat.le_of_ble_eq_true rfl⟩ (Nat.le_of_ble_eq_true rfl) dX7_item_2 (fun v_1 I_1 J_1 h_1 => ?_)
  obtain ⟨ev_1, ei_1, ej_1⟩ := h_1
  replace ei_1 := ei_1.symm; subst ei_1
  replace ej_1 := ej_1.symm; subst ej_1
  by_cases t_1 : zin x 6
  · skip
    obtain ⟨t, ht, rfl⟩ := t_1
    rw [cif_t ⟨t, ht, rfl⟩, zn_n (by omega)] at ev_1
    subst ev_1
    refine z_astore C hm (lv' := [(5, .ref (zad w (35 + 2 * t))), (0, .ref (zad w 0)), (1, .int (nI t)), (2, .int y), (3, .long q)]) dX7_item_5 (by decide) rfl ?_
    refine z_aload C dX7_item_7 0 rfl ?_
    refine z_ifnonnull (tgt := 14) C dX7_item_9 (by decide) ?_
    refine z_aload C dX7_item_14 0 rfl ?_
    refine z_geti C ff_X7_270 (35 + 2 * t) (shTn0 ht) (shT0 ht) rfl (v := I (35 + 2 * t) 0) rfl dX7_item_16 ?_
    refine z_iconst C (v := -1) dX7_item_19 (by decide) ?_
    refine z_icmp_ne (tgt := 26) C dX7_item_20 (by decide) (fun c20 => ?_) (fun c20 => ?_)
    · skip
      refine z_aload C dX7_item_26 0 rfl ?_
      refine z_iload_n C dX7_item_28 rfl 3 rfl ?_
      refine z_callVi C hm cl_X7_273 cv_X4_hasPlace (35 + 2 * t) (shTn0 ht) (shT0 ht) ⟨_, _, rfl⟩ [.int y] rfl (rest := []) rfl (k_X4_hasPlace w _ _ t (ln t) y ht (hTp t ht).1 (hTp t ht).2) ⟨rfl, rfl, Nat.le_of_ble_eq_true rfl, Nat.le_of_ble_eq_true rfl⟩ (Nat.le_of_ble_eq_true rfl) dX7_item_29 (fun v_2 I_2 J_2 h_2 => ?_)
      obtain ⟨ev_2, ei_2, ej_2⟩ := h_2
      replace ev_2 := ev_2.symm; subst ev_2
      replace ei_2 := ei_2.symm; subst ei_2
      replace ej_2 := ej_2.symm; subst ej_2
      refine z_ifne_b (tgt := 38) C dX7_item_32 (by decide) (fun c32 => ?_) (fun c32 => ?_)
      · skip
        obtain ⟨i, hi, rfl⟩ := c32
        have hl60 := (hTp t ht).2
        refine z_aload C dX7_item_38 0 rfl ?_
        refine z_getr C ff_X7_309 (35 + 2 * t) (shTn0 ht) (shT0 ht) rfl dX7_item_40 ?_
        refine z_iload_n C dX7_item_43 rfl 3 rfl ?_
        refine z_aload C dX7_item_44 0 rfl ?_
        refine z_geti C ff_X7_270 (35 + 2 * t) (shTn0 ht) (shT0 ht) rfl (v := I (35 + 2 * t) 0) rfl dX7_item_46 ?_
        refine z_lload_n C dX7_item_49 rfl 4 rfl ?_
        refine z_callSl C hm cl_X7_313 cs_X4_cut [.int (I (35 + 2 * t) 0), .long q] rfl (rest := [.int (nI i), .ref (zad w (35 + 2 * t + 1))]) rfl (k_X4_cut w _ _  (I (35 + 2 * t) 0) q ) ⟨rfl, rfl, Nat.le_of_ble_eq_true rfl, Nat.le_of_ble_eq_true rfl⟩ (Nat.le_of_ble_eq_true rfl) dX7_item_50 (fun v_3 I_3 J_3 h_3 => ?_)
        obtain ⟨ev_3, ei_3, ej_3⟩ := h_3
        replace ev_3 := ev_3.symm; subst ev_3
        replace ei_3 := ei_3.symm; subst ei_3
        replace ej_3 := ej_3.symm; subst ej_3
        refine z_last C (35 + 2 * t + 1) (shTn1 ht) (shT1 ht) i (by omega) (by decide) rfl dX7_item_53 ?_
        refine z_J (J' := zupJ J (35 + 2 * t + 1) (vp_updL (J (35 + 2 * t + 1)) i (zcut (I (35 + 2 * t) 0) q))) rfl ?_
        refine z_iconst C (v := 1) dX7_item_54 (by decide) ?_
        refine z_iret C hr rfl dX7_item_55 ?_
        refine ⟨_, rfl, ?_⟩
        exact Or.inr ⟨t, ht, rfl, Or.inr ⟨c20, Or.inr ⟨i, hi, rfl, rfl, rfl, rfl⟩⟩⟩
      · skip
        refine z_bipush C (v := -13) dX7_item_35 (by decide) ?_
        refine z_iret C hr rfl dX7_item_37 ?_
        refine ⟨_, rfl, ?_⟩
        exact Or.inr ⟨t, ht, rfl, Or.inr ⟨c20, Or.inl ⟨c32, rfl, rfl, rfl⟩⟩⟩
    · skip
      refine z_bipush C (v := -11) dX7_item_23 (by decide) ?_
      refine z_iret C hr rfl dX7_item_25 ?_
      refine ⟨_, rfl, ?_⟩
      exact Or.inr ⟨t, ht, rfl, Or.inl ⟨c20, rfl, rfl, rfl⟩⟩
  · skip
    rw [cif_f t_1] at ev_1
    subst ev_1
    refine z_astoreN C hm (lv' := [(5, .null), (0, .ref (zad w 0)), (1, .int x), (2, .int y), (3, .long q)]) dX7_item_5 (by decide) rfl ?_
    refine z_aloadN C dX7_item_7 0 rfl ?_
    refine z_ifnonnullN C dX7_item_9 ?_
    refine z_iconst C (v := -1) dX7_item_12 (by decide) ?_
    refine z_iret C hr rfl dX7_item_13 ?_
    refine ⟨_, rfl, ?_⟩
    exact Or.inl ⟨t_1, rfl, rfl, rfl⟩
abbrev rm_X7_read : Room := { frames := 5, cells := 0, slots := 0, locals := 221 }
set_option maxRecDepth 100000 in
set_option maxHeartbeats 4000000 in
theorem k_X7_read (w : zW) (I : zI) (J : zJ) (ln : Nat → Nat) (x : Int32) (y : Int32) (hTp : ∀ t, t < 6 → I (35 + 2 * t) 1 = nI (ln t) ∧ ln t ≤ 60) : zMet yX7_read cX7_read 4 (some .long) rm_X7_read w [.ref (zad w 0), .int x, .int y] I J (zpl (fun v I' J' => ((¬ zin x 6 ∧ v = -9223372036854775808) ∨ ∃ t, t < 6 ∧ x = nI t ∧ ((¬ zin y (ln t) ∧ v = -9223372036854775808) ∨ ∃ i, i < ln t ∧ y = nI i ∧ v = J (35 + 2 * t + 1) i)) ∧ I' = I ∧ J' = J)) := by
  refine zMet_of (by decide) (Nat.le_of_ble_eq_true rfl) (fun X C hm hr => ?_)
  refine z_sub (lv' := [(0, .ref (zad w 0)), (1, .int x), (2, .int y)]) [0, 1, 2] rfl ?_
  refine z_aload_n C dX7_read_0 rfl 0 rfl ?_
  refine z_iload_n C dX7_read_1 rfl 1 rfl ?_
  refine z_callVr C hm cl_X7_266 cv_X7_tapeAt 0 (by decide) sh0 ⟨_, _, rfl⟩ [.int x] rfl (rest := []) rfl (k_X7_tapeAt w _ _ x) ⟨rfl, rfl, Nat.le_of_ble_eq_true rfl, Nat.le_of_ble_eq_true rfl⟩ (Nat.le_of_ble_eq_true rfl) dX7_read_2 (fun v_1 I_1 J_1 h_1 => ?_)
  obtain ⟨ev_1, ei_1, ej_1⟩ := h_1
  replace ei_1 := ei_1.symm; subst ei_1
  replace ej_1 := ej_1.symm; subst ej_1
  by_cases t_1 : zin x 6
  · skip
    obtain ⟨t, ht, rfl⟩ := t_1
    rw [cif_t ⟨t, ht, rfl⟩, zn_n (by omega)] at ev_1
    subst ev_1
    refine z_astore_n C hm (lv' := [(3, .ref (zad w (35 + 2 * t))), (0, .ref (zad w 0)), (1, .int (nI t)), (2, .int y)]) dX7_read_5 rfl (by decide) rfl ?_
    refine z_aload_n C dX7_read_6 rfl 0 rfl ?_
    refine z_ifnull C dX7_read_7 ?_
    refine z_aload_n C dX7_read_10 rfl 0 rfl ?_
    refine z_iload_n C dX7_read_11 rfl 3 rfl ?_
    refine z_callVi C hm cl_X7_273 cv_X4_hasPlace (35 + 2 * t) (shTn0 ht) (shT0 ht) ⟨_, _, rfl⟩ [.int y] rfl (rest := []) rfl (k_X4_hasPlace w _ _ t (ln t) y ht (hTp t ht).1 (hTp t ht).2) ⟨rfl, rfl, Nat.le_of_ble_eq_true rfl, Nat.le_of_ble_eq_true rfl⟩ (Nat.le_of_ble_eq_true rfl) dX7_read_12 (fun v_2 I_2 J_2 h_2 => ?_)
    obtain ⟨ev_2, ei_2, ej_2⟩ := h_2
    replace ev_2 := ev_2.symm; subst ev_2
    replace ei_2 := ei_2.symm; subst ei_2
    replace ej_2 := ej_2.symm; subst ej_2
    refine z_ifne_b (tgt := 22) C dX7_read_15 (by decide) (fun c15 => ?_) (fun c15 => ?_)
    · skip
      obtain ⟨i, hi, rfl⟩ := c15
      have hl60 := (hTp t ht).2
      refine z_aload_n C dX7_read_22 rfl 0 rfl ?_
      refine z_getr C ff_X7_309 (35 + 2 * t) (shTn0 ht) (shT0 ht) rfl dX7_read_23 ?_
      refine z_iload_n C dX7_read_26 rfl 3 rfl ?_
      refine z_lald C (35 + 2 * t + 1) (shTn1 ht) (shT1 ht) i (by omega) (by decide) rfl (v := J (35 + 2 * t + 1) i) rfl dX7_read_27 ?_
      refine z_lret C hr dX7_read_28 ?_
      refine ⟨_, rfl, ?_⟩
      exact ⟨Or.inr ⟨t, ht, rfl, Or.inr ⟨i, hi, rfl, rfl⟩⟩, rfl, rfl⟩
    · skip
      refine z_ldc2 C (v := -9223372036854775808) kl_X7_187 dX7_read_18 ?_
      refine z_lret C hr dX7_read_21 ?_
      refine ⟨_, rfl, ?_⟩
      exact ⟨Or.inr ⟨t, ht, rfl, Or.inl ⟨c15, rfl⟩⟩, rfl, rfl⟩
  · skip
    rw [cif_f t_1] at ev_1
    subst ev_1
    refine z_astore_nN C hm (lv' := [(3, .null), (0, .ref (zad w 0)), (1, .int x), (2, .int y)]) dX7_read_5 rfl (by decide) rfl ?_
    refine z_aload_nN C dX7_read_6 rfl 0 rfl ?_
    refine z_ifnullN (tgt := 18) C dX7_read_7 (by decide) ?_
    refine z_ldc2 C (v := -9223372036854775808) kl_X7_187 dX7_read_18 ?_
    refine z_lret C hr dX7_read_21 ?_
    refine ⟨_, rfl, ?_⟩
    exact ⟨Or.inl ⟨t_1, rfl⟩, rfl, rfl⟩
abbrev rm_X7_shift : Room := { frames := 5, cells := 0, slots := 0, locals := 222 }
set_option maxRecDepth 100000 in
set_option maxHeartbeats 4000000 in
theorem k_X7_shift (w : zW) (I : zI) (J : zJ) (ln : Nat → Nat) (x : Int32) (y : Int32) (z : Int32) (u : Int32) (q : Int32) (hTp : ∀ t, t < 6 → I (35 + 2 * t) 1 = nI (ln t) ∧ ln t ≤ 60) : zMet yX7_shift cX7_shift 8 (some .int) rm_X7_shift w [.ref (zad w 0), .int x, .int y, .int z, .int u, .int q] I J (zpi (fun v I' J' => ((¬ zin x 6 ∨ ¬ zin z 6) ∧ v = -1 ∧ I' = I ∧ J' = J) ∨ ∃ t, t < 6 ∧ x = nI t ∧ ∃ o, o < 6 ∧ z = nI o ∧ (((I (35 + 2 * t) 0 = -1 ∨ I (35 + 2 * o) 0 = -1) ∧ v = -11 ∧ I' = I ∧ J' = J) ∨ (I (35 + 2 * t) 0 ≠ -1 ∧ I (35 + 2 * o) 0 ≠ -1 ∧ ((I (35 + 2 * t) 0 ≠ I (35 + 2 * o) 0 ∧ v = -12 ∧ I' = I ∧ J' = J) ∨ (I (35 + 2 * t) 0 = I (35 + 2 * o) 0 ∧ ((¬ ((∃ k m : Nat, y = nI k ∧ q = nI m ∧ k + m ≤ ln t) ∧ (∃ k m : Nat, u = nI k ∧ q = nI m ∧ k + m ≤ ln o)) ∧ v = -13 ∧ I' = I ∧ J' = J) ∨ ∃ k k2 m : Nat, y = nI k ∧ u = nI k2 ∧ q = nI m ∧ k + m ≤ ln t ∧ k2 + m ≤ ln o ∧ v = nI m ∧ I' = I ∧ J' = zupJ J (35 + 2 * o + 1) (va_cpy (J (35 + 2 * t + 1)) (J (35 + 2 * o + 1)) k k2 m)))))))) := by
  refine zMet_of (by decide) (Nat.le_of_ble_eq_true rfl) (fun X C hm hr => ?_)
  refine z_sub (lv' := [(0, .ref (zad w 0)), (1, .int x), (2, .int y), (3, .int z), (4, .int u), (5, .int q)]) [0, 1, 2, 3, 4, 5] rfl ?_
  refine z_aload_n C dX7_shift_0 rfl 0 rfl ?_
  refine z_iload_n C dX7_shift_1 rfl 1 rfl ?_
  refine z_callVr C hm cl_X7_266 cv_X7_tapeAt 0 (by decide) sh0 ⟨_, _, rfl⟩ [.int x] rfl (rest := []) rfl (k_X7_tapeAt w _ _ x) ⟨rfl, rfl, Nat.le_of_ble_eq_true rfl, Nat.le_of_ble_eq_true rfl⟩ (Nat.le_of_ble_eq_true rfl) dX7_shift_2 (fun v_1 I_1 J_1 h_1 => ?_)
  obtain ⟨ev_1, ei_1, ej_1⟩ := h_1
  replace ei_1 := ei_1.symm; subst ei_1
  replace ej_1 := ej_1.symm; subst ej_1
  by_cases t_1 : zin x 6
  · skip
    obtain ⟨t, ht, rfl⟩ := t_1
    rw [cif_t ⟨t, ht, rfl⟩, zn_n (by omega)] at ev_1
    subst ev_1
    refine z_astore C hm (lv' := [(6, .ref (zad w (35 + 2 * t))), (0, .ref (zad w 0)), (1, .int (nI t)), (2, .int y), (3, .int z), (4, .int u), (5, .int q)]) dX7_shift_5 (by decide) rfl ?_
    refine z_aload_n C dX7_shift_7 rfl 1 rfl ?_
    refine z_iload_n C dX7_shift_8 rfl 4 rfl ?_
    refine z_callVr C hm cl_X7_266 cv_X7_tapeAt 0 (by decide) sh0 ⟨_, _, rfl⟩ [.int z] rfl (rest := []) rfl (k_X7_tapeAt w _ _ z) ⟨rfl, rfl, Nat.le_of_ble_eq_true rfl, Nat.le_of_ble_eq_true rfl⟩ (Nat.le_of_ble_eq_true rfl) dX7_shift_9 (fun v_2 I_2 J_2 h_2 => ?_)
    obtain ⟨ev_2, ei_2, ej_2⟩ := h_2
    replace ei_2 := ei_2.symm; subst ei_2
    replace ej_2 := ej_2.symm; subst ej_2
    by_cases t_2 : zin z 6
    · skip
      obtain ⟨o, ho, rfl⟩ := t_2
      rw [cif_t ⟨o, ho, rfl⟩, zn_n (by omega)] at ev_2
      subst ev_2
      refine z_astore C hm (lv' := [(7, .ref (zad w (35 + 2 * o))), (6, .ref (zad w (35 + 2 * t))), (0, .ref (zad w 0)), (1, .int (nI t)), (2, .int y), (3, .int (nI o)), (4, .int u), (5, .int q)]) dX7_shift_12 (by decide) rfl ?_
      refine z_aload C dX7_shift_14 1 rfl ?_
      refine z_ifnull C dX7_shift_16 ?_
      refine z_aload C dX7_shift_19 0 rfl ?_
      refine z_ifnonnull (tgt := 26) C dX7_shift_21 (by decide) ?_
      refine z_aload C dX7_shift_26 1 rfl ?_
      refine z_geti C ff_X7_270 (35 + 2 * t) (shTn0 ht) (shT0 ht) rfl (v := I (35 + 2 * t) 0) rfl dX7_shift_28 ?_
      refine z_iconst C (v := -1) dX7_shift_31 (by decide) ?_
      refine z_icmp_eq (tgt := 44) C dX7_shift_32 (by decide) (fun c32 => ?_) (fun c32 => ?_)
      · skip
        refine z_bipush C (v := -11) dX7_shift_44 (by decide) ?_
        refine z_iret C hr rfl dX7_shift_46 ?_
        refine ⟨_, rfl, ?_⟩
        exact Or.inr ⟨t, ht, rfl, o, ho, rfl, Or.inl ⟨Or.inl c32, rfl, rfl, rfl⟩⟩
      · skip
        refine z_aload C dX7_shift_35 0 rfl ?_
        refine z_geti C ff_X7_270 (35 + 2 * o) (shTn0 ho) (shT0 ho) rfl (v := I (35 + 2 * o) 0) rfl dX7_shift_37 ?_
        refine z_iconst C (v := -1) dX7_shift_40 (by decide) ?_
        refine z_icmp_ne (tgt := 47) C dX7_shift_41 (by decide) (fun c41 => ?_) (fun c41 => ?_)
        · skip
          refine z_aload C dX7_shift_47 1 rfl ?_
          refine z_geti C ff_X7_270 (35 + 2 * t) (shTn0 ht) (shT0 ht) rfl (v := I (35 + 2 * t) 0) rfl dX7_shift_49 ?_
          refine z_aload C dX7_shift_52 0 rfl ?_
          refine z_geti C ff_X7_270 (35 + 2 * o) (shTn0 ho) (shT0 ho) rfl (v := I (35 + 2 * o) 0) rfl dX7_shift_54 ?_
          refine z_icmp_eq (tgt := 63) C dX7_shift_57 (by decide) (fun c57 => ?_) (fun c57 => ?_)
          · skip
            refine z_aload C dX7_shift_63 1 rfl ?_
            refine z_iload_n C dX7_shift_65 rfl 4 rfl ?_
            refine z_iload C dX7_shift_66 7 rfl ?_
            refine z_callVi C hm cl_X7_317 cv_X4_hasRun (35 + 2 * t) (shTn0 ht) (shT0 ht) ⟨_, _, rfl⟩ [.int y, .int q] rfl (rest := []) rfl (k_X4_hasRun w _ _ t (ln t) y q ht (hTp t ht).1 (hTp t ht).2) ⟨rfl, rfl, Nat.le_of_ble_eq_true rfl, Nat.le_of_ble_eq_true rfl⟩ (Nat.le_of_ble_eq_true rfl) dX7_shift_68 (fun v_3 I_3 J_3 h_3 => ?_)
            obtain ⟨ev_3, ei_3, ej_3⟩ := h_3
            replace ev_3 := ev_3.symm; subst ev_3
            replace ei_3 := ei_3.symm; subst ei_3
            replace ej_3 := ej_3.symm; subst ej_3
            refine z_ifeq_b (tgt := 86) C dX7_shift_71 (by decide) (fun c71 => ?_) (fun c71 => ?_)
            · skip
              refine z_bipush C (v := -13) dX7_shift_86 (by decide) ?_
              refine z_iret C hr rfl dX7_shift_88 ?_
              refine ⟨_, rfl, ?_⟩
              exact Or.inr ⟨t, ht, rfl, o, ho, rfl, Or.inr ⟨c32, c41, Or.inr ⟨c57, Or.inl ⟨fun z => c71 z.1, rfl, rfl, rfl⟩⟩⟩⟩
            · skip
              refine z_aload C dX7_shift_74 0 rfl ?_
              refine z_iload C dX7_shift_76 6 rfl ?_
              refine z_iload C dX7_shift_78 7 rfl ?_
              refine z_callVi C hm cl_X7_317 cv_X4_hasRun (35 + 2 * o) (shTn0 ho) (shT0 ho) ⟨_, _, rfl⟩ [.int u, .int q] rfl (rest := []) rfl (k_X4_hasRun w _ _ o (ln o) u q ho (hTp o ho).1 (hTp o ho).2) ⟨rfl, rfl, Nat.le_of_ble_eq_true rfl, Nat.le_of_ble_eq_true rfl⟩ (Nat.le_of_ble_eq_true rfl) dX7_shift_80 (fun v_4 I_4 J_4 h_4 => ?_)
              obtain ⟨ev_4, ei_4, ej_4⟩ := h_4
              replace ev_4 := ev_4.symm; subst ev_4
              replace ei_4 := ei_4.symm; subst ei_4
              replace ej_4 := ej_4.symm; subst ej_4
              refine z_ifne_b (tgt := 89) C dX7_shift_83 (by decide) (fun c83 => ?_) (fun c83 => ?_)
              · skip
                obtain ⟨k, m, rfl, rfl, hk1⟩ := c71
                obtain ⟨k2, m2, rfl, hm2, hk2⟩ := c83
                have hl60 := (hTp t ht).2
                have hl61 := (hTp o ho).2
                have hmm : k + m ≤ 60 := by omega
                have hmm2 : m2 = m := (nI_eq (by omega) (by omega)).mp hm2.symm
                rw [hmm2] at hk2
                refine z_aload C dX7_shift_89 1 rfl ?_
                refine z_getr C ff_X7_309 (35 + 2 * t) (shTn0 ht) (shT0 ht) rfl dX7_shift_91 ?_
                refine z_iload_n C dX7_shift_94 rfl 4 rfl ?_
                refine z_aload C dX7_shift_95 0 rfl ?_
                refine z_getr C ff_X7_309 (35 + 2 * o) (shTn0 ho) (shT0 ho) rfl dX7_shift_97 ?_
                refine z_iload C dX7_shift_100 6 rfl ?_
                refine z_iload C dX7_shift_102 7 rfl ?_
                refine z_copyl C ml_X7_320 na_copy st_copy in_sys (35 + 2 * t + 1) (35 + 2 * o + 1) (shTn1 ht) (shTn1 ho) (shT1 ht) (shT1 ho) k k2 m rfl rfl rfl (by omega) (by omega) (by decide) (by decide) (Nat.le_of_ble_eq_true rfl) (Nat.le_of_ble_eq_true rfl) dX7_shift_104 ?_
                refine z_J (J' := zupJ J (35 + 2 * o + 1) (va_cpy (J (35 + 2 * t + 1)) (J (35 + 2 * o + 1)) k k2 m)) rfl ?_
                refine z_iload C dX7_shift_107 7 rfl ?_
                refine z_iret C hr rfl dX7_shift_109 ?_
                refine ⟨_, rfl, ?_⟩
                exact Or.inr ⟨t, ht, rfl, o, ho, rfl, Or.inr ⟨c32, c41, Or.inr ⟨c57, Or.inr ⟨k, k2, m, rfl, rfl, rfl, hk1, hk2, rfl, rfl, rfl⟩⟩⟩⟩
              · skip
                refine z_bipush C (v := -13) dX7_shift_86 (by decide) ?_
                refine z_iret C hr rfl dX7_shift_88 ?_
                refine ⟨_, rfl, ?_⟩
                exact Or.inr ⟨t, ht, rfl, o, ho, rfl, Or.inr ⟨c32, c41, Or.inr ⟨c57, Or.inl ⟨fun z => c83 z.2, rfl, rfl, rfl⟩⟩⟩⟩
          · skip
            refine z_bipush C (v := -12) dX7_shift_60 (by decide) ?_
            refine z_iret C hr rfl dX7_shift_62 ?_
            refine ⟨_, rfl, ?_⟩
            exact Or.inr ⟨t, ht, rfl, o, ho, rfl, Or.inr ⟨c32, c41, Or.inl ⟨c57, rfl, rfl, rfl⟩⟩⟩
        · skip
          refine z_bipush C (v := -11) dX7_shift_44 (by decide) ?_
          refine z_iret C hr rfl dX7_shift_46 ?_
          refine ⟨_, rfl, ?_⟩
          exact Or.inr ⟨t, ht, rfl, o, ho, rfl, Or.inl ⟨Or.inr c41, rfl, rfl, rfl⟩⟩
    · skip
      rw [cif_f t_2] at ev_2
      subst ev_2
      refine z_astoreN C hm (lv' := [(7, .null), (6, .ref (zad w (35 + 2 * t))), (0, .ref (zad w 0)), (1, .int (nI t)), (2, .int y), (3, .int z), (4, .int u), (5, .int q)]) dX7_shift_12 (by decide) rfl ?_
      refine z_aload C dX7_shift_14 1 rfl ?_
      refine z_ifnull C dX7_shift_16 ?_
      refine z_aloadN C dX7_shift_19 0 rfl ?_
      refine z_ifnonnullN C dX7_shift_21 ?_
      refine z_iconst C (v := -1) dX7_shift_24 (by decide) ?_
      refine z_iret C hr rfl dX7_shift_25 ?_
      refine ⟨_, rfl, ?_⟩
      exact Or.inl ⟨Or.inr t_2, rfl, rfl, rfl⟩
  · skip
    rw [cif_f t_1] at ev_1
    subst ev_1
    refine z_astoreN C hm (lv' := [(6, .null), (0, .ref (zad w 0)), (1, .int x), (2, .int y), (3, .int z), (4, .int u), (5, .int q)]) dX7_shift_5 (by decide) rfl ?_
    refine z_aload_n C dX7_shift_7 rfl 1 rfl ?_
    refine z_iload_n C dX7_shift_8 rfl 4 rfl ?_
    refine z_callVr C hm cl_X7_266 cv_X7_tapeAt 0 (by decide) sh0 ⟨_, _, rfl⟩ [.int z] rfl (rest := []) rfl (k_X7_tapeAt w _ _ z) ⟨rfl, rfl, Nat.le_of_ble_eq_true rfl, Nat.le_of_ble_eq_true rfl⟩ (Nat.le_of_ble_eq_true rfl) dX7_shift_9 (fun v_5 I_5 J_5 h_5 => ?_)
    obtain ⟨ev_5, ei_5, ej_5⟩ := h_5
    replace ei_5 := ei_5.symm; subst ei_5
    replace ej_5 := ej_5.symm; subst ej_5
    by_cases t_5 : zin z 6
    · skip
      obtain ⟨o, ho, rfl⟩ := t_5
      rw [cif_t ⟨o, ho, rfl⟩, zn_n (by omega)] at ev_5
      subst ev_5
      refine z_astore C hm (lv' := [(7, .ref (zad w (35 + 2 * o))), (6, .null), (0, .ref (zad w 0)), (1, .int x), (2, .int y), (3, .int (nI o)), (4, .int u), (5, .int q)]) dX7_shift_12 (by decide) rfl ?_
      refine z_aloadN C dX7_shift_14 1 rfl ?_
      refine z_ifnullN (tgt := 24) C dX7_shift_16 (by decide) ?_
      refine z_iconst C (v := -1) dX7_shift_24 (by decide) ?_
      refine z_iret C hr rfl dX7_shift_25 ?_
      refine ⟨_, rfl, ?_⟩
      exact Or.inl ⟨Or.inl t_1, rfl, rfl, rfl⟩
    · skip
      rw [cif_f t_5] at ev_5
      subst ev_5
      refine z_astoreN C hm (lv' := [(7, .null), (6, .null), (0, .ref (zad w 0)), (1, .int x), (2, .int y), (3, .int z), (4, .int u), (5, .int q)]) dX7_shift_12 (by decide) rfl ?_
      refine z_aloadN C dX7_shift_14 1 rfl ?_
      refine z_ifnullN (tgt := 24) C dX7_shift_16 (by decide) ?_
      refine z_iconst C (v := -1) dX7_shift_24 (by decide) ?_
      refine z_iret C hr rfl dX7_shift_25 ?_
      refine ⟨_, rfl, ?_⟩
      exact Or.inl ⟨Or.inl t_1, rfl, rfl, rfl⟩
