/-! the reference's calls, first part -/
abbrev rm_X8_name : Room := { frames := 5, cells := 0, slots := 0, locals := 223 }
set_option maxRecDepth 100000 in
set_option maxHeartbeats 4000000 in
theorem k_X8_name (w : zW) (I : zI) (J : zJ) (n : Nat) (x : Int32) (hN : I 82 0 = nI n) (hn : n ≤ 8) : zMet yX8_name cX8_name 2 (some .int) rm_X8_name w [.ref (zad w 82), .int x] I J (zpi (fun v I' J' => v = cif (zi1 x 12) (cif (n < 8) (nI n) (-4)) (-2) ∧ I' = cif (zi1 x 12 ∧ n < 8) (zup (zup I 83 (upd (I 83) n x)) 82 (upd (I 82) 0 (nI (n + 1)))) I ∧ J' = J)) := by
  refine zMet_of (by decide) (Nat.le_of_ble_eq_true rfl) (fun X C hm hr => ?_)
  refine z_sub (lv' := [(0, .ref (zad w 82)), (1, .int x)]) [0, 1] rfl ?_
  refine z_aload_n C dX8_name_0 rfl 0 rfl ?_
  refine z_iload_n C dX8_name_1 rfl 1 rfl ?_
  refine z_iconst C (v := 1) dX8_name_2 (by decide) ?_
  refine z_bipush C (v := 12) dX8_name_3 (by decide) ?_
  refine z_callVi C hm cl_X8_189 cv_X8_in 82 (by decide) sh82 ⟨_, _, rfl⟩ [.int x, .int 1, .int 12] rfl (rest := []) rfl (k_X8_in w _ _ x (1) (12)) ⟨rfl, rfl, Nat.le_of_ble_eq_true rfl, Nat.le_of_ble_eq_true rfl⟩ (Nat.le_of_ble_eq_true rfl) dX8_name_5 (fun v_1 I_1 J_1 h_1 => ?_)
  obtain ⟨ev_1, ei_1, ej_1⟩ := h_1
  replace ei_1 := ei_1.symm; subst ei_1
  replace ej_1 := ej_1.symm; subst ej_1
  replace ev_1 := ev_1.trans (bI_c (in_1 (m := 12) (by decide))); subst ev_1
  refine z_ifne_b (tgt := 14) C dX8_name_8 (by decide) (fun c8 => ?_) (fun c8 => ?_)
  · skip
    refine z_aload_n C dX8_name_14 rfl 0 rfl ?_
    refine z_geti C ff_X8_7 82 (by decide) sh82 rfl (v := nI n) hN dX8_name_15 ?_
    refine z_bipush C (v := 8) dX8_name_18 (by decide) ?_
    refine z_icmp_ne_n n 8 (tgt := 26) C rfl rfl (by omega) (by omega) dX8_name_20 (by decide) (fun c20 => ?_) (fun c20 => ?_)
    · skip
      refine z_aload_n C dX8_name_26 rfl 0 rfl ?_
      refine z_getr C ff_X8_13 82 (by decide) sh82 rfl dX8_name_27 ?_
      refine z_aload_n C dX8_name_30 rfl 0 rfl ?_
      refine z_geti C ff_X8_7 82 (by decide) sh82 rfl (v := nI n) hN dX8_name_31 ?_
      refine z_iload_n C dX8_name_34 rfl 1 rfl ?_
      refine z_iast C 83 (by decide) sh83 n (by omega) (by decide) rfl dX8_name_35 ?_
      refine z_I (I' := zup I 83 (upd (I 83) n x)) rfl ?_
      refine z_aload_n C dX8_name_36 rfl 0 rfl ?_
      refine z_dup C dX8_name_37 rfl ?_
      refine z_geti C ff_X8_7 82 (by decide) sh82 rfl (v := nI n) (by first | exact hN | (simp [zup, zupJ, upd, vp_updL]; exact hN)) dX8_name_38 ?_
      refine z_iconst C (v := 1) dX8_name_41 (by decide) ?_
      refine z_iadd C dX8_name_42 ?_
      refine z_ti (y := nI (n + 1)) (nI_add n 1) ?_
      refine z_puti C ff_X8_7 82 (by decide) sh82 rfl rfl rfl dX8_name_43 ?_
      refine z_I (I' := zup (zup I 83 (upd (I 83) n x)) 82 (upd (I 82) 0 (nI (n + 1)))) (by first | rfl | (rw [zup_n] <;> omega)) ?_
      refine z_aload_n C dX8_name_46 rfl 0 rfl ?_
      refine z_geti C ff_X8_7 82 (by decide) sh82 rfl (v := nI (n + 1)) (by first | rfl | (simp [zup, zupJ, upd, vp_updL]; done)) dX8_name_47 ?_
      refine z_iconst C (v := 1) dX8_name_50 (by decide) ?_
      refine z_isub C dX8_name_51 ?_
      refine z_ti (y := nI n) (nI_pred n) ?_
      refine z_iret C hr rfl dX8_name_52 ?_
      refine ⟨_, rfl, ?_⟩
      exact ⟨by rw [cif_t c8, cif_t (by omega)], by rw [cif_t ⟨c8, by omega⟩], rfl⟩
    · skip
      refine z_bipush C (v := -4) dX8_name_23 (by decide) ?_
      refine z_iret C hr rfl dX8_name_25 ?_
      refine ⟨_, rfl, ?_⟩
      exact ⟨by rw [cif_t c8, cif_f (by omega)], by rw [cif_f (fun q => by omega)], rfl⟩
  · skip
    refine z_bipush C (v := -2) dX8_name_11 (by decide) ?_
    refine z_iret C hr rfl dX8_name_13 ?_
    refine ⟨_, rfl, ?_⟩
    exact ⟨by rw [cif_f c8], by rw [cif_f (fun q => c8 q.1)], rfl⟩
abbrev rm_X8_join : Room := { frames := 6, cells := 0, slots := 0, locals := 244 }
set_option maxRecDepth 100000 in
set_option maxHeartbeats 4000000 in
theorem k_X8_join (w : zW) (I : zI) (J : zJ) (n : Nat) (x : Int32) (y : Int32) (s : Int32) (hN : I 82 0 = nI n) (hn : n ≤ 8) : zMet yX8_join cX8_join 5 (some .int) rm_X8_join w [.ref (zad w 82), .int x, .int y, .int s] I J (zpi (fun v I' J' => v = cif (zin x n ∧ zin y n) (cif (x ≠ y ∧ zin s 6) (I 84 (8 * zn x + zn y)) (-2)) (-1) ∧ I' = cif (zin x n ∧ zin y n ∧ x ≠ y ∧ zin s 6) (zup I 84 (upd (upd (I 84) (8 * zn x + zn y) s) (8 * zn y + zn x) s)) I ∧ J' = J)) := by
  refine zMet_of (by decide) (Nat.le_of_ble_eq_true rfl) (fun X C hm hr => ?_)
  refine z_sub (lv' := [(0, .ref (zad w 82)), (1, .int x), (2, .int y), (3, .int s)]) [0, 1, 2, 3] rfl ?_
  refine z_aload_n C dX8_join_0 rfl 0 rfl ?_
  refine z_iload_n C dX8_join_1 rfl 1 rfl ?_
  refine z_callVi C hm cl_X8_193 cv_X8_isName 82 (by decide) sh82 ⟨_, _, rfl⟩ [.int x] rfl (rest := []) rfl (k_X8_isName w _ _ n x hN hn) ⟨rfl, rfl, Nat.le_of_ble_eq_true rfl, Nat.le_of_ble_eq_true rfl⟩ (Nat.le_of_ble_eq_true rfl) dX8_join_2 (fun v_1 I_1 J_1 h_1 => ?_)
  obtain ⟨ev_1, ei_1, ej_1⟩ := h_1
  replace ev_1 := ev_1.symm; subst ev_1
  replace ei_1 := ei_1.symm; subst ei_1
  replace ej_1 := ej_1.symm; subst ej_1
  refine z_ifeq_b (tgt := 16) C dX8_join_5 (by decide) (fun c5 => ?_) (fun c5 => ?_)
  · skip
    refine z_iconst C (v := -1) dX8_join_16 (by decide) ?_
    refine z_iret C hr rfl dX8_join_17 ?_
    refine ⟨_, rfl, ?_⟩
    exact ⟨by rw [cif_f (fun q => c5 q.1)], by rw [cif_f (fun q => c5 q.1)], rfl⟩
  · skip
    obtain ⟨a, ha, rfl⟩ := c5
    refine z_aload_n C dX8_join_8 rfl 0 rfl ?_
    refine z_iload_n C dX8_join_9 rfl 2 rfl ?_
    refine z_callVi C hm cl_X8_193 cv_X8_isName 82 (by decide) sh82 ⟨_, _, rfl⟩ [.int y] rfl (rest := []) rfl (k_X8_isName w _ _ n y hN hn) ⟨rfl, rfl, Nat.le_of_ble_eq_true rfl, Nat.le_of_ble_eq_true rfl⟩ (Nat.le_of_ble_eq_true rfl) dX8_join_10 (fun v_2 I_2 J_2 h_2 => ?_)
    obtain ⟨ev_2, ei_2, ej_2⟩ := h_2
    replace ev_2 := ev_2.symm; subst ev_2
    replace ei_2 := ei_2.symm; subst ei_2
    replace ej_2 := ej_2.symm; subst ej_2
    refine z_ifne_b (tgt := 18) C dX8_join_13 (by decide) (fun c13 => ?_) (fun c13 => ?_)
    · skip
      obtain ⟨b, hb, rfl⟩ := c13
      refine z_iload_n C dX8_join_18 rfl 1 rfl ?_
      refine z_iload_n C dX8_join_19 rfl 2 rfl ?_
      refine z_icmp_eq_n a b (tgt := 33) C rfl rfl (by omega) (by omega) dX8_join_20 (by decide) (fun c20 => ?_) (fun c20 => ?_)
      · skip
        refine z_bipush C (v := -2) dX8_join_33 (by decide) ?_
        refine z_iret C hr rfl dX8_join_35 ?_
        refine ⟨_, rfl, ?_⟩
        exact ⟨by rw [cif_t ⟨⟨a, ha, rfl⟩, ⟨b, hb, rfl⟩⟩, cif_f (fun q => q.1 (by rw [c20]))], by rw [cif_f (fun q => q.2.2.1 (by rw [c20]))], rfl⟩
      · skip
        refine z_aload_n C dX8_join_23 rfl 0 rfl ?_
        refine z_iload_n C dX8_join_24 rfl 3 rfl ?_
        refine z_iconst C (v := 0) dX8_join_25 (by decide) ?_
        refine z_iconst C (v := 5) dX8_join_26 (by decide) ?_
        refine z_callVi C hm cl_X8_189 cv_X8_in 82 (by decide) sh82 ⟨_, _, rfl⟩ [.int s, .int 0, .int 5] rfl (rest := []) rfl (k_X8_in w _ _ s (0) (5)) ⟨rfl, rfl, Nat.le_of_ble_eq_true rfl, Nat.le_of_ble_eq_true rfl⟩ (Nat.le_of_ble_eq_true rfl) dX8_join_27 (fun v_3 I_3 J_3 h_3 => ?_)
        obtain ⟨ev_3, ei_3, ej_3⟩ := h_3
        replace ei_3 := ei_3.symm; subst ei_3
        replace ej_3 := ej_3.symm; subst ej_3
        replace ev_3 := ev_3.trans (bI_c (in_z (m := 5) (by decide))); subst ev_3
        refine z_ifne_b (tgt := 36) C dX8_join_30 (by decide) (fun c30 => ?_) (fun c30 => ?_)
        · skip
          refine z_aload_n C dX8_join_36 rfl 0 rfl ?_
          refine z_getr C ff_X8_17 82 (by decide) sh82 rfl dX8_join_37 ?_
          refine z_bipush C (v := 8) dX8_join_40 (by decide) ?_
          refine z_iload_n C dX8_join_42 rfl 1 rfl ?_
          refine z_imul C dX8_join_43 ?_
          refine z_ti (y := nI (8 * a)) (pk_mul 8 a) ?_
          refine z_iload_n C dX8_join_44 rfl 2 rfl ?_
          refine z_iadd C dX8_join_45 ?_
          refine z_ti (y := nI (8 * a + b)) (nI_add (8 * a) b) ?_
          refine z_iald C 84 (by decide) sh84 (8 * a + b) (by omega) (by decide) rfl (v := I 84 (8 * a + b)) rfl dX8_join_46 ?_
          refine z_istore C hm (lv' := [(4, .int (I 84 (8 * a + b))), (0, .ref (zad w 82)), (1, .int (nI a)), (2, .int (nI b)), (3, .int s)]) dX8_join_47 (by decide) rfl ?_
          refine z_aload_n C dX8_join_49 rfl 1 rfl ?_
          refine z_getr C ff_X8_17 82 (by decide) sh82 rfl dX8_join_50 ?_
          refine z_bipush C (v := 8) dX8_join_53 (by decide) ?_
          refine z_iload_n C dX8_join_55 rfl 2 rfl ?_
          refine z_imul C dX8_join_56 ?_
          refine z_ti (y := nI (8 * a)) (pk_mul 8 a) ?_
          refine z_iload_n C dX8_join_57 rfl 3 rfl ?_
          refine z_iadd C dX8_join_58 ?_
          refine z_ti (y := nI (8 * a + b)) (nI_add (8 * a) b) ?_
          refine z_iload_n C dX8_join_59 rfl 4 rfl ?_
          refine z_iast C 84 (by decide) sh84 (8 * a + b) (by omega) (by decide) rfl dX8_join_60 ?_
          refine z_I (I' := zup I 84 (upd (I 84) (8 * a + b) s)) rfl ?_
          refine z_aload_n C dX8_join_61 rfl 1 rfl ?_
          refine z_getr C ff_X8_17 82 (by decide) sh82 rfl dX8_join_62 ?_
          refine z_bipush C (v := 8) dX8_join_65 (by decide) ?_
          refine z_iload_n C dX8_join_67 rfl 3 rfl ?_
          refine z_imul C dX8_join_68 ?_
          refine z_ti (y := nI (8 * b)) (pk_mul 8 b) ?_
          refine z_iload_n C dX8_join_69 rfl 2 rfl ?_
          refine z_iadd C dX8_join_70 ?_
          refine z_ti (y := nI (8 * b + a)) (nI_add (8 * b) a) ?_
          refine z_iload_n C dX8_join_71 rfl 4 rfl ?_
          refine z_iast C 84 (by decide) sh84 (8 * b + a) (by omega) (by decide) rfl dX8_join_72 ?_
          refine z_I (I' := zup I 84 (upd (upd (I 84) (8 * a + b) s) (8 * b + a) s)) (by rw [zup_s, zup_up]) ?_
          refine z_iload C dX8_join_73 0 rfl ?_
          refine z_iret C hr rfl dX8_join_75 ?_
          refine ⟨_, rfl, ?_⟩
          exact ⟨by rw [cif_t ⟨⟨a, ha, rfl⟩, ⟨b, hb, rfl⟩⟩, cif_t ⟨(fun q => c20 ((nI_eq (by omega) (by omega)).mp q)), c30⟩, zn_n (by omega), zn_n (by omega)], by rw [cif_t ⟨⟨a, ha, rfl⟩, ⟨b, hb, rfl⟩, (fun q => c20 ((nI_eq (by omega) (by omega)).mp q)), c30⟩, zn_n (by omega), zn_n (by omega)], rfl⟩
        · skip
          refine z_bipush C (v := -2) dX8_join_33 (by decide) ?_
          refine z_iret C hr rfl dX8_join_35 ?_
          refine ⟨_, rfl, ?_⟩
          exact ⟨by rw [cif_t ⟨⟨a, ha, rfl⟩, ⟨b, hb, rfl⟩⟩, cif_f (fun q => c30 q.2)], by rw [cif_f (fun q => c30 q.2.2.2)], rfl⟩
    · skip
      refine z_iconst C (v := -1) dX8_join_16 (by decide) ?_
      refine z_iret C hr rfl dX8_join_17 ?_
      refine ⟨_, rfl, ?_⟩
      exact ⟨by rw [cif_f (fun q => c13 q.2)], by rw [cif_f (fun q => c13 q.2.1)], rfl⟩
abbrev rm_X8_news : Room := { frames := 6, cells := 0, slots := 0, locals := 244 }
set_option maxRecDepth 100000 in
set_option maxHeartbeats 4000000 in
theorem k_X8_news (w : zW) (I : zI) (J : zJ) (n : Nat) (x : Int32) (y : Int32) (hN : I 82 0 = nI n) (hn : n ≤ 8) : zMet yX8_news cX8_news 4 (some .int) rm_X8_news w [.ref (zad w 82), .int x, .int y] I J (zpi (fun v I' J' => v = cif (zin x n) (cif (y = -1 ∨ zin y 100) (if I 85 (zn x) < 0 then -5 else I 85 (zn x)) (-2)) (-1) ∧ I' = cif (zin x n ∧ (y = -1 ∨ zin y 100)) (zup I 85 (upd (I 85) (zn x) y)) I ∧ J' = J)) := by
  refine zMet_of (by decide) (Nat.le_of_ble_eq_true rfl) (fun X C hm hr => ?_)
  refine z_sub (lv' := [(0, .ref (zad w 82)), (1, .int x), (2, .int y)]) [0, 1, 2] rfl ?_
  refine z_aload_n C dX8_news_0 rfl 0 rfl ?_
  refine z_iload_n C dX8_news_1 rfl 1 rfl ?_
  refine z_callVi C hm cl_X8_193 cv_X8_isName 82 (by decide) sh82 ⟨_, _, rfl⟩ [.int x] rfl (rest := []) rfl (k_X8_isName w _ _ n x hN hn) ⟨rfl, rfl, Nat.le_of_ble_eq_true rfl, Nat.le_of_ble_eq_true rfl⟩ (Nat.le_of_ble_eq_true rfl) dX8_news_2 (fun v_1 I_1 J_1 h_1 => ?_)
  obtain ⟨ev_1, ei_1, ej_1⟩ := h_1
  replace ev_1 := ev_1.symm; subst ev_1
  replace ei_1 := ei_1.symm; subst ei_1
  replace ej_1 := ej_1.symm; subst ej_1
  refine z_ifne_b (tgt := 10) C dX8_news_5 (by decide) (fun c5 => ?_) (fun c5 => ?_)
  · skip
    obtain ⟨a, ha, rfl⟩ := c5
    refine z_aload_n C dX8_news_10 rfl 0 rfl ?_
    refine z_iload_n C dX8_news_11 rfl 2 rfl ?_
    refine z_iconst C (v := -1) dX8_news_12 (by decide) ?_
    refine z_bipush C (v := 99) dX8_news_13 (by decide) ?_
    refine z_callVi C hm cl_X8_189 cv_X8_in 82 (by decide) sh82 ⟨_, _, rfl⟩ [.int y, .int (-1), .int 99] rfl (rest := []) rfl (k_X8_in w _ _ y (-1) (99)) ⟨rfl, rfl, Nat.le_of_ble_eq_true rfl, Nat.le_of_ble_eq_true rfl⟩ (Nat.le_of_ble_eq_true rfl) dX8_news_15 (fun v_2 I_2 J_2 h_2 => ?_)
    obtain ⟨ev_2, ei_2, ej_2⟩ := h_2
    replace ei_2 := ei_2.symm; subst ei_2
    replace ej_2 := ej_2.symm; subst ej_2
    replace ev_2 := ev_2.trans (bI_c (in_m (m := 99) (by decide))); subst ev_2
    refine z_ifne_b (tgt := 24) C dX8_news_18 (by decide) (fun c18 => ?_) (fun c18 => ?_)
    · skip
      refine z_aload_n C dX8_news_24 rfl 0 rfl ?_
      refine z_getr C ff_X8_20 82 (by decide) sh82 rfl dX8_news_25 ?_
      refine z_iload_n C dX8_news_28 rfl 1 rfl ?_
      refine z_iald C 85 (by decide) sh85 a (by omega) (by decide) rfl (v := I 85 a) rfl dX8_news_29 ?_
      refine z_istore_n C hm (lv' := [(3, .int (I 85 a)), (0, .ref (zad w 82)), (1, .int (nI a)), (2, .int y)]) dX8_news_30 rfl (by decide) rfl ?_
      refine z_aload_n C dX8_news_31 rfl 1 rfl ?_
      refine z_getr C ff_X8_20 82 (by decide) sh82 rfl dX8_news_32 ?_
      refine z_iload_n C dX8_news_35 rfl 2 rfl ?_
      refine z_iload_n C dX8_news_36 rfl 3 rfl ?_
      refine z_iast C 85 (by decide) sh85 a (by omega) (by decide) rfl dX8_news_37 ?_
      refine z_I (I' := zup I 85 (upd (I 85) a y)) rfl ?_
      refine z_iload_n C dX8_news_38 rfl 0 rfl ?_
      refine z_if_ge (tgt := 47) C dX8_news_39 (by decide) (fun c39 => ?_) (fun c39 => ?_)
      · skip
        refine z_iload_n C dX8_news_47 rfl 0 rfl ?_
        refine z_iret C hr rfl dX8_news_48 ?_
        refine ⟨_, rfl, ?_⟩
        exact ⟨by rw [cif_t ⟨a, ha, rfl⟩, cif_t c18, zn_n (by omega), if_neg (Int32.not_lt.mpr c39)], by rw [cif_t ⟨⟨a, ha, rfl⟩, c18⟩, zn_n (by omega)], rfl⟩
      · skip
        refine z_bipush C (v := -5) dX8_news_42 (by decide) ?_
        refine z_goto (tgt := 48) C dX8_news_44 (by decide) ?_
        refine z_iret C hr rfl dX8_news_48 ?_
        refine ⟨_, rfl, ?_⟩
        exact ⟨by rw [cif_t ⟨a, ha, rfl⟩, cif_t c18, zn_n (by omega), if_pos (Int32.not_le.mp c39)], by rw [cif_t ⟨⟨a, ha, rfl⟩, c18⟩, zn_n (by omega)], rfl⟩
    · skip
      refine z_bipush C (v := -2) dX8_news_21 (by decide) ?_
      refine z_iret C hr rfl dX8_news_23 ?_
      refine ⟨_, rfl, ?_⟩
      exact ⟨by rw [cif_t ⟨a, ha, rfl⟩, cif_f c18], by rw [cif_f (fun q => c18 q.2)], rfl⟩
  · skip
    refine z_iconst C (v := -1) dX8_news_8 (by decide) ?_
    refine z_iret C hr rfl dX8_news_9 ?_
    refine ⟨_, rfl, ?_⟩
    exact ⟨by rw [cif_f c5], by rw [cif_f (fun q => c5 q.1)], rfl⟩
abbrev rm_X8_trade : Room := { frames := 6, cells := 0, slots := 0, locals := 244 }
set_option maxRecDepth 100000 in
set_option maxHeartbeats 4000000 in
theorem k_X8_trade (w : zW) (I : zI) (J : zJ) (n tr : Nat) (k : Int32) (x : Int32) (f : Int32) (y : Int32) (l : Int32) (hN : I 82 0 = nI n) (hn : n ≤ 8) (hT : I 82 27 = nI tr) (htr : tr ≤ 16) : zMet yX8_trade cX8_trade 6 (some .int) rm_X8_trade w [.ref (zad w 82), .int k, .int x, .int f, .int y, .int l] I J (zpi (fun v I' J' => v = cif (zin k 7 ∧ zin x n ∧ zin f 9) (cif (zin y 100 ∧ zi1 l 99) (cif (tr < 16) (nI tr) (-4)) (-2)) (-1) ∧ I' = cif ((zin k 7 ∧ zin x n ∧ zin f 9) ∧ (zin y 100 ∧ zi1 l 99) ∧ tr < 16) (zup (zup (zup (zup (zup (zup I 100 (upd (I 100) tr k)) 101 (upd (I 101) tr x)) 102 (upd (I 102) tr f)) 103 (upd (I 103) tr y)) 104 (upd (I 104) tr l)) 82 (upd (I 82) 27 (nI (tr + 1)))) I ∧ J' = J)) := by
  refine zMet_of (by decide) (Nat.le_of_ble_eq_true rfl) (fun X C hm hr => ?_)
  refine z_sub (lv' := [(0, .ref (zad w 82)), (1, .int k), (2, .int x), (3, .int f), (4, .int y), (5, .int l)]) [0, 1, 2, 3, 4, 5] rfl ?_
  refine z_aload_n C dX8_trade_0 rfl 0 rfl ?_
  refine z_iload_n C dX8_trade_1 rfl 1 rfl ?_
  refine z_iconst C (v := 0) dX8_trade_2 (by decide) ?_
  refine z_bipush C (v := 6) dX8_trade_3 (by decide) ?_
  refine z_callVi C hm cl_X8_189 cv_X8_in 82 (by decide) sh82 ⟨_, _, rfl⟩ [.int k, .int 0, .int 6] rfl (rest := []) rfl (k_X8_in w _ _ k (0) (6)) ⟨rfl, rfl, Nat.le_of_ble_eq_true rfl, Nat.le_of_ble_eq_true rfl⟩ (Nat.le_of_ble_eq_true rfl) dX8_trade_5 (fun v_1 I_1 J_1 h_1 => ?_)
  obtain ⟨ev_1, ei_1, ej_1⟩ := h_1
  replace ei_1 := ei_1.symm; subst ei_1
  replace ej_1 := ej_1.symm; subst ej_1
  replace ev_1 := ev_1.trans (bI_c (in_z (m := 6) (by decide))); subst ev_1
  refine z_ifeq_b (tgt := 30) C dX8_trade_8 (by decide) (fun c8 => ?_) (fun c8 => ?_)
  · skip
    refine z_iconst C (v := -1) dX8_trade_30 (by decide) ?_
    refine z_iret C hr rfl dX8_trade_31 ?_
    refine ⟨_, rfl, ?_⟩
    exact ⟨by rw [cif_f (fun q => c8 q.1)], by rw [cif_f (fun q => c8 q.1.1)], rfl⟩
  · skip
    refine z_aload_n C dX8_trade_11 rfl 0 rfl ?_
    refine z_iload_n C dX8_trade_12 rfl 2 rfl ?_
    refine z_callVi C hm cl_X8_193 cv_X8_isName 82 (by decide) sh82 ⟨_, _, rfl⟩ [.int x] rfl (rest := []) rfl (k_X8_isName w _ _ n x hN hn) ⟨rfl, rfl, Nat.le_of_ble_eq_true rfl, Nat.le_of_ble_eq_true rfl⟩ (Nat.le_of_ble_eq_true rfl) dX8_trade_13 (fun v_2 I_2 J_2 h_2 => ?_)
    obtain ⟨ev_2, ei_2, ej_2⟩ := h_2
    replace ev_2 := ev_2.symm; subst ev_2
    replace ei_2 := ei_2.symm; subst ei_2
    replace ej_2 := ej_2.symm; subst ej_2
    refine z_ifeq_b (tgt := 30) C dX8_trade_16 (by decide) (fun c16 => ?_) (fun c16 => ?_)
    · skip
      refine z_iconst C (v := -1) dX8_trade_30 (by decide) ?_
      refine z_iret C hr rfl dX8_trade_31 ?_
      refine ⟨_, rfl, ?_⟩
      exact ⟨by rw [cif_f (fun q => c16 q.2.1)], by rw [cif_f (fun q => c16 q.1.2.1)], rfl⟩
    · skip
      refine z_aload_n C dX8_trade_19 rfl 0 rfl ?_
      refine z_iload_n C dX8_trade_20 rfl 3 rfl ?_
      refine z_iconst C (v := 0) dX8_trade_21 (by decide) ?_
      refine z_bipush C (v := 8) dX8_trade_22 (by decide) ?_
      refine z_callVi C hm cl_X8_189 cv_X8_in 82 (by decide) sh82 ⟨_, _, rfl⟩ [.int f, .int 0, .int 8] rfl (rest := []) rfl (k_X8_in w _ _ f (0) (8)) ⟨rfl, rfl, Nat.le_of_ble_eq_true rfl, Nat.le_of_ble_eq_true rfl⟩ (Nat.le_of_ble_eq_true rfl) dX8_trade_24 (fun v_3 I_3 J_3 h_3 => ?_)
      obtain ⟨ev_3, ei_3, ej_3⟩ := h_3
      replace ei_3 := ei_3.symm; subst ei_3
      replace ej_3 := ej_3.symm; subst ej_3
      replace ev_3 := ev_3.trans (bI_c (in_z (m := 8) (by decide))); subst ev_3
      refine z_ifne_b (tgt := 32) C dX8_trade_27 (by decide) (fun c27 => ?_) (fun c27 => ?_)
      · skip
        refine z_aload_n C dX8_trade_32 rfl 0 rfl ?_
        refine z_iload C dX8_trade_33 4 rfl ?_
        refine z_callVi C hm cl_X8_290 cv_X8_isHour 82 (by decide) sh82 ⟨_, _, rfl⟩ [.int y] rfl (rest := []) rfl (k_X8_isHour w _ _  y ) ⟨rfl, rfl, Nat.le_of_ble_eq_true rfl, Nat.le_of_ble_eq_true rfl⟩ (Nat.le_of_ble_eq_true rfl) dX8_trade_35 (fun v_4 I_4 J_4 h_4 => ?_)
        obtain ⟨ev_4, ei_4, ej_4⟩ := h_4
        replace ev_4 := ev_4.symm; subst ev_4
        replace ei_4 := ei_4.symm; subst ei_4
        replace ej_4 := ej_4.symm; subst ej_4
        refine z_ifeq_b (tgt := 53) C dX8_trade_38 (by decide) (fun c38 => ?_) (fun c38 => ?_)
        · skip
          refine z_bipush C (v := -2) dX8_trade_53 (by decide) ?_
          refine z_iret C hr rfl dX8_trade_55 ?_
          refine ⟨_, rfl, ?_⟩
          exact ⟨by rw [cif_t ⟨c8, c16, c27⟩, cif_f (fun q => c38 q.1)], by rw [cif_f (fun q => c38 q.2.1.1)], rfl⟩
        · skip
          refine z_aload_n C dX8_trade_41 rfl 0 rfl ?_
          refine z_iload C dX8_trade_42 5 rfl ?_
          refine z_iconst C (v := 1) dX8_trade_44 (by decide) ?_
          refine z_bipush C (v := 99) dX8_trade_45 (by decide) ?_
          refine z_callVi C hm cl_X8_189 cv_X8_in 82 (by decide) sh82 ⟨_, _, rfl⟩ [.int l, .int 1, .int 99] rfl (rest := []) rfl (k_X8_in w _ _ l (1) (99)) ⟨rfl, rfl, Nat.le_of_ble_eq_true rfl, Nat.le_of_ble_eq_true rfl⟩ (Nat.le_of_ble_eq_true rfl) dX8_trade_47 (fun v_5 I_5 J_5 h_5 => ?_)
          obtain ⟨ev_5, ei_5, ej_5⟩ := h_5
          replace ei_5 := ei_5.symm; subst ei_5
          replace ej_5 := ej_5.symm; subst ej_5
          replace ev_5 := ev_5.trans (bI_c (in_1 (m := 99) (by decide))); subst ev_5
          refine z_ifne_b (tgt := 56) C dX8_trade_50 (by decide) (fun c50 => ?_) (fun c50 => ?_)
          · skip
            refine z_aload_n C dX8_trade_56 rfl 0 rfl ?_
            refine z_geti C ff_X8_93 82 (by decide) sh82 rfl (v := nI tr) hT dX8_trade_57 ?_
            refine z_bipush C (v := 16) dX8_trade_60 (by decide) ?_
            refine z_icmp_ne_n tr 16 (tgt := 68) C rfl rfl (by omega) (by omega) dX8_trade_62 (by decide) (fun c62 => ?_) (fun c62 => ?_)
            · skip
              refine z_aload_n C dX8_trade_68 rfl 0 rfl ?_
              refine z_getr C ff_X8_96 82 (by decide) sh82 rfl dX8_trade_69 ?_
              refine z_aload_n C dX8_trade_72 rfl 0 rfl ?_
              refine z_geti C ff_X8_93 82 (by decide) sh82 rfl (v := nI tr) hT dX8_trade_73 ?_
              refine z_iload_n C dX8_trade_76 rfl 1 rfl ?_
              refine z_iast C 100 (by decide) sh100 tr (by omega) (by decide) rfl dX8_trade_77 ?_
              refine z_I (I' := zup I 100 (upd (I 100) tr k)) rfl ?_
              refine z_aload_n C dX8_trade_78 rfl 0 rfl ?_
              refine z_getr C ff_X8_99 82 (by decide) sh82 rfl dX8_trade_79 ?_
              refine z_aload_n C dX8_trade_82 rfl 0 rfl ?_
              refine z_geti C ff_X8_93 82 (by decide) sh82 rfl (v := nI tr) (by first | exact hT | (simp [zup, zupJ, upd, vp_updL]; exact hT)) dX8_trade_83 ?_
              refine z_iload_n C dX8_trade_86 rfl 2 rfl ?_
              refine z_iast C 101 (by decide) sh101 tr (by omega) (by decide) rfl dX8_trade_87 ?_
              refine z_I (I' := zup (zup I 100 (upd (I 100) tr k)) 101 (upd (I 101) tr x)) (by first | rfl | (rw [zup_n] <;> omega)) ?_
              refine z_aload_n C dX8_trade_88 rfl 0 rfl ?_
              refine z_getr C ff_X8_102 82 (by decide) sh82 rfl dX8_trade_89 ?_
              refine z_aload_n C dX8_trade_92 rfl 0 rfl ?_
              refine z_geti C ff_X8_93 82 (by decide) sh82 rfl (v := nI tr) (by first | exact hT | (simp [zup, zupJ, upd, vp_updL]; exact hT)) dX8_trade_93 ?_
              refine z_iload_n C dX8_trade_96 rfl 3 rfl ?_
              refine z_iast C 102 (by decide) sh102 tr (by omega) (by decide) rfl dX8_trade_97 ?_
              refine z_I (I' := zup (zup (zup I 100 (upd (I 100) tr k)) 101 (upd (I 101) tr x)) 102 (upd (I 102) tr f)) (by first | rfl | (rw [zup_n] <;> omega) | (rw [zup_n, zup_n] <;> omega)) ?_
              refine z_aload_n C dX8_trade_98 rfl 0 rfl ?_
              refine z_getr C ff_X8_105 82 (by decide) sh82 rfl dX8_trade_99 ?_
              refine z_aload_n C dX8_trade_102 rfl 0 rfl ?_
              refine z_geti C ff_X8_93 82 (by decide) sh82 rfl (v := nI tr) (by first | exact hT | (simp [zup, zupJ, upd, vp_updL]; exact hT)) dX8_trade_103 ?_
              refine z_iload C dX8_trade_106 4 rfl ?_
              refine z_iast C 103 (by decide) sh103 tr (by omega) (by decide) rfl dX8_trade_108 ?_
              refine z_I (I' := zup (zup (zup (zup I 100 (upd (I 100) tr k)) 101 (upd (I 101) tr x)) 102 (upd (I 102) tr f)) 103 (upd (I 103) tr y)) (by first | rfl | (rw [zup_n] <;> omega) | (rw [zup_n, zup_n] <;> omega) | (rw [zup_n, zup_n, zup_n] <;> omega)) ?_
              refine z_aload_n C dX8_trade_109 rfl 0 rfl ?_
              refine z_getr C ff_X8_108 82 (by decide) sh82 rfl dX8_trade_110 ?_
              refine z_aload_n C dX8_trade_113 rfl 0 rfl ?_
              refine z_geti C ff_X8_93 82 (by decide) sh82 rfl (v := nI tr) (by first | exact hT | (simp [zup, zupJ, upd, vp_updL]; exact hT)) dX8_trade_114 ?_
              refine z_iload C dX8_trade_117 5 rfl ?_
              refine z_iast C 104 (by decide) sh104 tr (by omega) (by decide) rfl dX8_trade_119 ?_
              refine z_I (I' := zup (zup (zup (zup (zup I 100 (upd (I 100) tr k)) 101 (upd (I 101) tr x)) 102 (upd (I 102) tr f)) 103 (upd (I 103) tr y)) 104 (upd (I 104) tr l)) (by first | rfl | (rw [zup_n] <;> omega) | (rw [zup_n, zup_n] <;> omega) | (rw [zup_n, zup_n, zup_n] <;> omega) | (rw [zup_n, zup_n, zup_n, zup_n] <;> omega)) ?_
              refine z_aload_n C dX8_trade_120 rfl 0 rfl ?_
              refine z_dup C dX8_trade_121 rfl ?_
              refine z_geti C ff_X8_93 82 (by decide) sh82 rfl (v := nI tr) (by first | exact hT | (simp [zup, zupJ, upd, vp_updL]; exact hT)) dX8_trade_122 ?_
              refine z_iconst C (v := 1) dX8_trade_125 (by decide) ?_
              refine z_iadd C dX8_trade_126 ?_
              refine z_ti (y := nI (tr + 1)) (nI_add tr 1) ?_
              refine z_puti C ff_X8_93 82 (by decide) sh82 rfl rfl rfl dX8_trade_127 ?_
              refine z_I (I' := zup (zup (zup (zup (zup (zup I 100 (upd (I 100) tr k)) 101 (upd (I 101) tr x)) 102 (upd (I 102) tr f)) 103 (upd (I 103) tr y)) 104 (upd (I 104) tr l)) 82 (upd (I 82) 27 (nI (tr + 1)))) (by first | rfl | (rw [zup_n] <;> omega) | (rw [zup_n, zup_n] <;> omega) | (rw [zup_n, zup_n, zup_n] <;> omega) | (rw [zup_n, zup_n, zup_n, zup_n] <;> omega) | (rw [zup_n, zup_n, zup_n, zup_n, zup_n] <;> omega)) ?_
              refine z_aload_n C dX8_trade_130 rfl 0 rfl ?_
              refine z_geti C ff_X8_93 82 (by decide) sh82 rfl (v := nI (tr + 1)) (by first | rfl | (simp [zup, zupJ, upd, vp_updL]; done)) dX8_trade_131 ?_
              refine z_iconst C (v := 1) dX8_trade_134 (by decide) ?_
              refine z_isub C dX8_trade_135 ?_
              refine z_ti (y := nI tr) (nI_pred tr) ?_
              refine z_iret C hr rfl dX8_trade_136 ?_
              refine ⟨_, rfl, ?_⟩
              exact ⟨by rw [cif_t ⟨c8, c16, c27⟩, cif_t ⟨c38, c50⟩, cif_t (by omega)], by rw [cif_t ⟨⟨c8, c16, c27⟩, ⟨c38, c50⟩, by omega⟩], rfl⟩
            · skip
              refine z_bipush C (v := -4) dX8_trade_65 (by decide) ?_
              refine z_iret C hr rfl dX8_trade_67 ?_
              refine ⟨_, rfl, ?_⟩
              exact ⟨by rw [cif_t ⟨c8, c16, c27⟩, cif_t ⟨c38, c50⟩, cif_f (by omega)], by rw [cif_f (fun q => by omega)], rfl⟩
          · skip
            refine z_bipush C (v := -2) dX8_trade_53 (by decide) ?_
            refine z_iret C hr rfl dX8_trade_55 ?_
            refine ⟨_, rfl, ?_⟩
            exact ⟨by rw [cif_t ⟨c8, c16, c27⟩, cif_f (fun q => c50 q.2)], by rw [cif_f (fun q => c50 q.2.1.2)], rfl⟩
      · skip
        refine z_iconst C (v := -1) dX8_trade_30 (by decide) ?_
        refine z_iret C hr rfl dX8_trade_31 ?_
        refine ⟨_, rfl, ?_⟩
        exact ⟨by rw [cif_f (fun q => c27 q.2.2)], by rw [cif_f (fun q => c27 q.1.2.2)], rfl⟩
abbrev rm_X8_hasOther : Room := { frames := 4, cells := 0, slots := 0, locals := 200 }
set_option maxRecDepth 100000 in
set_option maxHeartbeats 4000000 in
theorem k_X8_hasOther (w : zW) (I : zI) (J : zJ) (tr : Nat) (t : Nat) (htr : tr ≤ 16) (hT : I 82 27 = nI tr) (ht : t < tr) : zMet yX8_hasOther cX8_hasOther 3 (some .boolean) rm_X8_hasOther w [.ref (zad w 82), .int (nI t)] I J (zpi (fun v I' J' => v = bI (∃ o, o < tr ∧ o ≠ t ∧ I 101 o = I 101 t ∧ I 102 o = I 102 t) ∧ I' = I ∧ J' = J)) := by
  refine zMet_of (by decide) (Nat.le_of_ble_eq_true rfl) (fun X C hm hr => ?_)
  refine z_sub (lv' := [(0, .ref (zad w 82)), (1, .int (nI t))]) [0, 1] rfl ?_
  refine z_iconst C (v := 0) dX8_hasOther_0 (by decide) ?_
  refine z_istore_n C hm (lv' := [(2, .int 0), (0, .ref (zad w 82)), (1, .int (nI t))]) dX8_hasOther_1 rfl (by decide) rfl ?_
  have L2 : ∀ (d : Nat) (k : Nat) (v2_2 : Int32), (tr - k) < d → (k ≤ tr) → (∀ o, o < k → ¬ (o ≠ t ∧ I 101 o = I 101 t ∧ I 102 o = I 102 t)) → v2_2 = nI k → Z X w I J 2 [(0, .ref (zad w 82)), (1, .int (nI t)), (2, .int v2_2)] [] := by
    intro d
    induction d with
    | zero => intro k v2_2 hd; exact absurd hd (Nat.not_lt_zero _)
    | succ d ih2 => 
      intro k v2_2 hd2 hk hno e_v2_2
      replace e_v2_2 := e_v2_2.symm; subst e_v2_2
      refine z_iload_n C dX8_hasOther_2 rfl 2 rfl ?_
      refine z_aload_n C dX8_hasOther_3 rfl 0 rfl ?_
      refine z_geti C ff_X8_93 82 (by decide) sh82 rfl (v := nI tr) hT dX8_hasOther_4 ?_
      refine z_icmp_ge_n k tr (tgt := 53) C rfl rfl (by omega) (by omega) dX8_hasOther_7 (by decide) (fun c7 => ?_) (fun c7 => ?_)
      · skip
        refine z_iconst C (v := 0) dX8_hasOther_53 (by decide) ?_
        refine z_iret C hr (by decide) dX8_hasOther_54 ?_
        refine ⟨_, rfl, ?_⟩
        exact ⟨(bI_f (fun ⟨o, h1, h2⟩ => hno o (by omega) h2)).symm, rfl, rfl⟩
      · skip
        refine z_iload_n C dX8_hasOther_10 rfl 2 rfl ?_
        refine z_iload_n C dX8_hasOther_11 rfl 1 rfl ?_
        refine z_icmp_eq_n k t (tgt := 47) C rfl rfl (by omega) (by omega) dX8_hasOther_12 (by decide) (fun c12 => ?_) (fun c12 => ?_)
        · skip
          refine z_iinc C hm 2 (v := nI (k + 1)) (lv' := [(2, .int (nI (k + 1))), (0, .ref (zad w 82)), (1, .int (nI t))]) dX8_hasOther_47 rfl (nI_add k 1) (by decide) rfl ?_
          refine z_goto (tgt := 2) C dX8_hasOther_50 (by decide) ?_
          exact z_sub [1, 2, 0] rfl (ih2  (k + 1) _ (by omega) (by omega) (lt_s hno (fun q => q.1 c12)) rfl)
        · skip
          refine z_aload_n C dX8_hasOther_15 rfl 0 rfl ?_
          refine z_getr C ff_X8_99 82 (by decide) sh82 rfl dX8_hasOther_16 ?_
          refine z_iload_n C dX8_hasOther_19 rfl 2 rfl ?_
          refine z_iald C 101 (by decide) sh101 k (by omega) (by decide) rfl (v := I 101 k) rfl dX8_hasOther_20 ?_
          refine z_aload_n C dX8_hasOther_21 rfl 0 rfl ?_
          refine z_getr C ff_X8_99 82 (by decide) sh82 rfl dX8_hasOther_22 ?_
          refine z_iload_n C dX8_hasOther_25 rfl 1 rfl ?_
          refine z_iald C 101 (by decide) sh101 t (by omega) (by decide) rfl (v := I 101 t) rfl dX8_hasOther_26 ?_
          refine z_icmp_ne (tgt := 47) C dX8_hasOther_27 (by decide) (fun c27 => ?_) (fun c27 => ?_)
          · skip
            refine z_iinc C hm 2 (v := nI (k + 1)) (lv' := [(2, .int (nI (k + 1))), (0, .ref (zad w 82)), (1, .int (nI t))]) dX8_hasOther_47 rfl (nI_add k 1) (by decide) rfl ?_
            refine z_goto (tgt := 2) C dX8_hasOther_50 (by decide) ?_
            exact z_sub [1, 2, 0] rfl (ih2  (k + 1) _ (by omega) (by omega) (lt_s hno (fun q => c27 q.2.1)) rfl)
          · skip
            refine z_aload_n C dX8_hasOther_30 rfl 0 rfl ?_
            refine z_getr C ff_X8_102 82 (by decide) sh82 rfl dX8_hasOther_31 ?_
            refine z_iload_n C dX8_hasOther_34 rfl 2 rfl ?_
            refine z_iald C 102 (by decide) sh102 k (by omega) (by decide) rfl (v := I 102 k) rfl dX8_hasOther_35 ?_
            refine z_aload_n C dX8_hasOther_36 rfl 0 rfl ?_
            refine z_getr C ff_X8_102 82 (by decide) sh82 rfl dX8_hasOther_37 ?_
            refine z_iload_n C dX8_hasOther_40 rfl 1 rfl ?_
            refine z_iald C 102 (by decide) sh102 t (by omega) (by decide) rfl (v := I 102 t) rfl dX8_hasOther_41 ?_
            refine z_icmp_ne (tgt := 47) C dX8_hasOther_42 (by decide) (fun c42 => ?_) (fun c42 => ?_)
            · skip
              refine z_iinc C hm 2 (v := nI (k + 1)) (lv' := [(2, .int (nI (k + 1))), (0, .ref (zad w 82)), (1, .int (nI t))]) dX8_hasOther_47 rfl (nI_add k 1) (by decide) rfl ?_
              refine z_goto (tgt := 2) C dX8_hasOther_50 (by decide) ?_
              exact z_sub [1, 2, 0] rfl (ih2  (k + 1) _ (by omega) (by omega) (lt_s hno (fun q => c42 q.2.2)) rfl)
            · skip
              refine z_iconst C (v := 1) dX8_hasOther_45 (by decide) ?_
              refine z_iret C hr (by decide) dX8_hasOther_46 ?_
              refine ⟨_, rfl, ?_⟩
              exact ⟨(bI_t ⟨k, c7, c12, c27, c42⟩).symm, rfl, rfl⟩
  exact z_sub [1, 2, 0] rfl (L2 _ 0 _ (Nat.lt_succ_self _) (by omega) (fun _ h => absurd h (Nat.not_lt_zero _)) rfl)
theorem or_0 (x : Int32) : x ||| 0 = x := b_ext fun i hi => by rw [b_or, b_0, Bool.or_false]
abbrev rm_X8_fridaysOf : Room := { frames := 4, cells := 0, slots := 0, locals := 200 }
set_option maxRecDepth 100000 in
set_option maxHeartbeats 4000000 in
theorem k_X8_fridaysOf (w : zW) (I : zI) (J : zJ) (tr : Nat) (x : Int32) (htr : tr ≤ 16) (hT : I 82 27 = nI tr) : zMet yX8_fridaysOf cX8_fridaysOf 4 (some .int) rm_X8_fridaysOf w [.ref (zad w 82), .int x] I J (zpi (fun v I' J' => v = aDays (I 101) (I 102) x tr ∧ I' = I ∧ J' = J)) := by
  refine zMet_of (by decide) (Nat.le_of_ble_eq_true rfl) (fun X C hm hr => ?_)
  refine z_sub (lv' := [(0, .ref (zad w 82)), (1, .int x)]) [0, 1] rfl ?_
  refine z_iconst C (v := 0) dX8_fridaysOf_0 (by decide) ?_
  refine z_istore_n C hm (lv' := [(2, .int 0), (0, .ref (zad w 82)), (1, .int x)]) dX8_fridaysOf_1 rfl (by decide) rfl ?_
  refine z_iconst C (v := 0) dX8_fridaysOf_2 (by decide) ?_
  refine z_istore_n C hm (lv' := [(3, .int 0), (2, .int 0), (0, .ref (zad w 82)), (1, .int x)]) dX8_fridaysOf_3 rfl (by decide) rfl ?_
  have L4 : ∀ (d : Nat) (k : Nat) (v4_2 : Int32) (v4_3 : Int32), (tr - k) < d → (k ≤ tr) → v4_2 = aDays (I 101) (I 102) x k → v4_3 = nI k → Z X w I J 4 [(0, .ref (zad w 82)), (1, .int x), (2, .int v4_2), (3, .int v4_3)] [] := by
    intro d
    induction d with
    | zero => intro k v4_2 v4_3 hd; exact absurd hd (Nat.not_lt_zero _)
    | succ d ih4 => 
      intro k v4_2 v4_3 hd4 hk e_v4_2 e_v4_3
      replace e_v4_2 := e_v4_2.symm; subst e_v4_2
      replace e_v4_3 := e_v4_3.symm; subst e_v4_3
      refine z_iload_n C dX8_fridaysOf_4 rfl 3 rfl ?_
      refine z_aload_n C dX8_fridaysOf_5 rfl 0 rfl ?_
      refine z_geti C ff_X8_93 82 (by decide) sh82 rfl (v := nI tr) hT dX8_fridaysOf_6 ?_
      refine z_icmp_ge_n k tr (tgt := 43) C rfl rfl (by omega) (by omega) dX8_fridaysOf_9 (by decide) (fun c9 => ?_) (fun c9 => ?_)
      · skip
        have hkk : k = tr := by omega
        refine z_iload_n C dX8_fridaysOf_43 rfl 2 rfl ?_
        refine z_iret C hr rfl dX8_fridaysOf_44 ?_
        refine ⟨_, rfl, ?_⟩
        exact ⟨by rw [hkk], rfl, rfl⟩
      · skip
        refine z_iload_n C dX8_fridaysOf_12 rfl 2 rfl ?_
        refine z_aload_n C dX8_fridaysOf_13 rfl 0 rfl ?_
        refine z_getr C ff_X8_99 82 (by decide) sh82 rfl dX8_fridaysOf_14 ?_
        refine z_iload_n C dX8_fridaysOf_17 rfl 3 rfl ?_
        refine z_iald C 101 (by decide) sh101 k (by omega) (by decide) rfl (v := I 101 k) rfl dX8_fridaysOf_18 ?_
        refine z_iload_n C dX8_fridaysOf_19 rfl 1 rfl ?_
        refine z_icmp_ne (tgt := 34) C dX8_fridaysOf_20 (by decide) (fun c20 => ?_) (fun c20 => ?_)
        · skip
          refine z_iconst C (v := 0) dX8_fridaysOf_34 (by decide) ?_
          refine z_ior C dX8_fridaysOf_35 ?_
          refine z_istore_n C hm (lv' := [(2, .int ((aDays (I 101) (I 102) x k) ||| 0)), (0, .ref (zad w 82)), (1, .int x), (3, .int (nI k))]) dX8_fridaysOf_36 rfl (by decide) rfl ?_
          refine z_iinc C hm 3 (v := nI (k + 1)) (lv' := [(3, .int (nI (k + 1))), (2, .int ((aDays (I 101) (I 102) x k) ||| 0)), (0, .ref (zad w 82)), (1, .int x)]) dX8_fridaysOf_37 rfl (nI_add k 1) (by decide) rfl ?_
          refine z_goto (tgt := 4) C dX8_fridaysOf_40 (by decide) ?_
          exact z_sub [2, 3, 1, 0] rfl (ih4  (k + 1) _ _ (by omega) (by omega) (by rw [aDays, if_neg c20]; exact or_0 _) rfl)
        · skip
          refine z_iconst C (v := 1) dX8_fridaysOf_23 (by decide) ?_
          refine z_aload_n C dX8_fridaysOf_24 rfl 0 rfl ?_
          refine z_getr C ff_X8_102 82 (by decide) sh82 rfl dX8_fridaysOf_25 ?_
          refine z_iload_n C dX8_fridaysOf_28 rfl 3 rfl ?_
          refine z_iald C 102 (by decide) sh102 k (by omega) (by decide) rfl (v := I 102 k) rfl dX8_fridaysOf_29 ?_
          refine z_ishl C dX8_fridaysOf_30 ?_
          refine z_goto (tgt := 35) C dX8_fridaysOf_31 (by decide) ?_
          refine z_ior C dX8_fridaysOf_35 ?_
          refine z_istore_n C hm (lv' := [(2, .int ((aDays (I 101) (I 102) x k) ||| (1 <<< ((I 102 k) &&& 31)))), (0, .ref (zad w 82)), (1, .int x), (3, .int (nI k))]) dX8_fridaysOf_36 rfl (by decide) rfl ?_
          refine z_iinc C hm 3 (v := nI (k + 1)) (lv' := [(3, .int (nI (k + 1))), (2, .int ((aDays (I 101) (I 102) x k) ||| (1 <<< ((I 102 k) &&& 31)))), (0, .ref (zad w 82)), (1, .int x)]) dX8_fridaysOf_37 rfl (nI_add k 1) (by decide) rfl ?_
          refine z_goto (tgt := 4) C dX8_fridaysOf_40 (by decide) ?_
          exact z_sub [2, 3, 1, 0] rfl (ih4  (k + 1) _ _ (by omega) (by omega) (by rw [aDays, if_pos c20]) rfl)
  exact z_sub [2, 3, 1, 0] rfl (L4 _ 0 _ _ (Nat.lt_succ_self _) (by omega) rfl rfl)
abbrev rm_X8_fridays : Room := { frames := 6, cells := 0, slots := 0, locals := 244 }
set_option maxRecDepth 100000 in
set_option maxHeartbeats 4000000 in
theorem k_X8_fridays (w : zW) (I : zI) (J : zJ) (n tr : Nat) (x : Int32) (hN : I 82 0 = nI n) (hn : n ≤ 8) (hT : I 82 27 = nI tr) (htr : tr ≤ 16) : zMet yX8_fridays cX8_fridays 2 (some .int) rm_X8_fridays w [.ref (zad w 82), .int x] I J (zpi (fun v I' J' => v = cif (zin x n) (aDays (I 101) (I 102) x tr) (-1) ∧ I' = I ∧ J' = J)) := by
  refine zMet_of (by decide) (Nat.le_of_ble_eq_true rfl) (fun X C hm hr => ?_)
  refine z_sub (lv' := [(0, .ref (zad w 82)), (1, .int x)]) [0, 1] rfl ?_
  refine z_aload_n C dX8_fridays_0 rfl 0 rfl ?_
  refine z_iload_n C dX8_fridays_1 rfl 1 rfl ?_
  refine z_callVi C hm cl_X8_193 cv_X8_isName 82 (by decide) sh82 ⟨_, _, rfl⟩ [.int x] rfl (rest := []) rfl (k_X8_isName w _ _ n x hN hn) ⟨rfl, rfl, Nat.le_of_ble_eq_true rfl, Nat.le_of_ble_eq_true rfl⟩ (Nat.le_of_ble_eq_true rfl) dX8_fridays_2 (fun v_1 I_1 J_1 h_1 => ?_)
  obtain ⟨ev_1, ei_1, ej_1⟩ := h_1
  replace ev_1 := ev_1.symm; subst ev_1
  replace ei_1 := ei_1.symm; subst ei_1
  replace ej_1 := ej_1.symm; subst ej_1
  refine z_ifeq_b (tgt := 16) C dX8_fridays_5 (by decide) (fun c5 => ?_) (fun c5 => ?_)
  · skip
    refine z_iconst C (v := -1) dX8_fridays_16 (by decide) ?_
    refine z_iret C hr rfl dX8_fridays_17 ?_
    refine ⟨_, rfl, ?_⟩
    exact ⟨by rw [cif_f c5], rfl, rfl⟩
  · skip
    refine z_aload_n C dX8_fridays_8 rfl 0 rfl ?_
    refine z_iload_n C dX8_fridays_9 rfl 1 rfl ?_
    refine z_callVi C hm cl_X8_308 cv_X8_fridaysOf 82 (by decide) sh82 ⟨_, _, rfl⟩ [.int x] rfl (rest := []) rfl (k_X8_fridaysOf w _ _ tr x htr hT) ⟨rfl, rfl, Nat.le_of_ble_eq_true rfl, Nat.le_of_ble_eq_true rfl⟩ (Nat.le_of_ble_eq_true rfl) dX8_fridays_10 (fun v_2 I_2 J_2 h_2 => ?_)
    obtain ⟨ev_2, ei_2, ej_2⟩ := h_2
    replace ev_2 := ev_2.symm; subst ev_2
    replace ei_2 := ei_2.symm; subst ei_2
    replace ej_2 := ej_2.symm; subst ej_2
    refine z_goto (tgt := 17) C dX8_fridays_13 (by decide) ?_
    refine z_iret C hr rfl dX8_fridays_17 ?_
    refine ⟨_, rfl, ?_⟩
    exact ⟨by rw [cif_t c5], rfl, rfl⟩
