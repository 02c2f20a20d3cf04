/-! the reference: parted, watch, ask -/
theorem zset_r {P Q R : Nat → Bool} {n : Nat} : zset (fun i => (P i && !(decide (i < n) && Q i)) && !(decide (i < n) && R i)) n = zset (fun i => (P i && !(decide (i < n) && R i)) && !(decide (i < n) && Q i)) n := zset_ext fun i hi => by
  cases P i <;> cases Q i <;> cases R i <;> simp
abbrev rm_X8_parted : Room := { frames := 7, cells := 0, slots := 0, locals := 272 }
set_option maxRecDepth 100000 in
set_option maxHeartbeats 4000000 in
theorem k_X8_parted (w : zW) (I : zI) (J : zJ) (n tr h : Nat) (A : List zCla) (jn lt : Nat → Int32) (hd : Nat → Option Nat) (bu ho lo fr : Nat → Nat) (x : Int32) (y : Int32) (hn : n ≤ 8) (htr : tr ≤ 16) (hh : h < 7) (hd99 : ∀ a k, hd a = some k → k ≤ 99) (hS : mS I n tr h A jn lt hd bu ho lo fr) (hDg : ∀ a, a < 8 → jn (a * 8 + a) = 0) : zMet yX8_parted cX8_parted 3 (some .int) rm_X8_parted w [.ref (zad w 82), .int x, .int y] I J (zpi (fun v I' J' => v = cif (zin x 1000 ∧ zin y 100) (zPt (zn x) (aLast 3 A 999) (zKn n (ern 0 n jn A hd) (zn y))) (-2) ∧ J' = J ∧ frM I' I)) := by
  refine zMet_of (by decide) (Nat.le_of_ble_eq_true rfl) (fun X C hm hr => ?_)
  refine z_sub (lv' := [(0, .ref (zad w 82)), (1, .int x), (2, .int y)]) [0, 1, 2] rfl ?_
  obtain ⟨hN, hT, hM, hJn, hLt, hHd, hB, hO, hLo, hF⟩ := id hS
  refine z_aload_n C dX8_parted_0 rfl 0 rfl ?_
  refine z_iload_n C dX8_parted_1 rfl 1 rfl ?_
  refine z_iconst C (v := 0) dX8_parted_2 (by decide) ?_
  refine z_sipush C (v := 999) dX8_parted_3 (by decide) ?_
  refine z_callVi C hm cl_X8_189 cv_X8_in 82 (by decide) sh82 ⟨_, _, rfl⟩ [.int x, .int 0, .int 999] rfl (rest := []) rfl (k_X8_in w _ _ x (0) (999)) ⟨rfl, rfl, Nat.le_of_ble_eq_true rfl, Nat.le_of_ble_eq_true rfl⟩ (Nat.le_of_ble_eq_true rfl) dX8_parted_6 (fun v_1 I_1 J_1 h_1 => ?_)
  obtain ⟨ev_1, ei_1, ej_1⟩ := h_1
  replace ei_1 := ei_1.symm; subst ei_1
  replace ej_1 := ej_1.symm; subst ej_1
  replace ev_1 := ev_1.trans (bI_c (in_z (m := 999) (by decide))); subst ev_1
  refine z_ifeq_b (tgt := 20) C dX8_parted_9 (by decide) (fun c9 => ?_) (fun c9 => ?_)
  · skip
    refine z_bipush C (v := -2) dX8_parted_20 (by decide) ?_
    refine z_iret C hr rfl dX8_parted_22 ?_
    refine ⟨_, rfl, ?_⟩
    exact ⟨by rw [cif_f (fun q => c9 q.1)], rfl, frM_id⟩
  · skip
    obtain ⟨p, hp, rfl⟩ := c9
    refine z_aload_n C dX8_parted_12 rfl 0 rfl ?_
    refine z_iload_n C dX8_parted_13 rfl 2 rfl ?_
    refine z_callVi C hm cl_X8_290 cv_X8_isHour 82 (by decide) sh82 ⟨_, _, rfl⟩ [.int y] rfl (rest := []) rfl (k_X8_isHour w _ _  y ) ⟨rfl, rfl, Nat.le_of_ble_eq_true rfl, Nat.le_of_ble_eq_true rfl⟩ (Nat.le_of_ble_eq_true rfl) dX8_parted_14 (fun v_2 I_2 J_2 h_2 => ?_)
    obtain ⟨ev_2, ei_2, ej_2⟩ := h_2
    replace ev_2 := ev_2.symm; subst ev_2
    replace ei_2 := ei_2.symm; subst ei_2
    replace ej_2 := ej_2.symm; subst ej_2
    refine z_ifne_b (tgt := 23) C dX8_parted_17 (by decide) (fun c17 => ?_) (fun c17 => ?_)
    · skip
      obtain ⟨hr9, hhr9, rfl⟩ := c17
      refine z_aload_n C dX8_parted_23 rfl 0 rfl ?_
      refine z_callVv C hm cl_X8_278 cv_X8_layHours 82 (by decide) sh82 ⟨_, _, rfl⟩ [] rfl (rest := []) rfl (k_X8_layHours w _ _ n h A jn  hN hn hh hM hJn hDg) ⟨rfl, rfl, Nat.le_of_ble_eq_true rfl, Nat.le_of_ble_eq_true rfl⟩ (Nat.le_of_ble_eq_true rfl) dX8_parted_24 (fun I_3 J_3 h_3 => ?_)
      obtain ⟨hz_3, eJ_3⟩ := h_3
      replace eJ_3 := eJ_3.symm; subst eJ_3
      obtain ⟨h82_3, hfr_3, hH_3⟩ := id hz_3
      have hN_3 : I_3 82 0 = nI n := by rw [h82_3, upd_n (by decide)]; exact hN
      have hS_3 : I_3 82 25 = nI (aSteps A) := by rw [h82_3]; exact upd_s
      have hHd_3 : ∀ a, a < n → I_3 85 a = oM (hd a) := fun a ha => by rw [hfr_3 85 (by decide) (by decide) (by decide) (by decide)]; exact hHd a ha
      refine z_aload_n C dX8_parted_27 rfl 0 rfl ?_
      refine z_iconst C (v := 0) dX8_parted_28 (by decide) ?_
      refine z_callVv C hm cl_X8_281 cv_X8_spread 82 (by decide) sh82 ⟨_, _, rfl⟩ [.int 0] rfl (rest := []) rfl (k_X8_spread w _ _ n (aSteps A) A jn hd 0 (by decide) (by exact hN_3) hn (by exact hS_3) (aSteps_le A) (by exact hH_3) (mHeld_ok hM) (by exact hHd_3) hd99) ⟨rfl, rfl, Nat.le_of_ble_eq_true rfl, Nat.le_of_ble_eq_true rfl⟩ (Nat.le_of_ble_eq_true rfl) dX8_parted_29 (fun I_4 J_4 h_4 => ?_)
      obtain ⟨⟨R_4, eI_4, hR_4⟩, eJ_4⟩ := h_4
      replace eI_4 := eI_4.symm; subst eI_4
      replace eJ_4 := eJ_4.symm; subst eJ_4
      refine z_aload_n C dX8_parted_32 rfl 0 rfl ?_
      refine z_iload_n C dX8_parted_33 rfl 1 rfl ?_
      refine z_aload_n C dX8_parted_34 rfl 0 rfl ?_
      refine z_aload_n C dX8_parted_35 rfl 0 rfl ?_
      refine z_iload_n C dX8_parted_36 rfl 2 rfl ?_
      refine z_callVi C hm cl_X8_323 cv_X8_knowers 82 (by decide) sh82 ⟨_, _, rfl⟩ [.int (nI hr9)] rfl (rest := [.ref (zad w 82), .int (nI p), .ref (zad w 82)]) rfl (k_X8_knowers w _ _ 0 n A jn hd hr9 (by exact hN_3) hn (by exact hS_3) hR_4 hd99 (by omega)) ⟨rfl, rfl, Nat.le_of_ble_eq_true rfl, Nat.le_of_ble_eq_true rfl⟩ (Nat.le_of_ble_eq_true rfl) dX8_parted_37 (fun v_5 I_5 J_5 h_5 => ?_)
      obtain ⟨ev_5, ei_5, ej_5⟩ := h_5
      replace ev_5 := ev_5.symm; subst ev_5
      replace ei_5 := ei_5.symm; subst ei_5
      replace ej_5 := ej_5.symm; subst ej_5
      refine z_callVi C hm cl_X8_293 cv_X8_ones 82 (by decide) sh82 ⟨_, _, rfl⟩ [.int (nI (zset (fun a => decide (ern 0 n jn A hd a ≤ hr9)) n))] rfl (rest := [.int (nI p), .ref (zad w 82)]) rfl (k_X8_ones w _ _  (zset (fun a => decide (ern 0 n jn A hd a ≤ hr9)) n) (zset_512 (by omega))) ⟨rfl, rfl, Nat.le_of_ble_eq_true rfl, Nat.le_of_ble_eq_true rfl⟩ (Nat.le_of_ble_eq_true rfl) dX8_parted_40 (fun v_6 I_6 J_6 h_6 => ?_)
      obtain ⟨ev_6, ei_6, ej_6⟩ := h_6
      replace ev_6 := ev_6.symm; subst ev_6
      replace ei_6 := ei_6.symm; subst ei_6
      replace ej_6 := ej_6.symm; subst ej_6
      refine z_ti (y := nI (zKn n (ern 0 n jn A hd) hr9)) rfl ?_
      refine z_aload_n C dX8_parted_43 rfl 0 rfl ?_
      refine z_iconst C (v := 3) dX8_parted_44 (by decide) ?_
      refine z_sipush C (v := 999) dX8_parted_45 (by decide) ?_
      have hkn : zKn n (ern 0 n jn A hd) hr9 ≤ 9 := zpop_le _
      have hl3 : aLast 3 A 999 ≤ 999 := aLast_9 (mHeld_ok hM)
      refine z_callVi C hm cl_X8_271 cv_X8_last 82 (by decide) sh82 ⟨_, _, rfl⟩ [.int 3, .int 999] rfl (rest := [.int (nI (zKn n (ern 0 n jn A hd) hr9)), .int (nI p), .ref (zad w 82)]) rfl (k_X8_last w _ _ h A 3 999 hh (mS_f (frM_z (by decide) (frM_l hz_3)) hS).2.2.1 (by decide) (by decide)) ⟨rfl, rfl, Nat.le_of_ble_eq_true rfl, Nat.le_of_ble_eq_true rfl⟩ (Nat.le_of_ble_eq_true rfl) dX8_parted_48 (fun v_7 I_7 J_7 h_7 => ?_)
      obtain ⟨ev_7, ei_7, ej_7⟩ := h_7
      replace ev_7 := ev_7.symm; subst ev_7
      replace ei_7 := ei_7.symm; subst ei_7
      replace ej_7 := ej_7.symm; subst ej_7
      refine z_callVi C hm cl_X8_326 cv_X8_fewest 82 (by decide) sh82 ⟨_, _, rfl⟩ [.int (nI p), .int (nI (zKn n (ern 0 n jn A hd) hr9)), .int (nI (aLast 3 A 999))] rfl (rest := []) rfl (k_X8_fewest w _ _  p (zKn n (ern 0 n jn A hd) hr9) (aLast 3 A 999) (by omega) hkn hl3) ⟨rfl, rfl, Nat.le_of_ble_eq_true rfl, Nat.le_of_ble_eq_true rfl⟩ (Nat.le_of_ble_eq_true rfl) dX8_parted_51 (fun v_8 I_8 J_8 h_8 => ?_)
      obtain ⟨hv_8, eI_8, eJ_8⟩ := h_8
      replace eI_8 := eI_8.symm; subst eI_8
      replace eJ_8 := eJ_8.symm; subst eJ_8
      refine z_iret C hr rfl dX8_parted_54 ?_
      refine ⟨_, rfl, ?_⟩
      exact ⟨by rw [cif_t ⟨⟨p, hp, rfl⟩, ⟨hr9, hhr9, rfl⟩⟩, zn_n (by omega), zn_n (by omega)]; exact zFw_pt hv_8, rfl, (frM_z (by decide) (frM_l hz_3))⟩
    · skip
      refine z_bipush C (v := -2) dX8_parted_20 (by decide) ?_
      refine z_iret C hr rfl dX8_parted_22 ?_
      refine ⟨_, rfl, ?_⟩
      exact ⟨by rw [cif_f (fun q => c17 q.2)], rfl, frM_id⟩
theorem lt_w1 {P : Nat → Prop} {w : Nat} (h : ∀ u, 1 ≤ u → u < w → P u) (hw : P w) : ∀ u, 1 ≤ u → u < w + 1 → P u := fun u h1 h2 => by
  by_cases q : u = w
  · rw [q]; exact hw
  · exact h u h1 (by omega)
abbrev rm_X8_watch : Room := { frames := 7, cells := 0, slots := 0, locals := 272 }
set_option maxRecDepth 100000 in
set_option maxHeartbeats 4000000 in
theorem k_X8_watch (w : zW) (I : zI) (J : zJ) (n tr h : Nat) (A : List zCla) (jn lt : Nat → Int32) (hd : Nat → Option Nat) (bu ho lo fr : Nat → Nat) (x : Int32) (y : Int32) (z : Int32) (hn : n ≤ 8) (htr : tr ≤ 16) (hh : h < 7) (hd99 : ∀ a k, hd a = some k → k ≤ 99) (hS : mS I n tr h A jn lt hd bu ho lo fr) (hDg : ∀ a, a < 8 → jn (a * 8 + a) = 0) : zMet yX8_watch cX8_watch 7 (some .int) rm_X8_watch w [.ref (zad w 82), .int x, .int y, .int z] I J (zpi (fun v I' J' => v = cif (zin x 1000 ∧ zin y 100 ∧ zin z 9) (zWt (zn x) (zn z) (zKn n (ern 0 n jn A hd) (zn y))) (-2) ∧ J' = J ∧ frM I' I)) := by
  refine zMet_of (by decide) (Nat.le_of_ble_eq_true rfl) (fun X C hm hr => ?_)
  refine z_sub (lv' := [(0, .ref (zad w 82)), (1, .int x), (2, .int y), (3, .int z)]) [0, 1, 2, 3] rfl ?_
  obtain ⟨hN, hT, hM, hJn, hLt, hHd, hB, hO, hLo, hF⟩ := id hS
  refine z_aload_n C dX8_watch_0 rfl 0 rfl ?_
  refine z_iload_n C dX8_watch_1 rfl 1 rfl ?_
  refine z_iconst C (v := 0) dX8_watch_2 (by decide) ?_
  refine z_sipush C (v := 999) dX8_watch_3 (by decide) ?_
  refine z_callVi C hm cl_X8_189 cv_X8_in 82 (by decide) sh82 ⟨_, _, rfl⟩ [.int x, .int 0, .int 999] rfl (rest := []) rfl (k_X8_in w _ _ x (0) (999)) ⟨rfl, rfl, Nat.le_of_ble_eq_true rfl, Nat.le_of_ble_eq_true rfl⟩ (Nat.le_of_ble_eq_true rfl) dX8_watch_6 (fun v_1 I_1 J_1 h_1 => ?_)
  obtain ⟨ev_1, ei_1, ej_1⟩ := h_1
  replace ei_1 := ei_1.symm; subst ei_1
  replace ej_1 := ej_1.symm; subst ej_1
  replace ev_1 := ev_1.trans (bI_c (in_z (m := 999) (by decide))); subst ev_1
  refine z_ifeq_b (tgt := 31) C dX8_watch_9 (by decide) (fun c9 => ?_) (fun c9 => ?_)
  · skip
    refine z_bipush C (v := -2) dX8_watch_31 (by decide) ?_
    refine z_iret C hr rfl dX8_watch_33 ?_
    refine ⟨_, rfl, ?_⟩
    exact ⟨by rw [cif_f (fun q => c9 q.1)], rfl, frM_id⟩
  · skip
    obtain ⟨p, hp, rfl⟩ := c9
    refine z_aload_n C dX8_watch_12 rfl 0 rfl ?_
    refine z_iload_n C dX8_watch_13 rfl 2 rfl ?_
    refine z_callVi C hm cl_X8_290 cv_X8_isHour 82 (by decide) sh82 ⟨_, _, rfl⟩ [.int y] rfl (rest := []) rfl (k_X8_isHour w _ _  y ) ⟨rfl, rfl, Nat.le_of_ble_eq_true rfl, Nat.le_of_ble_eq_true rfl⟩ (Nat.le_of_ble_eq_true rfl) dX8_watch_14 (fun v_2 I_2 J_2 h_2 => ?_)
    obtain ⟨ev_2, ei_2, ej_2⟩ := h_2
    replace ev_2 := ev_2.symm; subst ev_2
    replace ei_2 := ei_2.symm; subst ei_2
    replace ej_2 := ej_2.symm; subst ej_2
    refine z_ifeq_b (tgt := 31) C dX8_watch_17 (by decide) (fun c17 => ?_) (fun c17 => ?_)
    · skip
      refine z_bipush C (v := -2) dX8_watch_31 (by decide) ?_
      refine z_iret C hr rfl dX8_watch_33 ?_
      refine ⟨_, rfl, ?_⟩
      exact ⟨by rw [cif_f (fun q => c17 q.2.1)], rfl, frM_id⟩
    · skip
      obtain ⟨hr9, hhr9, rfl⟩ := c17
      refine z_aload_n C dX8_watch_20 rfl 0 rfl ?_
      refine z_iload_n C dX8_watch_21 rfl 3 rfl ?_
      refine z_iconst C (v := 0) dX8_watch_22 (by decide) ?_
      refine z_bipush C (v := 8) dX8_watch_23 (by decide) ?_
      refine z_callVi C hm cl_X8_189 cv_X8_in 82 (by decide) sh82 ⟨_, _, rfl⟩ [.int z, .int 0, .int 8] rfl (rest := []) rfl (k_X8_in w _ _ z (0) (8)) ⟨rfl, rfl, Nat.le_of_ble_eq_true rfl, Nat.le_of_ble_eq_true rfl⟩ (Nat.le_of_ble_eq_true rfl) dX8_watch_25 (fun v_3 I_3 J_3 h_3 => ?_)
      obtain ⟨ev_3, ei_3, ej_3⟩ := h_3
      replace ei_3 := ei_3.symm; subst ei_3
      replace ej_3 := ej_3.symm; subst ej_3
      replace ev_3 := ev_3.trans (bI_c (in_z (m := 8) (by decide))); subst ev_3
      refine z_ifne_b (tgt := 34) C dX8_watch_28 (by decide) (fun c28 => ?_) (fun c28 => ?_)
      · skip
        obtain ⟨k, hk, rfl⟩ := c28
        refine z_aload_n C dX8_watch_34 rfl 0 rfl ?_
        refine z_callVv C hm cl_X8_278 cv_X8_layHours 82 (by decide) sh82 ⟨_, _, rfl⟩ [] rfl (rest := []) rfl (k_X8_layHours w _ _ n h A jn  hN hn hh hM hJn hDg) ⟨rfl, rfl, Nat.le_of_ble_eq_true rfl, Nat.le_of_ble_eq_true rfl⟩ (Nat.le_of_ble_eq_true rfl) dX8_watch_35 (fun I_4 J_4 h_4 => ?_)
        obtain ⟨hz_4, eJ_4⟩ := h_4
        replace eJ_4 := eJ_4.symm; subst eJ_4
        obtain ⟨h82_4, hfr_4, hH_4⟩ := id hz_4
        have hN_4 : I_4 82 0 = nI n := by rw [h82_4, upd_n (by decide)]; exact hN
        have hS_4 : I_4 82 25 = nI (aSteps A) := by rw [h82_4]; exact upd_s
        have hHd_4 : ∀ a, a < n → I_4 85 a = oM (hd a) := fun a ha => by rw [hfr_4 85 (by decide) (by decide) (by decide) (by decide)]; exact hHd a ha
        refine z_aload_n C dX8_watch_38 rfl 0 rfl ?_
        refine z_iconst C (v := 0) dX8_watch_39 (by decide) ?_
        refine z_callVv C hm cl_X8_281 cv_X8_spread 82 (by decide) sh82 ⟨_, _, rfl⟩ [.int 0] rfl (rest := []) rfl (k_X8_spread w _ _ n (aSteps A) A jn hd 0 (by decide) (by exact hN_4) hn (by exact hS_4) (aSteps_le A) (by exact hH_4) (mHeld_ok hM) (by exact hHd_4) hd99) ⟨rfl, rfl, Nat.le_of_ble_eq_true rfl, Nat.le_of_ble_eq_true rfl⟩ (Nat.le_of_ble_eq_true rfl) dX8_watch_40 (fun I_5 J_5 h_5 => ?_)
        obtain ⟨⟨R_5, eI_5, hR_5⟩, eJ_5⟩ := h_5
        replace eI_5 := eI_5.symm; subst eI_5
        replace eJ_5 := eJ_5.symm; subst eJ_5
        refine z_aload_n C dX8_watch_43 rfl 0 rfl ?_
        refine z_aload_n C dX8_watch_44 rfl 0 rfl ?_
        refine z_iload_n C dX8_watch_45 rfl 2 rfl ?_
        refine z_callVi C hm cl_X8_323 cv_X8_knowers 82 (by decide) sh82 ⟨_, _, rfl⟩ [.int (nI hr9)] rfl (rest := [.ref (zad w 82)]) rfl (k_X8_knowers w _ _ 0 n A jn hd hr9 (by exact hN_4) hn (by exact hS_4) hR_5 hd99 (by omega)) ⟨rfl, rfl, Nat.le_of_ble_eq_true rfl, Nat.le_of_ble_eq_true rfl⟩ (Nat.le_of_ble_eq_true rfl) dX8_watch_46 (fun v_6 I_6 J_6 h_6 => ?_)
        obtain ⟨ev_6, ei_6, ej_6⟩ := h_6
        replace ev_6 := ev_6.symm; subst ev_6
        replace ei_6 := ei_6.symm; subst ei_6
        replace ej_6 := ej_6.symm; subst ej_6
        refine z_callVi C hm cl_X8_293 cv_X8_ones 82 (by decide) sh82 ⟨_, _, rfl⟩ [.int (nI (zset (fun a => decide (ern 0 n jn A hd a ≤ hr9)) n))] rfl (rest := []) rfl (k_X8_ones w _ _  (zset (fun a => decide (ern 0 n jn A hd a ≤ hr9)) n) (zset_512 (by omega))) ⟨rfl, rfl, Nat.le_of_ble_eq_true rfl, Nat.le_of_ble_eq_true rfl⟩ (Nat.le_of_ble_eq_true rfl) dX8_watch_49 (fun v_7 I_7 J_7 h_7 => ?_)
        obtain ⟨ev_7, ei_7, ej_7⟩ := h_7
        replace ev_7 := ev_7.symm; subst ev_7
        replace ei_7 := ei_7.symm; subst ei_7
        replace ej_7 := ej_7.symm; subst ej_7
        refine z_ti (y := nI (zKn n (ern 0 n jn A hd) hr9)) rfl ?_
        have hkn : zKn n (ern 0 n jn A hd) hr9 ≤ 9 := zpop_le _
        refine z_istore C hm (lv' := [(4, .int (nI (zKn n (ern 0 n jn A hd) hr9))), (0, .ref (zad w 82)), (1, .int (nI p)), (2, .int (nI hr9)), (3, .int (nI k))]) dX8_watch_52 (by decide) rfl ?_
        refine z_iconst C (v := 1) dX8_watch_54 (by decide) ?_
        refine z_istore C hm (lv' := [(5, .int 1), (4, .int (nI (zKn n (ern 0 n jn A hd) hr9))), (0, .ref (zad w 82)), (1, .int (nI p)), (2, .int (nI hr9)), (3, .int (nI k))]) dX8_watch_55 (by decide) rfl ?_
        have L57 : ∀ (d : Nat) (w0 : Nat) (v57_5 : Int32), (1000 - w0) < d → (1 ≤ w0) → (w0 ≤ 1000) → (∀ u, 1 ≤ u → u < w0 → ¬ p ≤ min k (zKn n (ern 0 n jn A hd) hr9) * (u - 1)) → v57_5 = nI w0 → Z X w (zup I_4 97 R_5) J 57 [(0, .ref (zad w 82)), (1, .int (nI p)), (2, .int (nI hr9)), (3, .int (nI k)), (4, .int (nI (zKn n (ern 0 n jn A hd) hr9))), (5, .int v57_5)] [] := by
          intro d
          induction d with
          | zero => intro w0 v57_5 hd; exact absurd hd (Nat.not_lt_zero _)
          | succ d ih57 => 
            intro w0 v57_5 hd57 hw1 hw9 hno e_v57_5
            replace e_v57_5 := e_v57_5.symm; subst e_v57_5
            refine z_iload C dX8_watch_57 5 rfl ?_
            refine z_sipush C (v := 1000) dX8_watch_59 (by decide) ?_
            refine z_icmp_ge_n w0 1000 (tgt := 96) C rfl rfl (by omega) (by omega) dX8_watch_62 (by decide) (fun c62 => ?_) (fun c62 => ?_)
            · skip
              refine z_bipush C (v := -5) dX8_watch_96 (by decide) ?_
              refine z_iret C hr rfl dX8_watch_98 ?_
              refine ⟨_, rfl, ?_⟩
              exact ⟨by rw [cif_t ⟨⟨p, hp, rfl⟩, ⟨hr9, hhr9, rfl⟩, ⟨k, hk, rfl⟩⟩, zn_n (by omega), zn_n (by omega), zn_n (by omega)]; exact zWt_n (fun u h1 h2 => hno u h1 (by omega)), rfl, (frM_z (by decide) (frM_l hz_4))⟩
            · skip
              refine z_aload_n C dX8_watch_65 rfl 0 rfl ?_
              refine z_iload_n C dX8_watch_66 rfl 1 rfl ?_
              refine z_iload C dX8_watch_67 4 rfl ?_
              refine z_iload C dX8_watch_69 5 rfl ?_
              refine z_callVi C hm cl_X8_326 cv_X8_fewest 82 (by decide) sh82 ⟨_, _, rfl⟩ [.int (nI p), .int (nI (zKn n (ern 0 n jn A hd) hr9)), .int (nI w0)] rfl (rest := []) rfl (k_X8_fewest w _ _  p (zKn n (ern 0 n jn A hd) hr9) w0 (by omega) hkn (by omega)) ⟨rfl, rfl, Nat.le_of_ble_eq_true rfl, Nat.le_of_ble_eq_true rfl⟩ (Nat.le_of_ble_eq_true rfl) dX8_watch_71 (fun v_8 I_8 J_8 h_8 => ?_)
              obtain ⟨hv_8, eI_8, eJ_8⟩ := h_8
              replace eI_8 := eI_8.symm; subst eI_8
              replace eJ_8 := eJ_8.symm; subst eJ_8
              refine z_istore C hm (lv' := [(6, .int v_8), (0, .ref (zad w 82)), (1, .int (nI p)), (2, .int (nI hr9)), (3, .int (nI k)), (4, .int (nI (zKn n (ern 0 n jn A hd) hr9))), (5, .int (nI w0))]) dX8_watch_74 (by decide) rfl ?_
              refine z_iload C dX8_watch_76 0 rfl ?_
              refine z_if_lt (tgt := 90) C dX8_watch_78 (by decide) (fun c78 => ?_) (fun c78 => ?_)
              · skip
                refine z_iinc C hm 6 (v := nI (w0 + 1)) (lv' := [(5, .int (nI (w0 + 1))), (6, .int v_8), (0, .ref (zad w 82)), (1, .int (nI p)), (2, .int (nI hr9)), (3, .int (nI k)), (4, .int (nI (zKn n (ern 0 n jn A hd) hr9)))]) dX8_watch_90 rfl (nI_add w0 1) (by decide) rfl ?_
                refine z_goto (tgt := 57) C dX8_watch_93 (by decide) ?_
                exact z_sub [2, 3, 4, 5, 6, 0] rfl (ih57  (w0 + 1) _ (by omega) (by omega) (by omega) (lt_w1 hno ((zFw_ok (by omega) (by omega) hv_8).resolve_left (fun q => absurd c78 (Int32.not_lt.mpr q.1)))) rfl)
              · skip
                refine z_iload C dX8_watch_81 0 rfl ?_
                refine z_iload_n C dX8_watch_83 rfl 4 rfl ?_
                refine z_icmp_gt (tgt := 90) C dX8_watch_84 (by decide) (fun c84 => ?_) (fun c84 => ?_)
                · skip
                  refine z_iinc C hm 6 (v := nI (w0 + 1)) (lv' := [(5, .int (nI (w0 + 1))), (6, .int v_8), (0, .ref (zad w 82)), (1, .int (nI p)), (2, .int (nI hr9)), (3, .int (nI k)), (4, .int (nI (zKn n (ern 0 n jn A hd) hr9)))]) dX8_watch_90 rfl (nI_add w0 1) (by decide) rfl ?_
                  refine z_goto (tgt := 57) C dX8_watch_93 (by decide) ?_
                  exact z_sub [2, 3, 4, 5, 6, 0] rfl (ih57  (w0 + 1) _ (by omega) (by omega) (by omega) (lt_w1 hno ((zFw_ok (by omega) (by omega) hv_8).resolve_left (fun q => absurd c84 (Int32.not_lt.mpr q.2)))) rfl)
                · skip
                  refine z_iload C dX8_watch_87 6 rfl ?_
                  refine z_iret C hr rfl dX8_watch_89 ?_
                  refine ⟨_, rfl, ?_⟩
                  exact ⟨by rw [cif_t ⟨⟨p, hp, rfl⟩, ⟨hr9, hhr9, rfl⟩, ⟨k, hk, rfl⟩⟩, zn_n (by omega), zn_n (by omega), zn_n (by omega)]; exact zWt_y (by omega) (by omega) (zFw_no (by omega) (by omega) hv_8 (Int32.not_lt.mp c78) (Int32.not_lt.mp c84)) (fun u h1 h2 => hno u h1 h2), rfl, (frM_z (by decide) (frM_l hz_4))⟩
        exact z_sub [2, 3, 4, 5, 1, 0] rfl (L57 _ 1 _ (Nat.lt_succ_self _) (by decide) (by decide) (fun u h1 h2 => by omega) rfl)
      · skip
        refine z_bipush C (v := -2) dX8_watch_31 (by decide) ?_
        refine z_iret C hr rfl dX8_watch_33 ?_
        refine ⟨_, rfl, ?_⟩
        exact ⟨by rw [cif_f (fun q => c28 q.2.2)], rfl, frM_id⟩
abbrev rm_X8_ask_ : Room := { frames := 7, cells := 0, slots := 0, locals := 272 }
set_option maxRecDepth 100000 in
set_option maxHeartbeats 4000000 in
theorem k_X8_ask_ (w : zW) (I : zI) (J : zJ) (n tr h : Nat) (A : List zCla) (jn lt : Nat → Int32) (hd : Nat → Option Nat) (bu ho lo fr : Nat → Nat) (y : Int32) (hn : n ≤ 8) (htr : tr ≤ 16) (hh : h < 7) (hd99 : ∀ a k, hd a = some k → k ≤ 99) (hS : mS I n tr h A jn lt hd bu ho lo fr) (hDg : ∀ a, a < 8 → jn (a * 8 + a) = 0) : zMet yX8_ask_ cX8_ask_ 7 (some .int) rm_X8_ask_ w [.ref (zad w 82), .int y] I J (zpi (fun v I' J' => J' = J ∧ frM I' I ∧ ((n = 0 ∧ v = -1) ∨ (n ≠ 0 ∧ ¬ zin y 100 ∧ v = -2) ∨ (n ≠ 0 ∧ ∃ hr9, hr9 < 100 ∧ y = nI hr9 ∧ ∃ fb, fb < n ∧ v = nI fb ∧ ∀ b, b < n → zLo n (fun m => ern m n jn A hd) hr9 b ≤ zLo n (fun m => ern m n jn A hd) hr9 fb ∧ (b < fb → zLo n (fun m => ern m n jn A hd) hr9 b < zLo n (fun m => ern m n jn A hd) hr9 fb))))) := by
  refine zMet_of (by decide) (Nat.le_of_ble_eq_true rfl) (fun X C hm hr => ?_)
  refine z_sub (lv' := [(0, .ref (zad w 82)), (1, .int y)]) [0, 1] rfl ?_
  obtain ⟨hN, hT, hM, hJn, hLt, hHd, hB, hO, hLo, hF⟩ := id hS
  have hp8 := p2_8 hn
  refine z_aload_n C dX8_ask__0 rfl 0 rfl ?_
  refine z_geti C ff_X8_7 82 (by decide) sh82 rfl (v := nI n) hN dX8_ask__1 ?_
  refine z_if_ne (tgt := 9) C dX8_ask__4 (by decide) (fun c4 => ?_) (fun c4 => ?_)
  · skip
    have hn0 : n ≠ 0 := fun q => c4 ((nI_0eq (by omega)).mpr q)
    refine z_aload_n C dX8_ask__9 rfl 0 rfl ?_
    refine z_iload_n C dX8_ask__10 rfl 1 rfl ?_
    refine z_callVi C hm cl_X8_290 cv_X8_isHour 82 (by decide) sh82 ⟨_, _, rfl⟩ [.int y] rfl (rest := []) rfl (k_X8_isHour w _ _  y ) ⟨rfl, rfl, Nat.le_of_ble_eq_true rfl, Nat.le_of_ble_eq_true rfl⟩ (Nat.le_of_ble_eq_true rfl) dX8_ask__11 (fun v_1 I_1 J_1 h_1 => ?_)
    obtain ⟨ev_1, ei_1, ej_1⟩ := h_1
    replace ev_1 := ev_1.symm; subst ev_1
    replace ei_1 := ei_1.symm; subst ei_1
    replace ej_1 := ej_1.symm; subst ej_1
    refine z_ifne_b (tgt := 20) C dX8_ask__14 (by decide) (fun c14 => ?_) (fun c14 => ?_)
    · skip
      obtain ⟨hr9, hhr9, rfl⟩ := c14
      refine z_aload_n C dX8_ask__20 rfl 0 rfl ?_
      refine z_callVv C hm cl_X8_278 cv_X8_layHours 82 (by decide) sh82 ⟨_, _, rfl⟩ [] rfl (rest := []) rfl (k_X8_layHours w _ _ n h A jn  hN hn hh hM hJn hDg) ⟨rfl, rfl, Nat.le_of_ble_eq_true rfl, Nat.le_of_ble_eq_true rfl⟩ (Nat.le_of_ble_eq_true rfl) dX8_ask__21 (fun I_2 J_2 h_2 => ?_)
      obtain ⟨hz_2, eJ_2⟩ := h_2
      replace eJ_2 := eJ_2.symm; subst eJ_2
      obtain ⟨h82_2, hfr_2, hH_2⟩ := id hz_2
      have hN_2 : I_2 82 0 = nI n := by rw [h82_2, upd_n (by decide)]; exact hN
      have hS_2 : I_2 82 25 = nI (aSteps A) := by rw [h82_2]; exact upd_s
      have hHd_2 : ∀ a, a < n → I_2 85 a = oM (hd a) := fun a ha => by rw [hfr_2 85 (by decide) (by decide) (by decide) (by decide)]; exact hHd a ha
      refine z_aload_n C dX8_ask__24 rfl 0 rfl ?_
      refine z_iconst C (v := 0) dX8_ask__25 (by decide) ?_
      refine z_callVv C hm cl_X8_281 cv_X8_spread 82 (by decide) sh82 ⟨_, _, rfl⟩ [.int 0] rfl (rest := []) rfl (k_X8_spread w _ _ n (aSteps A) A jn hd 0 (by decide) (by exact hN_2) hn (by exact hS_2) (aSteps_le A) (by exact hH_2) (mHeld_ok hM) (by exact hHd_2) hd99) ⟨rfl, rfl, Nat.le_of_ble_eq_true rfl, Nat.le_of_ble_eq_true rfl⟩ (Nat.le_of_ble_eq_true rfl) dX8_ask__26 (fun I_3 J_3 h_3 => ?_)
      obtain ⟨⟨R_3, eI_3, hR_3⟩, eJ_3⟩ := h_3
      replace eI_3 := eI_3.symm; subst eI_3
      replace eJ_3 := eJ_3.symm; subst eJ_3
      refine z_aload_n C dX8_ask__29 rfl 0 rfl ?_
      refine z_iload_n C dX8_ask__30 rfl 1 rfl ?_
      refine z_callVi C hm cl_X8_323 cv_X8_knowers 82 (by decide) sh82 ⟨_, _, rfl⟩ [.int (nI hr9)] rfl (rest := []) rfl (k_X8_knowers w _ _ 0 n A jn hd hr9 (by exact hN_2) hn (by exact hS_2) hR_3 hd99 (by omega)) ⟨rfl, rfl, Nat.le_of_ble_eq_true rfl, Nat.le_of_ble_eq_true rfl⟩ (Nat.le_of_ble_eq_true rfl) dX8_ask__31 (fun v_4 I_4 J_4 h_4 => ?_)
      obtain ⟨ev_4, ei_4, ej_4⟩ := h_4
      replace ev_4 := ev_4.symm; subst ev_4
      replace ei_4 := ei_4.symm; subst ei_4
      replace ej_4 := ej_4.symm; subst ej_4
      refine z_istore_n C hm (lv' := [(2, .int (nI (zset (fun a => decide (ern 0 n jn A hd a ≤ hr9)) n))), (0, .ref (zad w 82)), (1, .int (nI hr9))]) dX8_ask__34 rfl (by decide) rfl ?_
      refine z_iconst C (v := -1) dX8_ask__35 (by decide) ?_
      refine z_istore_n C hm (lv' := [(3, .int (-1)), (2, .int (nI (zset (fun a => decide (ern 0 n jn A hd a ≤ hr9)) n))), (0, .ref (zad w 82)), (1, .int (nI hr9))]) dX8_ask__36 rfl (by decide) rfl ?_
      refine z_iconst C (v := 0) dX8_ask__37 (by decide) ?_
      refine z_istore C hm (lv' := [(4, .int 0), (3, .int (-1)), (2, .int (nI (zset (fun a => decide (ern 0 n jn A hd a ≤ hr9)) n))), (0, .ref (zad w 82)), (1, .int (nI hr9))]) dX8_ask__38 (by decide) rfl ?_
      refine z_iconst C (v := 0) dX8_ask__40 (by decide) ?_
      refine z_istore C hm (lv' := [(5, .int 0), (4, .int 0), (3, .int (-1)), (2, .int (nI (zset (fun a => decide (ern 0 n jn A hd a ≤ hr9)) n))), (0, .ref (zad w 82)), (1, .int (nI hr9))]) dX8_ask__41 (by decide) rfl ?_
      have L43 : ∀ (d : Nat) (a fb : Nat) (bv : Int32) (mo : Nat) (R : Nat → Int32) (v43_3 : Int32) (v43_4 : Int32) (v43_5 : Int32) (I43 : zI), (n - a) < d → (a ≤ n) → ((a = 0 ∧ bv = -1) ∨ (fb < a ∧ bv = nI fb ∧ mo = zLo n (fun m => ern m n jn A hd) hr9 fb ∧ ∀ b, b < a → zLo n (fun m => ern m n jn A hd) hr9 b ≤ zLo n (fun m => ern m n jn A hd) hr9 fb ∧ (b < fb → zLo n (fun m => ern m n jn A hd) hr9 b < zLo n (fun m => ern m n jn A hd) hr9 fb))) → v43_3 = bv → v43_4 = nI mo → v43_5 = nI a → I43 = zup I_2 97 R → Z X w I43 J 43 [(0, .ref (zad w 82)), (1, .int (nI hr9)), (2, .int (nI (zset (fun a => decide (ern 0 n jn A hd a ≤ hr9)) n))), (3, .int v43_3), (4, .int v43_4), (5, .int v43_5)] [] := by
        intro d
        induction d with
        | zero => intro a fb bv mo R v43_3 v43_4 v43_5 I43 hd; exact absurd hd (Nat.not_lt_zero _)
        | succ d ih43 => 
          intro a fb bv mo R v43_3 v43_4 v43_5 I43 hd43 ha hi e_v43_3 e_v43_4 e_v43_5 e_I43
          replace e_v43_3 := e_v43_3.symm; subst e_v43_3
          replace e_v43_4 := e_v43_4.symm; subst e_v43_4
          replace e_v43_5 := e_v43_5.symm; subst e_v43_5
          replace e_I43 := e_I43.symm; subst e_I43
          refine z_iload C dX8_ask__43 5 rfl ?_
          refine z_aload_n C dX8_ask__45 rfl 0 rfl ?_
          refine z_geti C ff_X8_7 82 (by decide) sh82 rfl (v := nI n) (by first | exact hN_2 | (simp [zup, zupJ, upd, vp_updL]; exact hN_2)) dX8_ask__46 ?_
          refine z_icmp_ge_n a n (tgt := 109) C rfl rfl (by omega) (by omega) dX8_ask__49 (by decide) (fun c49 => ?_) (fun c49 => ?_)
          · skip
            have han : a = n := by omega
            obtain ⟨hf1, hf2, _, hf3⟩ := hi.resolve_left (fun q => by omega)
            rw [hf2]
            refine z_iload_n C dX8_ask__109 rfl 3 rfl ?_
            refine z_iret C hr rfl dX8_ask__110 ?_
            refine ⟨_, rfl, ?_⟩
            exact ⟨rfl, (frM_z (by decide) (frM_l hz_2)), Or.inr (Or.inr ⟨hn0, hr9, hhr9, rfl, fb, by omega, rfl, by rw [han] at hf3; exact hf3⟩)⟩
          · skip
            have h2a : 2 ^ a < 2 ^ n := Nat.pow_lt_pow_right (by decide) (by omega)
            have hlo9 : zLo n (fun m => ern m n jn A hd) hr9 a ≤ 9 := zpop_le _
            refine z_aload_n C dX8_ask__52 rfl 0 rfl ?_
            refine z_iconst C (v := 1) dX8_ask__53 (by decide) ?_
            refine z_iload C dX8_ask__54 5 rfl ?_
            refine z_ishl C dX8_ask__56 ?_
            refine z_ti (y := nI (2 ^ a)) (shl1 (by omega)) ?_
            refine z_callVv C hm cl_X8_281 cv_X8_spread 82 (by decide) sh82 ⟨_, _, rfl⟩ [.int (nI (2 ^ a))] rfl (rest := []) rfl (k_X8_spread w _ _ n (aSteps A) A jn hd (2 ^ a) (by omega) (by exact hN_2) hn (by exact hS_2) (aSteps_le A) (by exact hH_2) (mHeld_ok hM) (by exact hHd_2) hd99) ⟨rfl, rfl, Nat.le_of_ble_eq_true rfl, Nat.le_of_ble_eq_true rfl⟩ (Nat.le_of_ble_eq_true rfl) dX8_ask__57 (fun I_5 J_5 h_5 => ?_)
            obtain ⟨⟨R_5, eI_5, hR_5⟩, eJ_5⟩ := h_5
            replace eI_5 := eI_5.symm; subst eI_5
            replace eJ_5 := eJ_5.symm; subst eJ_5
            refine z_I (I' := zup I_2 97 R_5) (by funext zk; simp only [zup]; split <;> simp_all [zup]) ?_
            refine z_aload_n C dX8_ask__60 rfl 0 rfl ?_
            refine z_iload_n C dX8_ask__61 rfl 2 rfl ?_
            refine z_aload_n C dX8_ask__62 rfl 0 rfl ?_
            refine z_iload_n C dX8_ask__63 rfl 1 rfl ?_
            refine z_callVi C hm cl_X8_323 cv_X8_knowers 82 (by decide) sh82 ⟨_, _, rfl⟩ [.int (nI hr9)] rfl (rest := [.int (nI (zset (fun a => decide (ern 0 n jn A hd a ≤ hr9)) n)), .ref (zad w 82)]) rfl (k_X8_knowers w _ _ (2 ^ a) n A jn hd hr9 (by exact hN_2) hn (by exact hS_2) hR_5 hd99 (by omega)) ⟨rfl, rfl, Nat.le_of_ble_eq_true rfl, Nat.le_of_ble_eq_true rfl⟩ (Nat.le_of_ble_eq_true rfl) dX8_ask__64 (fun v_6 I_6 J_6 h_6 => ?_)
            obtain ⟨ev_6, ei_6, ej_6⟩ := h_6
            replace ev_6 := ev_6.symm; subst ev_6
            replace ei_6 := ei_6.symm; subst ei_6
            replace ej_6 := ej_6.symm; subst ej_6
            refine z_iconst C (v := -1) dX8_ask__67 (by decide) ?_
            refine z_ixor C dX8_ask__68 ?_
            refine z_iand C dX8_ask__69 ?_
            refine z_ti (y := nI (zset (fun i => decide (ern 0 n jn A hd i ≤ hr9) && !(decide (i < n) && decide (ern (2 ^ a) n jn A hd i ≤ hr9))) n)) zset_andn ?_
            refine z_iconst C (v := 1) dX8_ask__70 (by decide) ?_
            refine z_iload C dX8_ask__71 5 rfl ?_
            refine z_ishl C dX8_ask__73 ?_
            refine z_ti (y := nI (2 ^ a)) (shl1 (by omega)) ?_
            refine z_iconst C (v := -1) dX8_ask__74 (by decide) ?_
            refine z_ixor C dX8_ask__75 ?_
            refine z_iand C dX8_ask__76 ?_
            refine z_ti (y := nI (zset (fun i => (decide (ern 0 n jn A hd i ≤ hr9) && !(decide (i < n) && decide (ern (2 ^ a) n jn A hd i ≤ hr9))) && !(decide (i < n) && decide (i = a))) n)) (by rw [← zset_one (a := a) (n := n) (by omega)]; exact zset_andn) ?_
            refine z_callVi C hm cl_X8_293 cv_X8_ones 82 (by decide) sh82 ⟨_, _, rfl⟩ [.int (nI (zset (fun i => (decide (ern 0 n jn A hd i ≤ hr9) && !(decide (i < n) && decide (ern (2 ^ a) n jn A hd i ≤ hr9))) && !(decide (i < n) && decide (i = a))) n))] rfl (rest := []) rfl (k_X8_ones w _ _  (zset (fun i => (decide (ern 0 n jn A hd i ≤ hr9) && !(decide (i < n) && decide (ern (2 ^ a) n jn A hd i ≤ hr9))) && !(decide (i < n) && decide (i = a))) n) (zset_512 (by omega))) ⟨rfl, rfl, Nat.le_of_ble_eq_true rfl, Nat.le_of_ble_eq_true rfl⟩ (Nat.le_of_ble_eq_true rfl) dX8_ask__77 (fun v_7 I_7 J_7 h_7 => ?_)
            obtain ⟨ev_7, ei_7, ej_7⟩ := h_7
            replace ev_7 := ev_7.symm; subst ev_7
            replace ei_7 := ei_7.symm; subst ei_7
            replace ej_7 := ej_7.symm; subst ej_7
            refine z_ti (y := nI (zLo n (fun m => ern m n jn A hd) hr9 a)) (by rw [zset_r]; rfl) ?_
            refine z_istore C hm (lv' := [(6, .int (nI (zLo n (fun m => ern m n jn A hd) hr9 a))), (0, .ref (zad w 82)), (1, .int (nI hr9)), (2, .int (nI (zset (fun a => decide (ern 0 n jn A hd a ≤ hr9)) n))), (3, .int bv), (4, .int (nI mo)), (5, .int (nI a))]) dX8_ask__80 (by decide) rfl ?_
            refine z_iload_n C dX8_ask__82 rfl 4 rfl ?_
            refine z_if_lt (tgt := 96) C dX8_ask__83 (by decide) (fun c83 => ?_) (fun c83 => ?_)
            · skip
              have ha0 : a = 0 := by
                rcases hi with q | ⟨q1, q2, _⟩
                · exact q.1
                · rw [q2] at c83; exact absurd c83 (nI_pos (by omega))
              refine z_iload C dX8_ask__96 6 rfl ?_
              refine z_istore_n C hm (lv' := [(3, .int (nI a)), (6, .int (nI (zLo n (fun m => ern m n jn A hd) hr9 a))), (0, .ref (zad w 82)), (1, .int (nI hr9)), (2, .int (nI (zset (fun a => decide (ern 0 n jn A hd a ≤ hr9)) n))), (4, .int (nI mo)), (5, .int (nI a))]) dX8_ask__98 rfl (by decide) rfl ?_
              refine z_iload C dX8_ask__99 1 rfl ?_
              refine z_istore C hm (lv' := [(4, .int (nI (zLo n (fun m => ern m n jn A hd) hr9 a))), (3, .int (nI a)), (6, .int (nI (zLo n (fun m => ern m n jn A hd) hr9 a))), (0, .ref (zad w 82)), (1, .int (nI hr9)), (2, .int (nI (zset (fun a => decide (ern 0 n jn A hd a ≤ hr9)) n))), (5, .int (nI a))]) dX8_ask__101 (by decide) rfl ?_
              refine z_iinc C hm 6 (v := nI (a + 1)) (lv' := [(5, .int (nI (a + 1))), (4, .int (nI (zLo n (fun m => ern m n jn A hd) hr9 a))), (3, .int (nI a)), (6, .int (nI (zLo n (fun m => ern m n jn A hd) hr9 a))), (0, .ref (zad w 82)), (1, .int (nI hr9)), (2, .int (nI (zset (fun a => decide (ern 0 n jn A hd a ≤ hr9)) n)))]) dX8_ask__103 rfl (nI_add a 1) (by decide) rfl ?_
              refine z_goto (tgt := 43) C dX8_ask__106 (by decide) ?_
              exact z_sub [4, 5, 6, 2, 1, 0] rfl (ih43  (a + 1) a (nI a) (zLo n (fun m => ern m n jn A hd) hr9 a) R_5 _ _ _ _ (by omega) (by omega) (Or.inr ⟨by omega, rfl, rfl, fun b hb => by
                  have : b = a := by omega
                  subst this
                  exact ⟨Nat.le_refl _, fun q => absurd q (Nat.lt_irrefl _)⟩⟩) rfl rfl rfl (by funext zk; by_cases h97 : zk = 97 <;> simp [zup, h97]))
            · skip
              obtain ⟨hfa, hbv, hmo, hmx⟩ := hi.resolve_left (fun q => c83 (by rw [q.2]; decide))
              have hlof : zLo n (fun m => ern m n jn A hd) hr9 fb ≤ 9 := zpop_le _
              rw [hbv, hmo]
              clear hi
              refine z_iload C dX8_ask__86 0 rfl ?_
              refine z_iload C dX8_ask__88 5 rfl ?_
              refine z_icmp_gt_n (zLo n (fun m => ern m n jn A hd) hr9 a) (zLo n (fun m => ern m n jn A hd) hr9 fb) (tgt := 96) C rfl rfl (by omega) (by omega) dX8_ask__90 (by decide) (fun c90 => ?_) (fun c90 => ?_)
              · skip
                refine z_iload C dX8_ask__96 6 rfl ?_
                refine z_istore_n C hm (lv' := [(3, .int (nI a)), (6, .int (nI (zLo n (fun m => ern m n jn A hd) hr9 a))), (0, .ref (zad w 82)), (1, .int (nI hr9)), (2, .int (nI (zset (fun a => decide (ern 0 n jn A hd a ≤ hr9)) n))), (4, .int (nI (zLo n (fun m => ern m n jn A hd) hr9 fb))), (5, .int (nI a))]) dX8_ask__98 rfl (by decide) rfl ?_
                refine z_iload C dX8_ask__99 1 rfl ?_
                refine z_istore C hm (lv' := [(4, .int (nI (zLo n (fun m => ern m n jn A hd) hr9 a))), (3, .int (nI a)), (6, .int (nI (zLo n (fun m => ern m n jn A hd) hr9 a))), (0, .ref (zad w 82)), (1, .int (nI hr9)), (2, .int (nI (zset (fun a => decide (ern 0 n jn A hd a ≤ hr9)) n))), (5, .int (nI a))]) dX8_ask__101 (by decide) rfl ?_
                refine z_iinc C hm 6 (v := nI (a + 1)) (lv' := [(5, .int (nI (a + 1))), (4, .int (nI (zLo n (fun m => ern m n jn A hd) hr9 a))), (3, .int (nI a)), (6, .int (nI (zLo n (fun m => ern m n jn A hd) hr9 a))), (0, .ref (zad w 82)), (1, .int (nI hr9)), (2, .int (nI (zset (fun a => decide (ern 0 n jn A hd a ≤ hr9)) n)))]) dX8_ask__103 rfl (nI_add a 1) (by decide) rfl ?_
                refine z_goto (tgt := 43) C dX8_ask__106 (by decide) ?_
                exact z_sub [4, 5, 6, 2, 1, 0] rfl (ih43  (a + 1) a (nI a) (zLo n (fun m => ern m n jn A hd) hr9 a) R_5 _ _ _ _ (by omega) (by omega) (Or.inr ⟨by omega, rfl, rfl, fun b hb => by
                    by_cases q : b = a
                    · subst q
                      exact ⟨Nat.le_refl _, fun z => absurd z (Nat.lt_irrefl _)⟩
                    · have := (hmx b (by omega)).1
                      exact ⟨by omega, fun _ => by omega⟩⟩) rfl rfl rfl (by funext zk; by_cases h97 : zk = 97 <;> simp [zup, h97]))
              · skip
                refine z_goto (tgt := 103) C dX8_ask__93 (by decide) ?_
                refine z_iinc C hm 6 (v := nI (a + 1)) (lv' := [(5, .int (nI (a + 1))), (6, .int (nI (zLo n (fun m => ern m n jn A hd) hr9 a))), (0, .ref (zad w 82)), (1, .int (nI hr9)), (2, .int (nI (zset (fun a => decide (ern 0 n jn A hd a ≤ hr9)) n))), (3, .int (nI fb)), (4, .int (nI (zLo n (fun m => ern m n jn A hd) hr9 fb)))]) dX8_ask__103 rfl (nI_add a 1) (by decide) rfl ?_
                refine z_goto (tgt := 43) C dX8_ask__106 (by decide) ?_
                exact z_sub [2, 3, 4, 5, 6, 0] rfl (ih43  (a + 1) fb (nI fb) (zLo n (fun m => ern m n jn A hd) hr9 fb) R_5 _ _ _ _ (by omega) (by omega) (Or.inr ⟨by omega, rfl, rfl, lt_s hmx ⟨by omega, fun z => absurd z (by omega)⟩⟩) rfl rfl rfl (by funext zk; by_cases h97 : zk = 97 <;> simp [zup, h97]))
      exact z_sub [4, 5, 3, 2, 1, 0] rfl (L43 _ 0 0 (-1) 0 R_3 _ _ _ _ (Nat.lt_succ_self _) (Nat.zero_le _) (Or.inl ⟨rfl, rfl⟩) rfl rfl rfl rfl)
    · skip
      refine z_bipush C (v := -2) dX8_ask__17 (by decide) ?_
      refine z_iret C hr rfl dX8_ask__19 ?_
      refine ⟨_, rfl, ?_⟩
      exact ⟨rfl, frM_id, Or.inr (Or.inl ⟨hn0, c14, rfl⟩)⟩
  · skip
    have hn0 : n = 0 := (nI_0eq (by omega)).mp c4
    refine z_iconst C (v := -1) dX8_ask__7 (by decide) ?_
    refine z_iret C hr rfl dX8_ask__8 ?_
    refine ⟨_, rfl, ?_⟩
    exact ⟨rfl, frM_id, Or.inl ⟨hn0, rfl⟩⟩
