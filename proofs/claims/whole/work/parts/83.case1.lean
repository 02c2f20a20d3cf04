/-! the law's cases: both sides say the same words -/
theorem mS_sc {K I : zI} {n tr h : Nat} {A : List zCla} {jn lt : Nat → Int32} {hd : Nat → Option Nat} {bu ho lo fr : Nat → Nat} (H : mS I n tr h A jn lt hd bu ho lo fr) (f : scI K I) : mS K n tr h A jn lt hd bu ho lo fr := by
  obtain ⟨f1, f2⟩ := f
  obtain ⟨m1, m2, m3, m4, m5, m6, m7, m8, m9, m10⟩ := H
  refine ⟨by rw [f2 0 (by decide)]; exact m1, by rw [f2 27 (by decide)]; exact m2, ?_, by rw [f1 84 (by decide) (by omega)]; exact m4, by rw [f1 83 (by decide) (by omega)]; exact m5, by rw [f1 85 (by decide) (by omega)]; exact m6, by rw [f1 101 (by decide) (by omega)]; exact m7, by rw [f1 103 (by decide) (by omega)]; exact m8, by rw [f1 104 (by decide) (by omega)]; exact m9, by rw [f1 102 (by decide) (by omega)]; exact m10⟩
  unfold mHeld mLaw at m3 ⊢
  rw [f2 5 (by decide), f1 87 (by decide) (by omega), f1 88 (by decide) (by omega), f1 89 (by decide) (by omega), f1 90 (by decide) (by omega), f1 91 (by decide) (by omega), f1 92 (by decide) (by omega)]
  exact m3
theorem scI_e {K I : zI} (h : K = I) : scI K I := by rw [h]; exact scI_id
theorem scJ_e {K I : zJ} (h : K = I) : scJ K I := by rw [h]; exact scJ_id
theorem lcmp_0 {x y : Int64} (h : x = y) : lg_cmp x y = 0 := by
  subst h
  unfold lg_cmp
  simp
set_option maxRecDepth 100000 in
set_option maxHeartbeats 1000000 in
theorem lc_goes {X : zX} {w : zW} {I : zI} {J : zJ} {b L i : Nat} {xs : Nat → Int32} (C : zOk X w cL_law RL room_1) (hm : zML X 4) (hs : zScr X b L xs) (hL : L ≤ 3072) (hi : i + 5 < L) (H : zRel I J) (kk : ∀ (K : zI) (M : zJ), zRel K M → Z X w K M 1298 [(3, .int (nI i)), (2, .ref (zad w 82)), (1, .ref (zad w 0)), (0, .ref b)] []) : Z X w I J 329 [(3, .int (nI i)), (2, .ref (zad w 82)), (1, .ref (zad w 0)), (0, .ref b)] [] := by
  obtain ⟨n, tr, h, bk, A, hd, kd, bu, fr, ho, lo, P⟩ := zRel_p H
  obtain ⟨hn, htr, hh, hbk, hN, hT, hH, hK, hL7, hd7, hd99, hKd, hB, hF, hO, hLo, hS, hDg, hKd8, hK8, hBl⟩ := id P
  refine z_aload_n C dL_law_329 rfl 2 rfl ?_
  refine z_arg C hs (by omega) 3 0 rfl rfl 1 (by omega) (by decide) dL_law_330 dL_law_331 dL_law_332 dL_law_333 dL_law_334 ?_
  refine z_arg C hs (by omega) 3 0 rfl rfl 2 (by omega) (by decide) dL_law_335 dL_law_336 dL_law_337 dL_law_338 dL_law_339 ?_
  refine z_callVi C hm cl_L_37 cv_X7_goes 0 (by decide) sh0 ⟨_, _, rfl⟩ [.int (xs (i + 1)), .int (xs (i + 2))] rfl (rest := []) rfl (k_X7_goes w _ _ n h A (xs (i + 1)) (xs (i + 2)) hN hn hh hH hL7) ⟨rfl, rfl, Nat.le_of_ble_eq_true rfl, Nat.le_of_ble_eq_true rfl⟩ (Nat.le_of_ble_eq_true rfl) dL_law_340 (fun v1 I1 J1 h1 => ?_)
  obtain ⟨e1, e2, e3⟩ := id h1
  have f1 : scI I1 I := scI_e e2
  have g1 : scJ J1 J := scJ_e e3
  have hS1 := mS_sc hS f1
  obtain ⟨mN, mT, mM, mJn, mLt, mHd, mB, mO, mLo, mF⟩ := id hS1
  obtain ⟨-, -, -, -, -, -, -, -, -, -, -, -, -, -, -, -, -, -, qKd, qK, qBl⟩ := zP_sc P f1
  refine z_aload_n C dL_law_343 rfl 1 rfl ?_
  refine z_arg C hs (by omega) 3 0 rfl rfl 1 (by omega) (by decide) dL_law_344 dL_law_345 dL_law_346 dL_law_347 dL_law_348 ?_
  refine z_arg C hs (by omega) 3 0 rfl rfl 2 (by omega) (by decide) dL_law_349 dL_law_350 dL_law_351 dL_law_352 dL_law_353 ?_
  refine z_callVi C hm cl_L_40 cv_X8_goes 82 (by decide) sh82 ⟨_, _, rfl⟩ [.int (xs (i + 1)), .int (xs (i + 2))] rfl (rest := [.int v1]) rfl (k_X8_goes w _ _ n h A (I 6) (xs (i + 1)) (xs (i + 2)) mN hn hh mM mJn hDg) ⟨rfl, rfl, Nat.le_of_ble_eq_true rfl, Nat.le_of_ble_eq_true rfl⟩ (Nat.le_of_ble_eq_true rfl) dL_law_354 (fun v2 I2 J2 h2 => ?_)
  obtain ⟨w1, w2, w3⟩ := id h2
  have hR : zRel I2 J2 := zRel_sc (zRel_sc H f1 g1) (scI_H w2) (scJ_e w3)
  have hv : v1 = v2 := e1.trans w1.symm
  refine z_icmp_eq (tgt := 1298) C dL_law_357 (by decide) (fun _ => kk _ _ hR) (fun c => absurd hv c)
set_option maxRecDepth 100000 in
set_option maxHeartbeats 1000000 in
theorem lc_habit {X : zX} {w : zW} {I : zI} {J : zJ} {b L i : Nat} {xs : Nat → Int32} (C : zOk X w cL_law RL room_1) (hm : zML X 4) (hs : zScr X b L xs) (hL : L ≤ 3072) (hi : i + 5 < L) (H : zRel I J) (kk : ∀ (K : zI) (M : zJ), zRel K M → Z X w K M 1298 [(3, .int (nI i)), (2, .ref (zad w 82)), (1, .ref (zad w 0)), (0, .ref b)] []) : Z X w I J 362 [(3, .int (nI i)), (2, .ref (zad w 82)), (1, .ref (zad w 0)), (0, .ref b)] [] := by
  obtain ⟨n, tr, h, bk, A, hd, kd, bu, fr, ho, lo, P⟩ := zRel_p H
  obtain ⟨hn, htr, hh, hbk, hN, hT, hH, hK, hL7, hd7, hd99, hKd, hB, hF, hO, hLo, hS, hDg, hKd8, hK8, hBl⟩ := id P
  refine z_aload_n C dL_law_362 rfl 2 rfl ?_
  refine z_arg C hs (by omega) 3 0 rfl rfl 1 (by omega) (by decide) dL_law_363 dL_law_364 dL_law_365 dL_law_366 dL_law_367 ?_
  refine z_arg C hs (by omega) 3 0 rfl rfl 2 (by omega) (by decide) dL_law_368 dL_law_369 dL_law_370 dL_law_371 dL_law_372 ?_
  refine z_callVi C hm cl_L_41 cv_X7_habit 0 (by decide) sh0 ⟨_, _, rfl⟩ [.int (xs (i + 1)), .int (xs (i + 2))] rfl (rest := []) rfl (k_X7_habit w _ _ n h A (xs (i + 1)) (xs (i + 2)) hN hn hh hH hL7) ⟨rfl, rfl, Nat.le_of_ble_eq_true rfl, Nat.le_of_ble_eq_true rfl⟩ (Nat.le_of_ble_eq_true rfl) dL_law_373 (fun v1 I1 J1 h1 => ?_)
  obtain ⟨e1, e2, e3⟩ := id h1
  have f1 : scI I1 I := scI_e e2
  have g1 : scJ J1 J := scJ_e e3
  have hS1 := mS_sc hS f1
  obtain ⟨mN, mT, mM, mJn, mLt, mHd, mB, mO, mLo, mF⟩ := id hS1
  obtain ⟨-, -, -, -, -, -, -, -, -, -, -, -, -, -, -, -, -, -, qKd, qK, qBl⟩ := zP_sc P f1
  refine z_aload_n C dL_law_376 rfl 1 rfl ?_
  refine z_arg C hs (by omega) 3 0 rfl rfl 1 (by omega) (by decide) dL_law_377 dL_law_378 dL_law_379 dL_law_380 dL_law_381 ?_
  refine z_arg C hs (by omega) 3 0 rfl rfl 2 (by omega) (by decide) dL_law_382 dL_law_383 dL_law_384 dL_law_385 dL_law_386 ?_
  refine z_callVi C hm cl_L_44 cv_X8_habit 82 (by decide) sh82 ⟨_, _, rfl⟩ [.int (xs (i + 1)), .int (xs (i + 2))] rfl (rest := [.int v1]) rfl (k_X8_habit w _ _ n h A (I 1) (xs (i + 1)) (xs (i + 2)) mN hn hh mM mLt) ⟨rfl, rfl, Nat.le_of_ble_eq_true rfl, Nat.le_of_ble_eq_true rfl⟩ (Nat.le_of_ble_eq_true rfl) dL_law_387 (fun v2 I2 J2 h2 => ?_)
  obtain ⟨w1, w2, w3⟩ := id h2
  have hR : zRel I2 J2 := zRel_sc (zRel_sc H f1 g1) (scI_H w2) (scJ_e w3)
  have hv : v1 = v2 := e1.trans w1.symm
  refine z_icmp_eq (tgt := 1298) C dL_law_390 (by decide) (fun _ => kk _ _ hR) (fun c => absurd hv c)
set_option maxRecDepth 100000 in
set_option maxHeartbeats 1000000 in
theorem lc_knows {X : zX} {w : zW} {I : zI} {J : zJ} {b L i : Nat} {xs : Nat → Int32} (C : zOk X w cL_law RL room_1) (hm : zML X 4) (hs : zScr X b L xs) (hL : L ≤ 3072) (hi : i + 5 < L) (H : zRel I J) (kk : ∀ (K : zI) (M : zJ), zRel K M → Z X w K M 1298 [(3, .int (nI i)), (2, .ref (zad w 82)), (1, .ref (zad w 0)), (0, .ref b)] []) : Z X w I J 395 [(3, .int (nI i)), (2, .ref (zad w 82)), (1, .ref (zad w 0)), (0, .ref b)] [] := by
  obtain ⟨n, tr, h, bk, A, hd, kd, bu, fr, ho, lo, P⟩ := zRel_p H
  obtain ⟨hn, htr, hh, hbk, hN, hT, hH, hK, hL7, hd7, hd99, hKd, hB, hF, hO, hLo, hS, hDg, hKd8, hK8, hBl⟩ := id P
  refine z_aload_n C dL_law_395 rfl 2 rfl ?_
  refine z_arg C hs (by omega) 3 0 rfl rfl 1 (by omega) (by decide) dL_law_396 dL_law_397 dL_law_398 dL_law_399 dL_law_400 ?_
  refine z_callVi C hm cl_L_45 cv_X7_knows 0 (by decide) sh0 ⟨_, _, rfl⟩ [.int (xs (i + 1))] rfl (rest := []) rfl (k_X7_knows w _ _ n h A hd (xs (i + 1)) hN hn hh hH hL7 hd7 hd99) ⟨rfl, rfl, Nat.le_of_ble_eq_true rfl, Nat.le_of_ble_eq_true rfl⟩ (Nat.le_of_ble_eq_true rfl) dL_law_401 (fun v1 I1 J1 h1 => ?_)
  obtain ⟨e1, e2, e3⟩ := id h1
  have f1 : scI I1 I := scI_S e3
  have g1 : scJ J1 J := scJ_e e2
  have hS1 := mS_sc hS f1
  obtain ⟨mN, mT, mM, mJn, mLt, mHd, mB, mO, mLo, mF⟩ := id hS1
  obtain ⟨-, -, -, -, -, -, -, -, -, -, -, -, -, -, -, -, -, -, qKd, qK, qBl⟩ := zP_sc P f1
  refine z_aload_n C dL_law_404 rfl 1 rfl ?_
  refine z_arg C hs (by omega) 3 0 rfl rfl 1 (by omega) (by decide) dL_law_405 dL_law_406 dL_law_407 dL_law_408 dL_law_409 ?_
  refine z_callVi C hm cl_L_48 cv_X8_knows 82 (by decide) sh82 ⟨_, _, rfl⟩ [.int (xs (i + 1))] rfl (rest := [.int v1]) rfl (k_X8_knows w _ _ n h A (I 6) hd (xs (i + 1)) mN hn hh mM mJn hDg mHd hd99) ⟨rfl, rfl, Nat.le_of_ble_eq_true rfl, Nat.le_of_ble_eq_true rfl⟩ (Nat.le_of_ble_eq_true rfl) dL_law_410 (fun v2 I2 J2 h2 => ?_)
  obtain ⟨w1, w2, w3⟩ := id h2
  have hR : zRel I2 J2 := zRel_sc (zRel_sc H f1 g1) (scI_M w3) (scJ_e w2)
  have hv : v1 = v2 := e1.trans w1.symm
  refine z_icmp_eq (tgt := 1298) C dL_law_413 (by decide) (fun _ => kk _ _ hR) (fun c => absurd hv c)
set_option maxRecDepth 100000 in
set_option maxHeartbeats 1000000 in
theorem lc_parted {X : zX} {w : zW} {I : zI} {J : zJ} {b L i : Nat} {xs : Nat → Int32} (C : zOk X w cL_law RL room_1) (hm : zML X 4) (hs : zScr X b L xs) (hL : L ≤ 3072) (hi : i + 5 < L) (H : zRel I J) (kk : ∀ (K : zI) (M : zJ), zRel K M → Z X w K M 1298 [(3, .int (nI i)), (2, .ref (zad w 82)), (1, .ref (zad w 0)), (0, .ref b)] []) : Z X w I J 726 [(3, .int (nI i)), (2, .ref (zad w 82)), (1, .ref (zad w 0)), (0, .ref b)] [] := by
  obtain ⟨n, tr, h, bk, A, hd, kd, bu, fr, ho, lo, P⟩ := zRel_p H
  obtain ⟨hn, htr, hh, hbk, hN, hT, hH, hK, hL7, hd7, hd99, hKd, hB, hF, hO, hLo, hS, hDg, hKd8, hK8, hBl⟩ := id P
  refine z_aload_n C dL_law_726 rfl 2 rfl ?_
  refine z_arg C hs (by omega) 3 0 rfl rfl 1 (by omega) (by decide) dL_law_727 dL_law_728 dL_law_729 dL_law_730 dL_law_731 ?_
  refine z_arg C hs (by omega) 3 0 rfl rfl 2 (by omega) (by decide) dL_law_732 dL_law_733 dL_law_734 dL_law_735 dL_law_736 ?_
  refine z_callVi C hm cl_L_87 cv_X7_parted 0 (by decide) sh0 ⟨_, _, rfl⟩ [.int (xs (i + 1)), .int (xs (i + 2))] rfl (rest := []) rfl (k_X7_parted w _ _ n h A hd (xs (i + 1)) (xs (i + 2)) hN hn hh hH hL7 hd7 hd99) ⟨rfl, rfl, Nat.le_of_ble_eq_true rfl, Nat.le_of_ble_eq_true rfl⟩ (Nat.le_of_ble_eq_true rfl) dL_law_737 (fun v1 I1 J1 h1 => ?_)
  obtain ⟨e1, e2, e3⟩ := id h1
  have f1 : scI I1 I := scI_S e3
  have g1 : scJ J1 J := scJ_e e2
  have hS1 := mS_sc hS f1
  obtain ⟨mN, mT, mM, mJn, mLt, mHd, mB, mO, mLo, mF⟩ := id hS1
  obtain ⟨-, -, -, -, -, -, -, -, -, -, -, -, -, -, -, -, -, -, qKd, qK, qBl⟩ := zP_sc P f1
  refine z_aload_n C dL_law_740 rfl 1 rfl ?_
  refine z_arg C hs (by omega) 3 0 rfl rfl 1 (by omega) (by decide) dL_law_741 dL_law_742 dL_law_743 dL_law_744 dL_law_745 ?_
  refine z_arg C hs (by omega) 3 0 rfl rfl 2 (by omega) (by decide) dL_law_746 dL_law_747 dL_law_748 dL_law_749 dL_law_750 ?_
  refine z_callVi C hm cl_L_90 cv_X8_parted 82 (by decide) sh82 ⟨_, _, rfl⟩ [.int (xs (i + 1)), .int (xs (i + 2))] rfl (rest := [.int v1]) rfl (k_X8_parted w _ _ n tr h A (I 6) (I 1) hd bu ho lo fr (xs (i + 1)) (xs (i + 2)) hn htr hh hd99 hS1 hDg) ⟨rfl, rfl, Nat.le_of_ble_eq_true rfl, Nat.le_of_ble_eq_true rfl⟩ (Nat.le_of_ble_eq_true rfl) dL_law_751 (fun v2 I2 J2 h2 => ?_)
  obtain ⟨w1, w2, w3⟩ := id h2
  have hR : zRel I2 J2 := zRel_sc (zRel_sc H f1 g1) (scI_M w3) (scJ_e w2)
  have hv : v1 = v2 := e1.trans w1.symm
  refine z_icmp_eq (tgt := 1298) C dL_law_754 (by decide) (fun _ => kk _ _ hR) (fun c => absurd hv c)
set_option maxRecDepth 100000 in
set_option maxHeartbeats 1000000 in
theorem lc_watch {X : zX} {w : zW} {I : zI} {J : zJ} {b L i : Nat} {xs : Nat → Int32} (C : zOk X w cL_law RL room_1) (hm : zML X 4) (hs : zScr X b L xs) (hL : L ≤ 3072) (hi : i + 5 < L) (H : zRel I J) (kk : ∀ (K : zI) (M : zJ), zRel K M → Z X w K M 1298 [(3, .int (nI i)), (2, .ref (zad w 82)), (1, .ref (zad w 0)), (0, .ref b)] []) : Z X w I J 759 [(3, .int (nI i)), (2, .ref (zad w 82)), (1, .ref (zad w 0)), (0, .ref b)] [] := by
  obtain ⟨n, tr, h, bk, A, hd, kd, bu, fr, ho, lo, P⟩ := zRel_p H
  obtain ⟨hn, htr, hh, hbk, hN, hT, hH, hK, hL7, hd7, hd99, hKd, hB, hF, hO, hLo, hS, hDg, hKd8, hK8, hBl⟩ := id P
  refine z_aload_n C dL_law_759 rfl 2 rfl ?_
  refine z_arg C hs (by omega) 3 0 rfl rfl 1 (by omega) (by decide) dL_law_760 dL_law_761 dL_law_762 dL_law_763 dL_law_764 ?_
  refine z_arg C hs (by omega) 3 0 rfl rfl 2 (by omega) (by decide) dL_law_765 dL_law_766 dL_law_767 dL_law_768 dL_law_769 ?_
  refine z_arg C hs (by omega) 3 0 rfl rfl 3 (by omega) (by decide) dL_law_770 dL_law_771 dL_law_772 dL_law_773 dL_law_774 ?_
  refine z_callVi C hm cl_L_91 cv_X7_watch 0 (by decide) sh0 ⟨_, _, rfl⟩ [.int (xs (i + 1)), .int (xs (i + 2)), .int (xs (i + 3))] rfl (rest := []) rfl (k_X7_watch w _ _ n h A hd (xs (i + 1)) (xs (i + 2)) (xs (i + 3)) hN hn hh hH hL7 hd7 hd99) ⟨rfl, rfl, Nat.le_of_ble_eq_true rfl, Nat.le_of_ble_eq_true rfl⟩ (Nat.le_of_ble_eq_true rfl) dL_law_775 (fun v1 I1 J1 h1 => ?_)
  obtain ⟨e1, e2, e3⟩ := id h1
  have f1 : scI I1 I := scI_S e3
  have g1 : scJ J1 J := scJ_e e2
  have hS1 := mS_sc hS f1
  obtain ⟨mN, mT, mM, mJn, mLt, mHd, mB, mO, mLo, mF⟩ := id hS1
  obtain ⟨-, -, -, -, -, -, -, -, -, -, -, -, -, -, -, -, -, -, qKd, qK, qBl⟩ := zP_sc P f1
  refine z_aload_n C dL_law_778 rfl 1 rfl ?_
  refine z_arg C hs (by omega) 3 0 rfl rfl 1 (by omega) (by decide) dL_law_779 dL_law_780 dL_law_781 dL_law_782 dL_law_783 ?_
  refine z_arg C hs (by omega) 3 0 rfl rfl 2 (by omega) (by decide) dL_law_784 dL_law_785 dL_law_786 dL_law_787 dL_law_788 ?_
  refine z_arg C hs (by omega) 3 0 rfl rfl 3 (by omega) (by decide) dL_law_789 dL_law_790 dL_law_791 dL_law_792 dL_law_793 ?_
  refine z_callVi C hm cl_L_94 cv_X8_watch 82 (by decide) sh82 ⟨_, _, rfl⟩ [.int (xs (i + 1)), .int (xs (i + 2)), .int (xs (i + 3))] rfl (rest := [.int v1]) rfl (k_X8_watch w _ _ n tr h A (I 6) (I 1) hd bu ho lo fr (xs (i + 1)) (xs (i + 2)) (xs (i + 3)) hn htr hh hd99 hS1 hDg) ⟨rfl, rfl, Nat.le_of_ble_eq_true rfl, Nat.le_of_ble_eq_true rfl⟩ (Nat.le_of_ble_eq_true rfl) dL_law_794 (fun v2 I2 J2 h2 => ?_)
  obtain ⟨w1, w2, w3⟩ := id h2
  have hR : zRel I2 J2 := zRel_sc (zRel_sc H f1 g1) (scI_M w3) (scJ_e w2)
  have hv : v1 = v2 := e1.trans w1.symm
  refine z_icmp_eq (tgt := 1298) C dL_law_797 (by decide) (fun _ => kk _ _ hR) (fun c => absurd hv c)
set_option maxRecDepth 100000 in
set_option maxHeartbeats 1000000 in
theorem lc_ring {X : zX} {w : zW} {I : zI} {J : zJ} {b L i : Nat} {xs : Nat → Int32} (C : zOk X w cL_law RL room_1) (hm : zML X 4) (hs : zScr X b L xs) (hL : L ≤ 3072) (hi : i + 5 < L) (H : zRel I J) (kk : ∀ (K : zI) (M : zJ), zRel K M → Z X w K M 1298 [(3, .int (nI i)), (2, .ref (zad w 82)), (1, .ref (zad w 0)), (0, .ref b)] []) : Z X w I J 703 [(3, .int (nI i)), (2, .ref (zad w 82)), (1, .ref (zad w 0)), (0, .ref b)] [] := by
  obtain ⟨n, tr, h, bk, A, hd, kd, bu, fr, ho, lo, P⟩ := zRel_p H
  obtain ⟨hn, htr, hh, hbk, hN, hT, hH, hK, hL7, hd7, hd99, hKd, hB, hF, hO, hLo, hS, hDg, hKd8, hK8, hBl⟩ := id P
  refine z_aload_n C dL_law_703 rfl 2 rfl ?_
  refine z_arg C hs (by omega) 3 0 rfl rfl 1 (by omega) (by decide) dL_law_704 dL_law_705 dL_law_706 dL_law_707 dL_law_708 ?_
  refine z_callVi C hm cl_L_83 cv_X7_ring 0 (by decide) sh0 ⟨_, _, rfl⟩ [.int (xs (i + 1))] rfl (rest := []) rfl (k_X7_ring w _ _ n tr bu fr (xs (i + 1)) hN hn hT htr hB hF) ⟨rfl, rfl, Nat.le_of_ble_eq_true rfl, Nat.le_of_ble_eq_true rfl⟩ (Nat.le_of_ble_eq_true rfl) dL_law_709 (fun v1 I1 J1 h1 => ?_)
  obtain ⟨e1, e2, e3⟩ := id h1
  have f1 : scI I1 I := scI_e e2
  have g1 : scJ J1 J := scJ_e e3
  have hS1 := mS_sc hS f1
  obtain ⟨mN, mT, mM, mJn, mLt, mHd, mB, mO, mLo, mF⟩ := id hS1
  obtain ⟨-, -, -, -, -, -, -, -, -, -, -, -, -, -, -, -, -, -, qKd, qK, qBl⟩ := zP_sc P f1
  refine z_aload_n C dL_law_712 rfl 1 rfl ?_
  refine z_arg C hs (by omega) 3 0 rfl rfl 1 (by omega) (by decide) dL_law_713 dL_law_714 dL_law_715 dL_law_716 dL_law_717 ?_
  refine z_callVi C hm cl_L_86 cv_X8_ring 82 (by decide) sh82 ⟨_, _, rfl⟩ [.int (xs (i + 1))] rfl (rest := [.int v1]) rfl (k_X8_ring w _ _ n tr h A (I 6) (I 1) hd bu ho lo fr (xs (i + 1)) hn htr hh hd99 hS1) ⟨rfl, rfl, Nat.le_of_ble_eq_true rfl, Nat.le_of_ble_eq_true rfl⟩ (Nat.le_of_ble_eq_true rfl) dL_law_718 (fun v2 I2 J2 h2 => ?_)
  obtain ⟨w1, w2, w3⟩ := id h2
  have hR : zRel I2 J2 := zRel_sc (zRel_sc H f1 g1) (scI_e w2) (scJ_e w3)
  have hv : v1 = v2 := e1.trans w1.symm
  refine z_icmp_eq (tgt := 1298) C dL_law_721 (by decide) (fun _ => kk _ _ hR) (fun c => absurd hv c)
set_option maxRecDepth 100000 in
set_option maxHeartbeats 1000000 in
theorem lc_again {X : zX} {w : zW} {I : zI} {J : zJ} {b L i : Nat} {xs : Nat → Int32} (C : zOk X w cL_law RL room_1) (hm : zML X 4) (hs : zScr X b L xs) (hL : L ≤ 3072) (hi : i + 5 < L) (H : zRel I J) (kk : ∀ (K : zI) (M : zJ), zRel K M → Z X w K M 1298 [(3, .int (nI i)), (2, .ref (zad w 82)), (1, .ref (zad w 0)), (0, .ref b)] []) : Z X w I J 626 [(3, .int (nI i)), (2, .ref (zad w 82)), (1, .ref (zad w 0)), (0, .ref b)] [] := by
  obtain ⟨n, tr, h, bk, A, hd, kd, bu, fr, ho, lo, P⟩ := zRel_p H
  obtain ⟨hn, htr, hh, hbk, hN, hT, hH, hK, hL7, hd7, hd99, hKd, hB, hF, hO, hLo, hS, hDg, hKd8, hK8, hBl⟩ := id P
  refine z_aload_n C dL_law_626 rfl 2 rfl ?_
  refine z_arg C hs (by omega) 3 0 rfl rfl 1 (by omega) (by decide) dL_law_627 dL_law_628 dL_law_629 dL_law_630 dL_law_631 ?_
  refine z_arg C hs (by omega) 3 0 rfl rfl 2 (by omega) (by decide) dL_law_632 dL_law_633 dL_law_634 dL_law_635 dL_law_636 ?_
  refine z_arg C hs (by omega) 3 0 rfl rfl 3 (by omega) (by decide) dL_law_637 dL_law_638 dL_law_639 dL_law_640 dL_law_641 ?_
  refine z_arg C hs (by omega) 3 0 rfl rfl 4 (by omega) (by decide) dL_law_642 dL_law_643 dL_law_644 dL_law_645 dL_law_646 ?_
  refine z_callVl C hm cl_L_74 cv_X7_again 0 (by decide) sh0 ⟨_, _, rfl⟩ [.int (xs (i + 1)), .int (xs (i + 2)), .int (xs (i + 3)), .int (xs (i + 4))] rfl (rest := []) rfl (k_X7_again w _ _ n tr h A bu fr (xs (i + 1)) (xs (i + 2)) (xs (i + 3)) (xs (i + 4)) hN hn hT htr hh hH hL7 hB hF) ⟨rfl, rfl, Nat.le_of_ble_eq_true rfl, Nat.le_of_ble_eq_true rfl⟩ (Nat.le_of_ble_eq_true rfl) dL_law_647 (fun v1 I1 J1 h1 => ?_)
  obtain ⟨e1, e2, e3⟩ := id h1
  have f1 : scI I1 I := scI_O e2
  have g1 : scJ J1 J := scJ_P e3
  have hS1 := mS_sc hS f1
  obtain ⟨mN, mT, mM, mJn, mLt, mHd, mB, mO, mLo, mF⟩ := id hS1
  obtain ⟨-, -, -, -, -, -, -, -, -, -, -, -, -, -, -, -, -, -, qKd, qK, qBl⟩ := zP_sc P f1
  refine z_aload_n C dL_law_650 rfl 1 rfl ?_
  refine z_arg C hs (by omega) 3 0 rfl rfl 1 (by omega) (by decide) dL_law_651 dL_law_652 dL_law_653 dL_law_654 dL_law_655 ?_
  refine z_arg C hs (by omega) 3 0 rfl rfl 2 (by omega) (by decide) dL_law_656 dL_law_657 dL_law_658 dL_law_659 dL_law_660 ?_
  refine z_arg C hs (by omega) 3 0 rfl rfl 3 (by omega) (by decide) dL_law_661 dL_law_662 dL_law_663 dL_law_664 dL_law_665 ?_
  refine z_arg C hs (by omega) 3 0 rfl rfl 4 (by omega) (by decide) dL_law_666 dL_law_667 dL_law_668 dL_law_669 dL_law_670 ?_
  refine z_callVl C hm cl_L_78 cv_X8_again 82 (by decide) sh82 ⟨_, _, rfl⟩ [.int (xs (i + 1)), .int (xs (i + 2)), .int (xs (i + 3)), .int (xs (i + 4))] rfl (rest := [.long v1]) rfl (k_X8_again w _ _ n tr h A (I 6) (I 1) hd bu ho lo fr (xs (i + 1)) (xs (i + 2)) (xs (i + 3)) (xs (i + 4)) hn htr hh hd99 hS1) ⟨rfl, rfl, Nat.le_of_ble_eq_true rfl, Nat.le_of_ble_eq_true rfl⟩ (Nat.le_of_ble_eq_true rfl) dL_law_671 (fun v2 I2 J2 h2 => ?_)
  obtain ⟨w1, w2, w3⟩ := id h2
  have hR : zRel I2 J2 := zRel_sc (zRel_sc H f1 g1) (scI_H w2) (scJ_W w3)
  have hv : v1 = v2 := e1.trans w1.symm
  refine z_lcmp C dL_law_674 ?_
  refine z_if_eq (tgt := 1298) C dL_law_675 (by decide) (fun _ => kk _ _ hR) (fun c => absurd (lcmp_0 hv) c)
