/-! the law's cases -/
set_option maxRecDepth 100000 in
set_option maxHeartbeats 1000000 in
theorem lc_way {X : zX} {w : zW} {I : zI} {J : zJ} {b L i : Nat} {xs : Nat → Int32} (C : zOk X w cL_law RL room_1) (hm : zML X 4) (hs : zScr X b L xs) (hL : L ≤ 3072) (hi : i + 5 < L) (H : zRel I J) (kk : ∀ (K : zI) (M : zJ), zRel K M → Z X w K M 1298 [(3, .int (nI i)), (2, .ref (zad w 82)), (1, .ref (zad w 0)), (0, .ref b)] []) : Z X w I J 418 [(3, .int (nI i)), (2, .ref (zad w 82)), (1, .ref (zad w 0)), (0, .ref b)] [] := by
  obtain ⟨n, tr, h, bk, A, hd, kd, bu, fr, ho, lo, P⟩ := zRel_p H
  obtain ⟨hn, htr, hh, hbk, hN, hT, hH, hK, hL7, hd7, hd99, hKd, hB, hF, hO, hLo, hS, hDg, hKd8, hK8, hBl⟩ := id P
  refine z_aload_n C dL_law_418 rfl 2 rfl ?_
  refine z_arg C hs (by omega) 3 0 rfl rfl 1 (by omega) (by decide) dL_law_419 dL_law_420 dL_law_421 dL_law_422 dL_law_423 ?_
  refine z_arg C hs (by omega) 3 0 rfl rfl 2 (by omega) (by decide) dL_law_424 dL_law_425 dL_law_426 dL_law_427 dL_law_428 ?_
  refine z_callVi C hm cl_L_49 cv_X7_way 0 (by decide) sh0 ⟨_, _, rfl⟩ [.int (xs (i + 1)), .int (xs (i + 2))] rfl (rest := []) rfl (k_X7_way w _ _ n h A hd (xs (i + 1)) (xs (i + 2)) hN hn hh hH hL7 hd7 hd99) ⟨rfl, rfl, Nat.le_of_ble_eq_true rfl, Nat.le_of_ble_eq_true rfl⟩ (Nat.le_of_ble_eq_true rfl) dL_law_429 (fun v1 I1 J1 h1 => ?_)
  obtain ⟨e1, e2, e3⟩ := id h1
  have f1 : scI I1 I := scI_S e2
  have g1 : scJ J1 J := scJ_e e1
  have hS1 := mS_sc hS f1
  obtain ⟨mN, mT, mM, mJn, mLt, mHd, mB, mO, mLo, mF⟩ := id hS1
  obtain ⟨-, -, -, -, -, -, -, -, -, -, -, -, -, -, -, -, -, -, qKd, qK, qBl⟩ := zP_sc P f1
  refine z_aload_n C dL_law_432 rfl 1 rfl ?_
  refine z_arg C hs (by omega) 3 0 rfl rfl 1 (by omega) (by decide) dL_law_433 dL_law_434 dL_law_435 dL_law_436 dL_law_437 ?_
  refine z_arg C hs (by omega) 3 0 rfl rfl 2 (by omega) (by decide) dL_law_438 dL_law_439 dL_law_440 dL_law_441 dL_law_442 ?_
  refine z_callVi C hm cl_L_52 cv_X8_way 82 (by decide) sh82 ⟨_, _, rfl⟩ [.int (xs (i + 1)), .int (xs (i + 2))] rfl (rest := [.int v1]) rfl (k_X8_way w _ _ n h A (I 6) hd (xs (i + 1)) (xs (i + 2)) mN hn hh mM mJn hDg mHd hd99) ⟨rfl, rfl, Nat.le_of_ble_eq_true rfl, Nat.le_of_ble_eq_true rfl⟩ (Nat.le_of_ble_eq_true rfl) dL_law_443 (fun v2 I2 J2 h2 => ?_)
  obtain ⟨w1, w2, w3⟩ := id h2
  have hR : zRel I2 J2 := zRel_sc (zRel_sc H f1 g1) (scI_M w2) (scJ_e w1)
  have hv : v1 = v2 := wayV_u hn (aSteps_le A) (show wayV n (aSteps A) (zGt (I 6) A) (zT0 hd) (xs (i + 1)) (xs (i + 2)) v1 from e3) (show wayV n (aSteps A) (zGt (I 6) A) (zT0 hd) (xs (i + 1)) (xs (i + 2)) v2 from w3)
  refine z_icmp_eq (tgt := 1298) C dL_law_446 (by decide) (fun _ => kk _ _ hR) (fun c => absurd hv c)
set_option maxRecDepth 100000 in
set_option maxHeartbeats 1000000 in
theorem lc_silent {X : zX} {w : zW} {I : zI} {J : zJ} {b L i : Nat} {xs : Nat → Int32} (C : zOk X w cL_law RL room_1) (hm : zML X 4) (hs : zScr X b L xs) (hL : L ≤ 3072) (hi : i + 5 < L) (H : zRel I J) (kk : ∀ (K : zI) (M : zJ), zRel K M → Z X w K M 1298 [(3, .int (nI i)), (2, .ref (zad w 82)), (1, .ref (zad w 0)), (0, .ref b)] []) : Z X w I J 451 [(3, .int (nI i)), (2, .ref (zad w 82)), (1, .ref (zad w 0)), (0, .ref b)] [] := by
  obtain ⟨n, tr, h, bk, A, hd, kd, bu, fr, ho, lo, P⟩ := zRel_p H
  obtain ⟨hn, htr, hh, hbk, hN, hT, hH, hK, hL7, hd7, hd99, hKd, hB, hF, hO, hLo, hS, hDg, hKd8, hK8, hBl⟩ := id P
  refine z_aload_n C dL_law_451 rfl 2 rfl ?_
  refine z_arg C hs (by omega) 3 0 rfl rfl 1 (by omega) (by decide) dL_law_452 dL_law_453 dL_law_454 dL_law_455 dL_law_456 ?_
  refine z_arg C hs (by omega) 3 0 rfl rfl 2 (by omega) (by decide) dL_law_457 dL_law_458 dL_law_459 dL_law_460 dL_law_461 ?_
  refine z_callVi C hm cl_L_53 cv_X7_silent 0 (by decide) sh0 ⟨_, _, rfl⟩ [.int (xs (i + 1)), .int (xs (i + 2))] rfl (rest := []) rfl (k_X7_silent w _ _ n h A hd (xs (i + 1)) (xs (i + 2)) hN hn hh hH hL7 hd7 hd99) ⟨rfl, rfl, Nat.le_of_ble_eq_true rfl, Nat.le_of_ble_eq_true rfl⟩ (Nat.le_of_ble_eq_true rfl) dL_law_462 (fun v1 I1 J1 h1 => ?_)
  obtain ⟨e1, e2, e3⟩ := id h1
  have f1 : scI I1 I := scI_S e2
  have g1 : scJ J1 J := scJ_e e1
  have hS1 := mS_sc hS f1
  obtain ⟨mN, mT, mM, mJn, mLt, mHd, mB, mO, mLo, mF⟩ := id hS1
  obtain ⟨-, -, -, -, -, -, -, -, -, -, -, -, -, -, -, -, -, -, qKd, qK, qBl⟩ := zP_sc P f1
  refine z_aload_n C dL_law_465 rfl 1 rfl ?_
  refine z_arg C hs (by omega) 3 0 rfl rfl 1 (by omega) (by decide) dL_law_466 dL_law_467 dL_law_468 dL_law_469 dL_law_470 ?_
  refine z_arg C hs (by omega) 3 0 rfl rfl 2 (by omega) (by decide) dL_law_471 dL_law_472 dL_law_473 dL_law_474 dL_law_475 ?_
  refine z_callVi C hm cl_L_56 cv_X8_silent 82 (by decide) sh82 ⟨_, _, rfl⟩ [.int (xs (i + 1)), .int (xs (i + 2))] rfl (rest := [.int v1]) rfl (k_X8_silent w _ _ n h A (I 6) hd (xs (i + 1)) (xs (i + 2)) mN hn hh mM mJn hDg mHd hd99) ⟨rfl, rfl, Nat.le_of_ble_eq_true rfl, Nat.le_of_ble_eq_true rfl⟩ (Nat.le_of_ble_eq_true rfl) dL_law_476 (fun v2 I2 J2 h2 => ?_)
  obtain ⟨w1, w2, w3⟩ := id h2
  have hR : zRel I2 J2 := zRel_sc (zRel_sc H f1 g1) (scI_M w2) (scJ_e w1)
  have hv : v1 = v2 := silV_u hn (show silV n hd (fun a r s => zb s a = false ∧ r < ern s n (I 6) A hd a) (xs (i + 1)) (xs (i + 2)) v1 from e3) (show silV n hd (fun a r s => zb s a = false ∧ r < ern s n (I 6) A hd a) (xs (i + 1)) (xs (i + 2)) v2 from w3)
  refine z_icmp_eq (tgt := 1298) C dL_law_479 (by decide) (fun _ => kk _ _ hR) (fun c => absurd hv c)
set_option maxRecDepth 100000 in
set_option maxHeartbeats 1000000 in
theorem lc_oddest {X : zX} {w : zW} {I : zI} {J : zJ} {b L i : Nat} {xs : Nat → Int32} (C : zOk X w cL_law RL room_1) (hm : zML X 4) (hs : zScr X b L xs) (hL : L ≤ 3072) (hi : i + 5 < L) (H : zRel I J) (kk : ∀ (K : zI) (M : zJ), zRel K M → Z X w K M 1298 [(3, .int (nI i)), (2, .ref (zad w 82)), (1, .ref (zad w 0)), (0, .ref b)] []) : Z X w I J 680 [(3, .int (nI i)), (2, .ref (zad w 82)), (1, .ref (zad w 0)), (0, .ref b)] [] := by
  obtain ⟨n, tr, h, bk, A, hd, kd, bu, fr, ho, lo, P⟩ := zRel_p H
  obtain ⟨hn, htr, hh, hbk, hN, hT, hH, hK, hL7, hd7, hd99, hKd, hB, hF, hO, hLo, hS, hDg, hKd8, hK8, hBl⟩ := id P
  refine z_aload_n C dL_law_680 rfl 2 rfl ?_
  refine z_arg C hs (by omega) 3 0 rfl rfl 1 (by omega) (by decide) dL_law_681 dL_law_682 dL_law_683 dL_law_684 dL_law_685 ?_
  refine z_callVi C hm cl_L_79 cv_X7_oddest 0 (by decide) sh0 ⟨_, _, rfl⟩ [.int (xs (i + 1))] rfl (rest := []) rfl (k_X7_oddest w _ _ n tr h A bu fr (xs (i + 1)) hN hn hT htr hh hH hL7 hB hF) ⟨rfl, rfl, Nat.le_of_ble_eq_true rfl, Nat.le_of_ble_eq_true rfl⟩ (Nat.le_of_ble_eq_true rfl) dL_law_686 (fun v1 I1 J1 h1 => ?_)
  obtain ⟨e1, e2, e3⟩ := id h1
  have f1 : scI I1 I := scI_O e1
  have g1 : scJ J1 J := scJ_P e2
  have hS1 := mS_sc hS f1
  obtain ⟨mN, mT, mM, mJn, mLt, mHd, mB, mO, mLo, mF⟩ := id hS1
  obtain ⟨-, -, -, -, -, -, -, -, -, -, -, -, -, -, -, -, -, -, qKd, qK, qBl⟩ := zP_sc P f1
  refine z_aload_n C dL_law_689 rfl 1 rfl ?_
  refine z_arg C hs (by omega) 3 0 rfl rfl 1 (by omega) (by decide) dL_law_690 dL_law_691 dL_law_692 dL_law_693 dL_law_694 ?_
  refine z_callVi C hm cl_L_82 cv_X8_oddest 82 (by decide) sh82 ⟨_, _, rfl⟩ [.int (xs (i + 1))] rfl (rest := [.int v1]) rfl (k_X8_oddest w _ _ n tr h A (I 6) (I 1) hd bu ho lo fr (xs (i + 1)) hn htr hh hd99 hS1) ⟨rfl, rfl, Nat.le_of_ble_eq_true rfl, Nat.le_of_ble_eq_true rfl⟩ (Nat.le_of_ble_eq_true rfl) dL_law_695 (fun v2 I2 J2 h2 => ?_)
  obtain ⟨w1, w2, w3⟩ := id h2
  have hR : zRel I2 J2 := zRel_sc (zRel_sc H f1 g1) (scI_H w1) (scJ_W w2)
  have hv : v1 = v2 := bestV_u (n := n) (m := 10) (Q := (fun k fb => ∀ c, c < n → (zAb (fun f => aHab (nI fb) (I 1 fb) (nI f) A) (zDy bu fr fb tr) k) ≤ (zAb (fun f => aHab (nI c) (I 1 c) (nI f) A) (zDy bu fr c tr) k) ∧ (c < fb → (zAb (fun f => aHab (nI fb) (I 1 fb) (nI f) A) (zDy bu fr fb tr) k) < (zAb (fun f => aHab (nI c) (I 1 c) (nI f) A) (zDy bu fr c tr) k)))) (by decide) (fun k f g hf hg a c => least_u (F := fun b => zAb (fun f => aHab (nI b) (I 1 b) (nI f) A) (zDy bu fr b tr) k) hf hg a c) e3 w3
  refine z_icmp_eq (tgt := 1298) C dL_law_698 (by decide) (fun _ => kk _ _ hR) (fun c => absurd hv c)
set_option maxRecDepth 100000 in
set_option maxHeartbeats 1000000 in
theorem lc_ask {X : zX} {w : zW} {I : zI} {J : zJ} {b L i : Nat} {xs : Nat → Int32} (C : zOk X w cL_law RL room_1) (hm : zML X 4) (hs : zScr X b L xs) (hL : L ≤ 3072) (hi : i + 5 < L) (H : zRel I J) (kk : ∀ (K : zI) (M : zJ), zRel K M → Z X w K M 1298 [(3, .int (nI i)), (2, .ref (zad w 82)), (1, .ref (zad w 0)), (0, .ref b)] []) : Z X w I J 802 [(3, .int (nI i)), (2, .ref (zad w 82)), (1, .ref (zad w 0)), (0, .ref b)] [] := by
  obtain ⟨n, tr, h, bk, A, hd, kd, bu, fr, ho, lo, P⟩ := zRel_p H
  obtain ⟨hn, htr, hh, hbk, hN, hT, hH, hK, hL7, hd7, hd99, hKd, hB, hF, hO, hLo, hS, hDg, hKd8, hK8, hBl⟩ := id P
  refine z_aload_n C dL_law_802 rfl 2 rfl ?_
  refine z_arg C hs (by omega) 3 0 rfl rfl 1 (by omega) (by decide) dL_law_803 dL_law_804 dL_law_805 dL_law_806 dL_law_807 ?_
  refine z_callVi C hm cl_L_95 cv_X7_ask 0 (by decide) sh0 ⟨_, _, rfl⟩ [.int (xs (i + 1))] rfl (rest := []) rfl (k_X7_ask w _ _ n h A hd (xs (i + 1)) hN hn hh hH hL7 hd7 hd99) ⟨rfl, rfl, Nat.le_of_ble_eq_true rfl, Nat.le_of_ble_eq_true rfl⟩ (Nat.le_of_ble_eq_true rfl) dL_law_808 (fun v1 I1 J1 h1 => ?_)
  obtain ⟨e1, e2, e3⟩ := id h1
  have f1 : scI I1 I := scI_S e2
  have g1 : scJ J1 J := scJ_e e1
  have hS1 := mS_sc hS f1
  obtain ⟨mN, mT, mM, mJn, mLt, mHd, mB, mO, mLo, mF⟩ := id hS1
  obtain ⟨-, -, -, -, -, -, -, -, -, -, -, -, -, -, -, -, -, -, qKd, qK, qBl⟩ := zP_sc P f1
  refine z_aload_n C dL_law_811 rfl 1 rfl ?_
  refine z_arg C hs (by omega) 3 0 rfl rfl 1 (by omega) (by decide) dL_law_812 dL_law_813 dL_law_814 dL_law_815 dL_law_816 ?_
  refine z_callVi C hm cl_L_98 cv_X8_ask_ 82 (by decide) sh82 ⟨_, _, rfl⟩ [.int (xs (i + 1))] rfl (rest := [.int v1]) rfl (k_X8_ask_ w _ _ n tr h A (I 6) (I 1) hd bu ho lo fr (xs (i + 1)) hn htr hh hd99 hS1 hDg) ⟨rfl, rfl, Nat.le_of_ble_eq_true rfl, Nat.le_of_ble_eq_true rfl⟩ (Nat.le_of_ble_eq_true rfl) dL_law_817 (fun v2 I2 J2 h2 => ?_)
  obtain ⟨w1, w2, w3⟩ := id h2
  have hR : zRel I2 J2 := zRel_sc (zRel_sc H f1 g1) (scI_M w2) (scJ_e w1)
  have hv : v1 = v2 := bestV_u (n := n) (m := 100) (Q := (fun r fb => ∀ c, c < n → zLo n (fun m => ern m n (I 6) A hd) r c ≤ zLo n (fun m => ern m n (I 6) A hd) r fb ∧ (c < fb → zLo n (fun m => ern m n (I 6) A hd) r c < zLo n (fun m => ern m n (I 6) A hd) r fb))) (by decide) (fun k f g hf hg a c => most_u (F := fun b => zLo n (fun m => ern m n (I 6) A hd) k b) hf hg a c) e3 w3
  refine z_icmp_eq (tgt := 1298) C dL_law_820 (by decide) (fun _ => kk _ _ hR) (fun c => absurd hv c)
set_option maxRecDepth 100000 in
set_option maxHeartbeats 1000000 in
theorem lc_of {X : zX} {w : zW} {I : zI} {J : zJ} {b L i : Nat} {xs : Nat → Int32} (C : zOk X w cL_law RL room_1) (hm : zML X 4) (hs : zScr X b L xs) (hL : L ≤ 3072) (hi : i + 5 < L) (H : zRel I J) (kk : ∀ (K : zI) (M : zJ), zRel K M → Z X w K M 1298 [(3, .int (nI i)), (2, .ref (zad w 82)), (1, .ref (zad w 0)), (0, .ref b)] []) : Z X w I J 547 [(3, .int (nI i)), (2, .ref (zad w 82)), (1, .ref (zad w 0)), (0, .ref b)] [] := by
  obtain ⟨n, tr, h, bk, A, hd, kd, bu, fr, ho, lo, P⟩ := zRel_p H
  obtain ⟨hn, htr, hh, hbk, hN, hT, hH, hK, hL7, hd7, hd99, hKd, hB, hF, hO, hLo, hS, hDg, hKd8, hK8, hBl⟩ := id P
  refine z_aload_n C dL_law_547 rfl 2 rfl ?_
  refine z_arg C hs (by omega) 3 0 rfl rfl 1 (by omega) (by decide) dL_law_548 dL_law_549 dL_law_550 dL_law_551 dL_law_552 ?_
  refine z_arg C hs (by omega) 3 0 rfl rfl 2 (by omega) (by decide) dL_law_553 dL_law_554 dL_law_555 dL_law_556 dL_law_557 ?_
  refine z_callVi C hm cl_L_62 cv_X7_of 0 (by decide) sh0 ⟨_, _, rfl⟩ [.int (xs (i + 1)), .int (xs (i + 2))] rfl (rest := []) rfl (k_X7_of w _ _ n tr h A hd bu ho lo (xs (i + 1)) (xs (i + 2)) hN hn hT htr hh hH hL7 hd7 hd99 hB hO hLo) ⟨rfl, rfl, Nat.le_of_ble_eq_true rfl, Nat.le_of_ble_eq_true rfl⟩ (Nat.le_of_ble_eq_true rfl) dL_law_558 (fun v1 I1 J1 h1 => ?_)
  obtain ⟨e1, e2, e3⟩ := id h1
  have f1 : scI I1 I := scI_S e3
  have g1 : scJ J1 J := scJ_e e2
  have hS1 := mS_sc hS f1
  obtain ⟨mN, mT, mM, mJn, mLt, mHd, mB, mO, mLo, mF⟩ := id hS1
  obtain ⟨-, -, -, -, -, -, -, -, -, -, -, -, -, -, -, -, -, -, qKd, qK, qBl⟩ := zP_sc P f1
  refine z_aload_n C dL_law_561 rfl 1 rfl ?_
  refine z_arg C hs (by omega) 3 0 rfl rfl 1 (by omega) (by decide) dL_law_562 dL_law_563 dL_law_564 dL_law_565 dL_law_566 ?_
  refine z_arg C hs (by omega) 3 0 rfl rfl 2 (by omega) (by decide) dL_law_567 dL_law_568 dL_law_569 dL_law_570 dL_law_571 ?_
  refine z_callVi C hm cl_L_65 cv_X8_of 82 (by decide) sh82 ⟨_, _, rfl⟩ [.int (xs (i + 1)), .int (xs (i + 2))] rfl (rest := [.int v1]) rfl (k_X8_of w _ _ n tr h A (I 6) (I 1) hd bu ho lo fr (xs (i + 1)) (xs (i + 2)) hn htr hh hd99 hS1 hDg) ⟨rfl, rfl, Nat.le_of_ble_eq_true rfl, Nat.le_of_ble_eq_true rfl⟩ (Nat.le_of_ble_eq_true rfl) dL_law_572 (fun v2 I2 J2 h2 => ?_)
  obtain ⟨w1, w2, w3⟩ := id h2
  have hR : zRel I2 J2 := zRel_sc (zRel_sc H f1 g1) (scI_M w3) (scJ_e w2)
  have hv : v1 = v2 := by
    rw [e1, w1]
    by_cases p : zin (xs (i + 1)) tr
    · obtain ⟨t, ht, hx⟩ := id p
      rw [cif_t p, hx, zn_n (by omega)]
      by_cases q : zin (xs (i + 2)) 6
      · rw [cif_t ⟨⟨t, ht, rfl⟩, q⟩, (hKd t ht).1, (hB t ht).1, (hF t ht).1, (hO t ht).1, (hLo t ht).1, (qKd t ht).1, (mB t ht).1, (mF t ht).1, (mO t ht).1, (mLo t ht).1, xp_ks ht hd7 hd99 hn hB hF]
      · rw [cif_f (fun z => q z.2), zOf_no q]
    · rw [cif_f p, cif_f (fun z => p z.1)]
  refine z_icmp_eq (tgt := 1298) C dL_law_575 (by decide) (fun _ => kk _ _ hR) (fun c => absurd hv c)
set_option maxRecDepth 100000 in
set_option maxHeartbeats 1000000 in
theorem lc_sure {X : zX} {w : zW} {I : zI} {J : zJ} {b L i : Nat} {xs : Nat → Int32} (C : zOk X w cL_law RL room_1) (hm : zML X 4) (hs : zScr X b L xs) (hL : L ≤ 3072) (hi : i + 5 < L) (H : zRel I J) (kk : ∀ (K : zI) (M : zJ), zRel K M → Z X w K M 1298 [(3, .int (nI i)), (2, .ref (zad w 82)), (1, .ref (zad w 0)), (0, .ref b)] []) : Z X w I J 580 [(3, .int (nI i)), (2, .ref (zad w 82)), (1, .ref (zad w 0)), (0, .ref b)] [] := by
  obtain ⟨n, tr, h, bk, A, hd, kd, bu, fr, ho, lo, P⟩ := zRel_p H
  obtain ⟨hn, htr, hh, hbk, hN, hT, hH, hK, hL7, hd7, hd99, hKd, hB, hF, hO, hLo, hS, hDg, hKd8, hK8, hBl⟩ := id P
  refine z_aload_n C dL_law_580 rfl 2 rfl ?_
  refine z_arg C hs (by omega) 3 0 rfl rfl 1 (by omega) (by decide) dL_law_581 dL_law_582 dL_law_583 dL_law_584 dL_law_585 ?_
  refine z_callVi C hm cl_L_66 cv_X7_sure 0 (by decide) sh0 ⟨_, _, rfl⟩ [.int (xs (i + 1))] rfl (rest := []) rfl (k_X7_sure w _ _ n tr h A hd bu ho lo (xs (i + 1)) hN hn hT htr hh hH hL7 hd7 hd99 hB hO hLo) ⟨rfl, rfl, Nat.le_of_ble_eq_true rfl, Nat.le_of_ble_eq_true rfl⟩ (Nat.le_of_ble_eq_true rfl) dL_law_586 (fun v1 I1 J1 h1 => ?_)
  obtain ⟨e1, e2, e3⟩ := id h1
  have f1 : scI I1 I := scI_S e3
  have g1 : scJ J1 J := scJ_e e2
  have hS1 := mS_sc hS f1
  obtain ⟨mN, mT, mM, mJn, mLt, mHd, mB, mO, mLo, mF⟩ := id hS1
  obtain ⟨-, -, -, -, -, -, -, -, -, -, -, -, -, -, -, -, -, -, qKd, qK, qBl⟩ := zP_sc P f1
  refine z_aload_n C dL_law_589 rfl 1 rfl ?_
  refine z_arg C hs (by omega) 3 0 rfl rfl 1 (by omega) (by decide) dL_law_590 dL_law_591 dL_law_592 dL_law_593 dL_law_594 ?_
  refine z_callVi C hm cl_L_69 cv_X8_sure 82 (by decide) sh82 ⟨_, _, rfl⟩ [.int (xs (i + 1))] rfl (rest := [.int v1]) rfl (k_X8_sure w _ _ n tr h A (I 6) (I 1) hd bu ho lo fr kd (xs (i + 1)) hn htr hh hd99 hS1 hDg qKd) ⟨rfl, rfl, Nat.le_of_ble_eq_true rfl, Nat.le_of_ble_eq_true rfl⟩ (Nat.le_of_ble_eq_true rfl) dL_law_595 (fun v2 I2 J2 h2 => ?_)
  obtain ⟨w1, w2, w3⟩ := id h2
  have hR : zRel I2 J2 := zRel_sc (zRel_sc H f1 g1) (scI_M w3) (scJ_e w2)
  have hv : v1 = v2 := by
    rw [e1, w1]
    have two : (xs (i + 1) = 0 ∨ xs (i + 1) = 1) ↔ zin (xs (i + 1)) 2 := ⟨fun z => z.elim (fun z => ⟨0, by decide, z⟩) (fun z => ⟨1, by decide, z⟩), fun z => by
      by_cases q : xs (i + 1) = 0
      · exact Or.inl q
      · exact Or.inr (zin_21 z q)⟩
    by_cases p : zin (xs (i + 1)) 2
    · rw [cif_t p, cif_t (two.mpr p)]
      refine congrArg nI (zset_ext fun t ht => pB_c ?_)
      rw [xp_ks ht hd7 hd99 hn hB hF]
      by_cases q : xs (i + 1) = 0
      · rw [pcif_t q, pcif_t q]
        unfold zKs
        rw [xK_V]
        exact xK_14 _ _ _ _ _ _
      · rw [pcif_f q, pcif_f q, (hKd t ht).1]
        have hlt : zset (zKs A tr (I 1) hd bu ho lo fr (ern 0 n (I 6) A hd) t) 7 < 2 ^ 31 := Nat.lt_of_lt_of_le (zset_lt 7) (by decide)
        have hk := (hKd t ht).2
        constructor
        · intro z
          exact zb_0 hlt (by omega) z
        · intro z
          refine Classical.byContradiction fun c => ?_
          rw [zb_1 hlt (by omega) c] at z
          exact Bool.noConfusion z
    · rw [cif_f p, cif_f (fun z => p (two.mp z))]
  refine z_icmp_eq (tgt := 1298) C dL_law_598 (by decide) (fun _ => kk _ _ hR) (fun c => absurd hv c)
set_option maxRecDepth 100000 in
set_option maxHeartbeats 1000000 in
theorem lc_fills {X : zX} {w : zW} {I : zI} {J : zJ} {b L i : Nat} {xs : Nat → Int32} (C : zOk X w cL_law RL room_1) (hm : zML X 4) (hs : zScr X b L xs) (hL : L ≤ 3072) (hi : i + 5 < L) (H : zRel I J) (kk : ∀ (K : zI) (M : zJ), zRel K M → Z X w K M 1298 [(3, .int (nI i)), (2, .ref (zad w 82)), (1, .ref (zad w 0)), (0, .ref b)] []) : Z X w I J 848 [(3, .int (nI i)), (2, .ref (zad w 82)), (1, .ref (zad w 0)), (0, .ref b)] [] := by
  obtain ⟨n, tr, h, bk, A, hd, kd, bu, fr, ho, lo, P⟩ := zRel_p H
  obtain ⟨hn, htr, hh, hbk, hN, hT, hH, hK, hL7, hd7, hd99, hKd, hB, hF, hO, hLo, hS, hDg, hKd8, hK8, hBl⟩ := id P
  refine z_aload_n C dL_law_848 rfl 2 rfl ?_
  refine z_arg C hs (by omega) 3 0 rfl rfl 1 (by omega) (by decide) dL_law_849 dL_law_850 dL_law_851 dL_law_852 dL_law_853 ?_
  refine z_callVi C hm cl_L_103 cv_X7_fills 0 (by decide) sh0 ⟨_, _, rfl⟩ [.int (xs (i + 1))] rfl (rest := []) rfl (k_X7_fills w _ _ n bk (xs (i + 1)) hN hn hK hbk) ⟨rfl, rfl, Nat.le_of_ble_eq_true rfl, Nat.le_of_ble_eq_true rfl⟩ (Nat.le_of_ble_eq_true rfl) dL_law_854 (fun v1 I1 J1 h1 => ?_)
  obtain ⟨e1, e2, e3⟩ := id h1
  have f1 : scI I1 I := scI_e e2
  have g1 : scJ J1 J := scJ_e e3
  have hS1 := mS_sc hS f1
  obtain ⟨mN, mT, mM, mJn, mLt, mHd, mB, mO, mLo, mF⟩ := id hS1
  obtain ⟨-, -, -, -, -, -, -, -, -, -, -, -, -, -, -, -, -, -, qKd, qK, qBl⟩ := zP_sc P f1
  have i13 : ∀ k, k < bk → I 13 k = I1 106 k := fun k hk => by rw [e2]; exact hBl k hk
  refine z_aload_n C dL_law_857 rfl 1 rfl ?_
  refine z_arg C hs (by omega) 3 0 rfl rfl 1 (by omega) (by decide) dL_law_858 dL_law_859 dL_law_860 dL_law_861 dL_law_862 ?_
  refine z_callVi C hm cl_L_106 cv_X8_fills 82 (by decide) sh82 ⟨_, _, rfl⟩ [.int (xs (i + 1))] rfl (rest := [.int v1]) rfl (k_X8_fills w _ _ n bk (I 1) (I1 106) (xs (i + 1)) mN hn qK hbk mLt (fun _ _ => rfl)) ⟨rfl, rfl, Nat.le_of_ble_eq_true rfl, Nat.le_of_ble_eq_true rfl⟩ (Nat.le_of_ble_eq_true rfl) dL_law_863 (fun v2 I2 J2 h2 => ?_)
  obtain ⟨w1, w2, w3⟩ := id h2
  have hR : zRel I2 J2 := zRel_sc (zRel_sc H f1 g1) (scI_F w2) (scJ_e w3)
  have hv : v1 = v2 := by
    rw [e1, w1]
    by_cases p : xs (i + 1) = -1
    · rw [cif_t p, cif_t p, zWf_g bk i13]
    · rw [cif_f p, cif_f p]
      by_cases q : zin (xs (i + 1)) bk
      · obtain ⟨t, ht, hx⟩ := id q
        rw [cif_t q, cif_t q, hx, zn_n (by omega), i13 t ht]
      · rw [cif_f q, cif_f q]
  refine z_icmp_eq (tgt := 1298) C dL_law_866 (by decide) (fun _ => kk _ _ hR) (fun c => absurd hv c)
set_option maxRecDepth 100000 in
set_option maxHeartbeats 1000000 in
theorem lc_filled {X : zX} {w : zW} {I : zI} {J : zJ} {b L i : Nat} {xs : Nat → Int32} (C : zOk X w cL_law RL room_1) (hm : zML X 4) (hs : zScr X b L xs) (hL : L ≤ 3072) (hi : i + 5 < L) (H : zRel I J) (kk : ∀ (K : zI) (M : zJ), zRel K M → Z X w K M 1298 [(3, .int (nI i)), (2, .ref (zad w 82)), (1, .ref (zad w 0)), (0, .ref b)] []) : Z X w I J 871 [(3, .int (nI i)), (2, .ref (zad w 82)), (1, .ref (zad w 0)), (0, .ref b)] [] := by
  obtain ⟨n, tr, h, bk, A, hd, kd, bu, fr, ho, lo, P⟩ := zRel_p H
  obtain ⟨hn, htr, hh, hbk, hN, hT, hH, hK, hL7, hd7, hd99, hKd, hB, hF, hO, hLo, hS, hDg, hKd8, hK8, hBl⟩ := id P
  refine z_aload_n C dL_law_871 rfl 2 rfl ?_
  refine z_arg C hs (by omega) 3 0 rfl rfl 1 (by omega) (by decide) dL_law_872 dL_law_873 dL_law_874 dL_law_875 dL_law_876 ?_
  refine z_callVi C hm cl_L_107 cv_X7_filled 0 (by decide) sh0 ⟨_, _, rfl⟩ [.int (xs (i + 1))] rfl (rest := []) rfl (k_X7_filled w _ _ n bk (xs (i + 1)) hN hn hK hbk) ⟨rfl, rfl, Nat.le_of_ble_eq_true rfl, Nat.le_of_ble_eq_true rfl⟩ (Nat.le_of_ble_eq_true rfl) dL_law_877 (fun v1 I1 J1 h1 => ?_)
  obtain ⟨e1, e2, e3⟩ := id h1
  have f1 : scI I1 I := scI_e e2
  have g1 : scJ J1 J := scJ_e e3
  have hS1 := mS_sc hS f1
  obtain ⟨mN, mT, mM, mJn, mLt, mHd, mB, mO, mLo, mF⟩ := id hS1
  obtain ⟨-, -, -, -, -, -, -, -, -, -, -, -, -, -, -, -, -, -, qKd, qK, qBl⟩ := zP_sc P f1
  have i13 : ∀ k, k < bk → I 13 k = I1 106 k := fun k hk => by rw [e2]; exact hBl k hk
  refine z_aload_n C dL_law_880 rfl 1 rfl ?_
  refine z_arg C hs (by omega) 3 0 rfl rfl 1 (by omega) (by decide) dL_law_881 dL_law_882 dL_law_883 dL_law_884 dL_law_885 ?_
  refine z_callVi C hm cl_L_110 cv_X8_filled 82 (by decide) sh82 ⟨_, _, rfl⟩ [.int (xs (i + 1))] rfl (rest := [.int v1]) rfl (k_X8_filled w _ _ n bk (I 1) (I1 106) (xs (i + 1)) mN hn qK hbk mLt (fun _ _ => rfl)) ⟨rfl, rfl, Nat.le_of_ble_eq_true rfl, Nat.le_of_ble_eq_true rfl⟩ (Nat.le_of_ble_eq_true rfl) dL_law_886 (fun v2 I2 J2 h2 => ?_)
  obtain ⟨w1, w2, w3⟩ := id h2
  have hR : zRel I2 J2 := zRel_sc (zRel_sc H f1 g1) (scI_F w2) (scJ_e w3)
  have hv : v1 = v2 := by
    rcases e1 with ⟨p, e⟩ | ⟨t, ht, hx, q1⟩
    · rcases w1 with ⟨_, e'⟩ | ⟨t, ht, hx, _⟩
      · rw [e, e']
      · exact absurd ⟨t, ht, hx⟩ p
    · rcases w1 with ⟨p, _⟩ | ⟨t', ht', hx', q2⟩
      · exact absurd ⟨t, ht, hx⟩ p
      · have et : t = t' := nI_one (M := bk) (by omega) ht ht' hx hx'
        rw [← et, ← zWf_g bk i13, ← i13 t ht] at q2
        rcases q1 with ⟨p1, y1⟩ | ⟨⟨p1, p2⟩, q1⟩
        · rcases q2 with ⟨_, y2⟩ | ⟨z2, ⟨p3, _⟩ | ⟨_, y2⟩⟩
          · rw [y1, y2]
          · exact absurd ⟨p3, z2⟩ p1
          · rw [y1, y2]
        · rcases q2 with ⟨z, _⟩ | ⟨_, ⟨_, a', a1, a2, a3, a4⟩ | ⟨z, _⟩⟩
          · exact absurd z p2
          · rcases q1 with ⟨a, b1, b2, b3, b4⟩ | ⟨b1, _⟩
            · rcases Nat.lt_trichotomy a a' with z | z | z
              · rw [a4 a z] at b2; exact Bool.noConfusion b2
              · rw [b3, a3, z]
              · rw [b4 a' z] at a2; exact Bool.noConfusion a2
            · rw [b1 a' a1] at a2; exact Bool.noConfusion a2
          · exact absurd p1 z
  refine z_icmp_eq (tgt := 1298) C dL_law_889 (by decide) (fun _ => kk _ _ hR) (fun c => absurd hv c)
