/-! the law's cases: acts -/
theorem zRel_ac {I K : zI} {J : zJ} {bg : Nat} (H : zRel I J) (fr : ∀ k, k ≠ 32 → k ≠ 33 → k ≠ 82 → k ≠ 118 → K k = I k) (f82 : ∀ j, j ≠ 52 → K 82 j = I 82 j) (hb : bg ≤ 10000) (h1 : K 32 1 = nI bg) (h2 : K 82 52 = nI bg) (h3 : K 33 = K 118) : zRel K J := by
  obtain ⟨n, lc, hn, a1, a2, a3, a4, a5, a6, a7, a8, a9⟩ := H
  have g : ∀ k, k ≠ 32 ∧ k ≠ 33 ∧ k ≠ 82 ∧ k ≠ 118 → K k = I k := fun k q => fr k q.1 q.2.1 q.2.2.1 q.2.2.2
  refine ⟨n, lc, hn, by rw [g 0 (by decide)]; exact a1, by rw [f82 0 (by decide)]; exact a2, fun k hk => by rw [g 1 (by decide), g 83 (by decide)]; exact a3 k hk, rLaws_c (I := I) (by rw [g 0 (by decide)]) (f82 4 (by decide)) (fun k hk => g k (by omega)) a4, rText_c (I := I) (by rw [g 2 (by decide)]) (f82 6 (by decide)) (g 3 (by decide)) (g 86 (by decide)) a5, rTapes_c (I := I) (fun k hk => g k (by omega)) (fun _ _ => rfl) a6, ⟨bg, hb, h1, h2, h3⟩, rW_r (I := I) (fun k q1 q2 => g k (by omega)) (f82 5 (by decide)) (f82 27 (by decide)) (f82 35 (by decide)) (g 84 (by decide)) (g 85 (by decide)) (fun k q1 q2 => g k (by omega)) (g 106 (by decide)) a8, ?_⟩
  rcases a9 with ⟨b1, b2⟩ | ⟨b1, b2, b3⟩
  · exact Or.inl ⟨by rw [g 0 (by decide)]; exact b1, by rw [f82 40 (by decide)]; exact b2⟩
  · exact Or.inr ⟨by rw [g 0 (by decide)]; exact b1, by rw [f82 40 (by decide)]; exact b2, rW_r (I := I) (fun k q1 q2 => g k (by omega)) (f82 41 (by decide)) (f82 42 (by decide)) (f82 43 (by decide)) (g 110 (by decide)) (g 111 (by decide)) (fun k q1 q2 => g k (by omega)) (g 117 (by decide)) b3⟩
theorem zRel_bo {I : zI} {J : zJ} (H : zRel I J) : I 33 = I 118 := by
  obtain ⟨n, lc, hn, a1, a2, a3, a4, a5, a6, ⟨bg, b1, b2, b3, b4⟩, a8, a9⟩ := H
  exact b4
set_option maxRecDepth 100000 in
set_option maxHeartbeats 1000000 in
theorem lc_act {X : zX} {w : zW} {I : zI} {J : zJ} {b L i : Nat} {xs : Nat → Int32} (C : zOk X w cL_law RL room_1) (hm : zML X 4) (hs : zScr X b L xs) (hL : L ≤ 3072) (hi : i + 5 < L) (H : zRel I J) (kk : ∀ (K : zI) (M : zJ), zRel K M → Z X w K M 1298 [(3, .int (nI i)), (2, .ref (zad w 82)), (1, .ref (zad w 0)), (0, .ref b)] []) : Z X w I J 963 [(3, .int (nI i)), (2, .ref (zad w 82)), (1, .ref (zad w 0)), (0, .ref b)] [] := by
  obtain ⟨n, tr, h, bk, A, hd, kd, bu, fr, ho, lo, P⟩ := zRel_p H
  obtain ⟨hn, htr, hh, hbk, hN, hT, hH, hK, hL7, hd7, hd99, hKd, hB, hF, hO, hLo, hS, hDg, hKd8, hK8, hBl⟩ := id P
  refine z_aload_n C dL_law_963 rfl 2 rfl ?_
  refine z_arg C hs (by omega) 3 0 rfl rfl 1 (by omega) (by decide) dL_law_964 dL_law_965 dL_law_966 dL_law_967 dL_law_968 ?_
  refine z_arg C hs (by omega) 3 0 rfl rfl 2 (by omega) (by decide) dL_law_969 dL_law_970 dL_law_971 dL_law_972 dL_law_973 ?_
  refine z_arg C hs (by omega) 3 0 rfl rfl 3 (by omega) (by decide) dL_law_974 dL_law_975 dL_law_976 dL_law_977 dL_law_978 ?_
  refine z_callVi C hm cl_L_123 cv_X7_act 0 (by decide) sh0 ⟨_, _, rfl⟩ [.int (xs (i + 1)), .int (xs (i + 2)), .int (xs (i + 3))] rfl (rest := []) rfl (k_X7_act w _ _ tr kd (xs (i + 1)) (xs (i + 2)) (xs (i + 3)) hT htr hKd) ⟨rfl, rfl, Nat.le_of_ble_eq_true rfl, Nat.le_of_ble_eq_true rfl⟩ (Nat.le_of_ble_eq_true rfl) dL_law_979 (fun v1 I1 J1 h1 => ?_)
  obtain ⟨e1, e2, e3, e4, e5⟩ := id h1
  replace e2 := e2.symm; subst e2
  have mT : I1 82 27 = nI tr := by rw [e3 82 (by decide) (by decide)]; exact hS.2.1
  have mKd : ∀ t, t < tr → I1 100 t = nI (kd t) ∧ kd t < 7 := fun t ht => by rw [e3 100 (by decide) (by decide)]; exact hKd8 t ht
  refine z_aload_n C dL_law_982 rfl 1 rfl ?_
  refine z_arg C hs (by omega) 3 0 rfl rfl 1 (by omega) (by decide) dL_law_983 dL_law_984 dL_law_985 dL_law_986 dL_law_987 ?_
  refine z_arg C hs (by omega) 3 0 rfl rfl 2 (by omega) (by decide) dL_law_988 dL_law_989 dL_law_990 dL_law_991 dL_law_992 ?_
  refine z_arg C hs (by omega) 3 0 rfl rfl 3 (by omega) (by decide) dL_law_993 dL_law_994 dL_law_995 dL_law_996 dL_law_997 ?_
  refine z_callVi C hm cl_L_126 cv_X8_act 82 (by decide) sh82 ⟨_, _, rfl⟩ [.int (xs (i + 1)), .int (xs (i + 2)), .int (xs (i + 3))] rfl (rest := [.int v1]) rfl (k_X8_act w _ _ tr kd (xs (i + 1)) (xs (i + 2)) (xs (i + 3)) mT htr mKd) ⟨rfl, rfl, Nat.le_of_ble_eq_true rfl, Nat.le_of_ble_eq_true rfl⟩ (Nat.le_of_ble_eq_true rfl) dL_law_998 (fun v2 I2 J2 h2 => ?_)
  obtain ⟨w1, w2, w3, w4, w5⟩ := id h2
  replace w2 := w2.symm; subst w2
  have q118 : I1 118 = I 33 := by rw [e3 118 (by decide) (by decide)]; exact (zRel_bo H).symm
  have hq : v1 = v2 ∧ zRel I2 J := by
    by_cases p : zin (xs (i + 1)) tr ∧ zin (xs (i + 2)) 3
    · have q104 : I1 104 (zn (xs (i + 1))) = I 12 (zn (xs (i + 1))) := by
        obtain ⟨t, ht, hx⟩ := p.1
        rw [e3 104 (by decide) (by decide), hx, zn_n (by omega), (hLo t ht).1]
        exact (hS.2.2.2.2.2.2.2.2.1 t ht).1
      rw [q104, q118] at w1 w5
      obtain ⟨e6, e7⟩ := e5 p
      obtain ⟨w6, w7⟩ := w5 p
      have hb := aPerf_le (k := kd (zn (xs (i + 1)))) (i := xs (i + 1)) (n := I 12 (zn (xs (i + 1)))) 9 (kd (zn (xs (i + 1)))) (zn (xs (i + 2))) (xs (i + 3)) (0, I 33)
      refine ⟨by rw [e1, w1], zRel_ac (bg := (aPerf (kd (zn (xs (i + 1)))) (xs (i + 1)) (I 12 (zn (xs (i + 1)))) 9 (kd (zn (xs (i + 1)))) (zn (xs (i + 2))) (xs (i + 3)) (0, I 33)).2.1) H (fun k q1 q2 q3 q4 => by rw [w3 k q3 q4, e3 k q1 q2]) (fun j q => by rw [w7, upd_n q, e3 82 (by decide) (by decide)]) ?_ ?_ ?_ ?_⟩
      · exact Nat.le_trans (Nat.le_trans (Nat.le_succ _) hb) (show 0 + 2 ^ 9 ≤ 10000 by decide)
      · rw [w3 32 (by decide) (by decide)]; exact e7
      · rw [w7, upd_s]
      · rw [w3 33 (by decide) (by decide), e6, w6]
    · have e6 := e4 p
      have w6 := w4 p
      refine ⟨by rw [e1, w1, cif_f p, cif_f p], zRel_ac (bg := 0) H (fun k q1 q2 q3 q4 => by rw [w6, zup_n q3, e3 k q1 q2]) (fun j q => by rw [w6, zup_s, upd_n q, e3 82 (by decide) (by decide)]) (Nat.zero_le _) ?_ ?_ ?_⟩
      · rw [w6, zup_n (by decide), e6, zup_s, upd_s]; rfl
      · rw [w6, zup_s, upd_s]; rfl
      · rw [w6, zup_n (by decide), zup_n (by decide), q118, e6, zup_n (by decide)]
  obtain ⟨hv, hR⟩ := hq
  refine z_icmp_eq (tgt := 1298) C dL_law_1001 (by decide) (fun _ => kk _ _ hR) (fun c => absurd hv c)
