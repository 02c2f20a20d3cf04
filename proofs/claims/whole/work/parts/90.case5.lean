/-! the law's cases: image, undo, acts, feeding, laws -/
set_option maxRecDepth 100000 in
set_option maxHeartbeats 1000000 in
theorem lc_image {X : zX} {w : zW} {I : zI} {J : zJ} {b L i : Nat} {xs : Nat → Int32} (C : zOk X w cL_law RL room_1) (hm : zML X 4) (hs : zScr X b L xs) (hL : L ≤ 3072) (hi : i + 5 < L) (H : zRel I J) (kk : ∀ (K : zI) (M : zJ), zRel K M → Z X w K M 1298 [(3, .int (nI i)), (2, .ref (zad w 82)), (1, .ref (zad w 0)), (0, .ref b)] []) : Z X w I J 937 [(3, .int (nI i)), (2, .ref (zad w 82)), (1, .ref (zad w 0)), (0, .ref b)] [] := by
  skip
  refine z_aload_n C dL_law_937 rfl 2 rfl ?_
  refine z_callVi C hm cl_L_115 cv_X7_image 0 (by decide) sh0 ⟨_, _, rfl⟩ [] rfl (rest := []) rfl (k_X7_image w _ _) ⟨rfl, rfl, Nat.le_of_ble_eq_true rfl, Nat.le_of_ble_eq_true rfl⟩ (Nat.le_of_ble_eq_true rfl) dL_law_938 (fun v1 I1 J1 h1 => ?_)
  obtain ⟨e1, e2, e3⟩ := id h1
  replace e3 := e3.symm; subst e3
  refine z_aload_n C dL_law_941 rfl 1 rfl ?_
  refine z_callVi C hm cl_L_118 cv_X8_image 82 (by decide) sh82 ⟨_, _, rfl⟩ [] rfl (rest := [.int v1]) rfl (k_X8_image w _ _) ⟨rfl, rfl, Nat.le_of_ble_eq_true rfl, Nat.le_of_ble_eq_true rfl⟩ (Nat.le_of_ble_eq_true rfl) dL_law_942 (fun v2 I2 J2 h2 => ?_)
  obtain ⟨w1, w2, w3, w4, w5⟩ := id h2
  replace w5 := w5.symm; subst w5
  have hR : zRel I2 J := st_image H e2 w2 w3 w4
  have e82 : I1 82 = I 82 := by
    obtain ⟨M, hM, eM⟩ := e2
    rw [eM, zup_n (by decide), hM.2.2.2.2.2.2.2.2.2.2.2 82 (by omega)]
  have hv : v1 = v2 := by rw [e1, w1, e82]; exact (zRel_tr H).1
  refine z_icmp_eq (tgt := 1298) C dL_law_945 (by decide) (fun _ => kk _ _ hR) (fun c => absurd hv c)
set_option maxRecDepth 100000 in
set_option maxHeartbeats 1000000 in
theorem lc_undo {X : zX} {w : zW} {I : zI} {J : zJ} {b L i : Nat} {xs : Nat → Int32} (C : zOk X w cL_law RL room_1) (hm : zML X 4) (hs : zScr X b L xs) (hL : L ≤ 3072) (hi : i + 5 < L) (H : zRel I J) (kk : ∀ (K : zI) (M : zJ), zRel K M → Z X w K M 1298 [(3, .int (nI i)), (2, .ref (zad w 82)), (1, .ref (zad w 0)), (0, .ref b)] []) : Z X w I J 950 [(3, .int (nI i)), (2, .ref (zad w 82)), (1, .ref (zad w 0)), (0, .ref b)] [] := by
  skip
  refine z_aload_n C dL_law_950 rfl 2 rfl ?_
  refine z_callVi C hm cl_L_119 cv_X7_undo 0 (by decide) sh0 ⟨_, _, rfl⟩ [] rfl (rest := []) rfl (k_X7_undo w _ _) ⟨rfl, rfl, Nat.le_of_ble_eq_true rfl, Nat.le_of_ble_eq_true rfl⟩ (Nat.le_of_ble_eq_true rfl) dL_law_951 (fun v1 I1 J1 h1 => ?_)
  obtain ⟨e1, e3⟩ := id h1
  replace e3 := e3.symm; subst e3
  refine z_aload_n C dL_law_954 rfl 1 rfl ?_
  refine z_callVi C hm cl_L_122 cv_X8_undo 82 (by decide) sh82 ⟨_, _, rfl⟩ [] rfl (rest := [.int v1]) rfl (k_X8_undo w _ _) ⟨rfl, rfl, Nat.le_of_ble_eq_true rfl, Nat.le_of_ble_eq_true rfl⟩ (Nat.le_of_ble_eq_true rfl) dL_law_955 (fun v2 I2 J2 h2 => ?_)
  obtain ⟨w1, w5⟩ := id h2
  replace w5 := w5.symm; subst w5
  obtain ⟨t1, t2, t3⟩ := zRel_tr H
  have hq : v1 = v2 ∧ zRel I2 J := by
    rcases e1 with ⟨a1, a2, a3⟩ | ⟨a1, a2, a3⟩
    · replace a3 := a3.symm; subst a3
      rcases w1 with ⟨b1, b2, b3⟩ | ⟨b1, _⟩
      · exact ⟨by rw [a2, b2], by rw [b3]; exact H⟩
      · exact absurd (t2.mp a1) b1
    · have e82 : I1 82 = I 82 := a2.2.2.2.2.2.2.2.2.2.2.2 82 (by omega)
      have e8 : I1 5 8 = I 14 8 := a2.2.2.2.2.2.2.2.2.2.1
      rcases w1 with ⟨b1, _⟩ | ⟨b1, b2, b3, b4, b5⟩
      · rw [e82] at b1
        exact absurd (t2.mpr b1) a1
      · refine ⟨?_, st_undo H a1 a2 b3 b4 b5⟩
        rw [a3, b2, e82, e8]
        exact t3 a1
  obtain ⟨hv, hR⟩ := hq
  refine z_icmp_eq (tgt := 1298) C dL_law_958 (by decide) (fun _ => kk _ _ hR) (fun c => absurd hv c)
