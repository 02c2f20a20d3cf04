/-! the law's cases: feeding -/
theorem zRel_tx {I K : zI} {J : zJ} (H : zRel I J) (fr : ∀ k, k ≠ 2 → k ≠ 3 → k ≠ 82 → k ≠ 86 → K k = I k) (f82 : ∀ j, j ≠ 6 → K 82 j = I 82 j) (hx : rText K) : zRel K J := by
  obtain ⟨n, lc, hn, a1, a2, a3, a4, a5, a6, a7, a8, a9⟩ := H
  have g : ∀ k, k ≠ 2 ∧ k ≠ 3 ∧ k ≠ 82 ∧ k ≠ 86 → K k = I k := fun k q => fr k q.1 q.2.1 q.2.2.1 q.2.2.2
  refine ⟨n, lc, hn, by rw [g 0 (by decide)]; exact a1, by rw [f82 0 (by decide)]; exact a2, fun k hk => by rw [g 1 (by decide), g 83 (by decide)]; exact a3 k hk, rLaws_c (I := I) (by rw [g 0 (by decide)]) (f82 4 (by decide)) (fun k hk => g k (by omega)) a4, hx, rTapes_c (I := I) (fun k hk => g k (by omega)) (fun _ _ => rfl) a6, rActor_c (I := I) (by rw [g 32 (by decide)]) (f82 52 (by decide)) (g 33 (by decide)) (g 118 (by decide)) a7, rW_r (I := I) (fun k q1 q2 => g k (by omega)) (f82 5 (by decide)) (f82 27 (by decide)) (f82 35 (by decide)) (g 84 (by decide)) (g 85 (by decide)) (fun k q1 q2 => g k (by omega)) (g 106 (by decide)) a8, ?_⟩
  rcases a9 with ⟨b1, b2⟩ | ⟨b1, b2, b3⟩
  · exact Or.inl ⟨by rw [g 0 (by decide)]; exact b1, by rw [f82 40 (by decide)]; exact b2⟩
  · exact Or.inr ⟨by rw [g 0 (by decide)]; exact b1, by rw [f82 40 (by decide)]; exact b2, rW_r (I := I) (fun k q1 q2 => g k (by omega)) (f82 41 (by decide)) (f82 42 (by decide)) (f82 43 (by decide)) (g 110 (by decide)) (g 111 (by decide)) (fun k q1 q2 => g k (by omega)) (g 117 (by decide)) b3⟩
theorem zRel_xt {I : zI} {J : zJ} (H : zRel I J) : rText I := by
  obtain ⟨n, lc, hn, a1, a2, a3, a4, a5, a6, a7, a8, a9⟩ := H
  exact a5
theorem by_all (x : Int32) : ∃ B : Nat → Nat, ∀ j, j < 4 → B j < 256 ∧ zby x j = nI (B j) ∧ zbm x j = zNx (B j) :=
  ⟨fun j => if h : j < 4 then (by_u8 x j h).choose else 0, fun j h => by
    simp only [dif_pos h]
    exact (by_u8 x j h).choose_spec⟩
theorem rText_f {I K : zI} {tl k : Nat} {c : Nat → Nat} {x : Int32} (hk : k < 5) (g : tl + k ≤ 100) (g4 : ∀ q, q < tl → I 3 q = nI (c q) ∧ I 86 q = zNx (c q) ∧ c q < 256) (k2 : K 2 1 = nI (tl + k)) (k82 : K 82 6 = nI (tl + k)) (h3 : ∀ j, j < tl → K 3 j = I 3 j) (h3' : ∀ q, q < k → K 3 (tl + q) = zby x (k - 1 - q)) (h86 : ∀ j, j < tl → K 86 j = I 86 j) (h86' : ∀ q, q < k → K 86 (tl + q) = zbm x (k - 1 - q)) : rText K := by
  obtain ⟨B, hB⟩ := by_all x
  refine ⟨tl + k, fun q => if q < tl then c q else if q < tl + k then B (k - 1 - (q - tl)) else 300, g, k2, k82, fun q hq => ?_, fun q hq => ?_⟩
  · by_cases e : q < tl
    · simp only [if_pos e]
      rw [h3 q e, h86 q e]
      exact g4 q e
    · simp only [if_neg e, if_pos hq]
      obtain ⟨r, hr⟩ : ∃ r, q = tl + r := ⟨q - tl, by omega⟩
      have hr2 : q - tl = r := by omega
      obtain ⟨b1, b2, b3⟩ := hB (k - 1 - r) (by omega)
      rw [hr2, hr, h3' r (by omega), h86' r (by omega)]
      exact ⟨b2, b3, b1⟩
  · simp only [if_neg (show ¬ q < tl by omega), if_neg (show ¬ q < tl + k by omega)]
set_option maxRecDepth 100000 in
set_option maxHeartbeats 1000000 in
theorem lc_feed {X : zX} {w : zW} {I : zI} {J : zJ} {b L i : Nat} {xs : Nat → Int32} (C : zOk X w cL_law RL room_1) (hm : zML X 4) (hs : zScr X b L xs) (hL : L ≤ 3072) (hi : i + 5 < L) (H : zRel I J) (kk : ∀ (K : zI) (M : zJ), zRel K M → Z X w K M 1298 [(3, .int (nI i)), (2, .ref (zad w 82)), (1, .ref (zad w 0)), (0, .ref b)] []) : Z X w I J 283 [(3, .int (nI i)), (2, .ref (zad w 82)), (1, .ref (zad w 0)), (0, .ref b)] [] := by
  obtain ⟨tl, c, g1, g2, g3, g4, g5⟩ := zRel_xt H
  refine z_aload_n C dL_law_283 rfl 2 rfl ?_
  refine z_arg C hs (by omega) 3 0 rfl rfl 1 (by omega) (by decide) dL_law_284 dL_law_285 dL_law_286 dL_law_287 dL_law_288 ?_
  refine z_arg C hs (by omega) 3 0 rfl rfl 2 (by omega) (by decide) dL_law_289 dL_law_290 dL_law_291 dL_law_292 dL_law_293 ?_
  refine z_callVi C hm cl_L_28 cv_X7_feed 0 (by decide) sh0 ⟨_, _, rfl⟩ [.int (xs (i + 1)), .int (xs (i + 2))] rfl (rest := []) rfl (k_X7_feed w _ _ tl (xs (i + 1)) (xs (i + 2)) g2 g1) ⟨rfl, rfl, Nat.le_of_ble_eq_true rfl, Nat.le_of_ble_eq_true rfl⟩ (Nat.le_of_ble_eq_true rfl) dL_law_294 (fun v1 I1 J1 h1 => ?_)
  obtain ⟨e3, e1⟩ := id h1
  replace e3 := e3.symm; subst e3
  have m82 : I1 82 = I 82 := by
    rcases e1 with ⟨_, _, z⟩ | ⟨k, _, _, ⟨_, _, z⟩ | ⟨_, _, R, z, _⟩⟩
    · rw [z]
    · rw [z]
    · rw [z, zup_n (by decide), zup_n (by decide)]
  have mL : I1 82 6 = nI tl := by rw [m82]; exact g3
  refine z_aload_n C dL_law_297 rfl 1 rfl ?_
  refine z_arg C hs (by omega) 3 0 rfl rfl 1 (by omega) (by decide) dL_law_298 dL_law_299 dL_law_300 dL_law_301 dL_law_302 ?_
  refine z_arg C hs (by omega) 3 0 rfl rfl 2 (by omega) (by decide) dL_law_303 dL_law_304 dL_law_305 dL_law_306 dL_law_307 ?_
  refine z_callVi C hm cl_L_31 cv_X8_feed 82 (by decide) sh82 ⟨_, _, rfl⟩ [.int (xs (i + 1)), .int (xs (i + 2))] rfl (rest := [.int v1]) rfl (k_X8_feed w _ _ tl (xs (i + 1)) (xs (i + 2)) mL g1) ⟨rfl, rfl, Nat.le_of_ble_eq_true rfl, Nat.le_of_ble_eq_true rfl⟩ (Nat.le_of_ble_eq_true rfl) dL_law_308 (fun v2 I2 J2 h2 => ?_)
  obtain ⟨w3, w1⟩ := id h2
  replace w3 := w3.symm; subst w3
  have hq : v1 = v2 ∧ zRel I2 J := by
    rcases e1 with ⟨p, a1, a2⟩ | ⟨k, hk, hx, q1⟩
    · rcases w1 with ⟨_, b1, b2⟩ | ⟨k, hk, hx, _⟩
      · exact ⟨by rw [a1, b1], by rw [b2, a2]; exact H⟩
      · exact absurd ⟨k, hk, hx⟩ p
    · rcases w1 with ⟨p, _⟩ | ⟨k', hk', hx', q2⟩
      · exact absurd ⟨k, hk, hx⟩ p
      · have ek : k = k' := nI_one (M := 5) (by omega) hk hk' hx hx'
        rw [← ek] at q2
        rcases q1 with ⟨p1, a1, a2⟩ | ⟨p1, a1, R, a2, a3, a4⟩
        · rcases q2 with ⟨_, b1, b2⟩ | ⟨p2, _⟩
          · exact ⟨by rw [a1, b1], by rw [b2, a2]; exact H⟩
          · exact absurd p1 (by omega)
        · rcases q2 with ⟨p2, _⟩ | ⟨_, b1, S, b2, b3, b4⟩
          · exact absurd p2 (by omega)
          · have i86 : I1 86 = I 86 := by rw [a2, zup_n (by decide), zup_n (by decide)]
            refine ⟨by rw [a1, b1], zRel_tx H (fun k q1 q2 q3 q4 => by rw [b2, zup_n q3, zup_n q4, a2, zup_n q1, zup_n q2]) (fun j q => by rw [b2, zup_s, upd_n q, m82]) (rText_f (I := I) (x := xs (i + 1)) hk p1 g4 ?_ ?_ ?_ ?_ ?_ ?_)⟩
            · rw [b2, zup_n (by decide), zup_n (by decide), a2, zup_s, upd_s]
            · rw [b2, zup_s, upd_s]
            · rw [b2, zup_n (by decide), zup_n (by decide), a2, zup_n (by decide), zup_s]; exact a3
            · rw [b2, zup_n (by decide), zup_n (by decide), a2, zup_n (by decide), zup_s]; exact a4
            · rw [b2, zup_n (by decide), zup_s, ← i86]; exact b3
            · rw [b2, zup_n (by decide), zup_s]; exact b4
  obtain ⟨hv, hR⟩ := hq
  refine z_icmp_eq (tgt := 1298) C dL_law_311 (by decide) (fun _ => kk _ _ hR) (fun c => absurd hv c)
