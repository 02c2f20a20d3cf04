/-! the law's cases: laws -/
theorem cLaw_f {I K : zI} {i : Nat} {A : List zCla} (h : cLaw I i A) (g : ∀ k, 47 + 5 * i ≤ k → k ≤ 47 + 5 * i + 4 → K k = I k) : cLaw K i A := by
  unfold cLaw at h ⊢
  rw [g (47 + 5 * i) (by omega) (by omega), g (47 + 5 * i + 1) (by omega) (by omega), g (47 + 5 * i + 2) (by omega) (by omega), g (47 + 5 * i + 3) (by omega) (by omega), g (47 + 5 * i + 4) (by omega) (by omega)]
  exact h
theorem mLw_f {I K : zI} {l lc : Nat} {A : List zCla} (h : mLw I l A) (hl : l < lc) (f : frL I K lc) : mLw K l A := by
  obtain ⟨f1, f2, f3, f4, f5⟩ := f
  obtain ⟨h1, h2, h3⟩ := h
  have hA := h2.1
  refine ⟨(f3 l (by omega)).trans h1, h2, fun j hj => ?_⟩
  obtain ⟨q1, q2, q3, q4⟩ := f4 (10 * l + j) (by omega)
  obtain ⟨g1, g2, g3⟩ := h3 j hj
  refine ⟨q1.trans g1, q2.trans g2, fun c => ?_⟩
  obtain ⟨s, s1, s2, s3, s4⟩ := g3 c
  exact ⟨s, s1, q3.trans s2, q4.trans s3, fun k hk => (f5 (s + k) (by omega)).trans (s4 k hk)⟩
theorem zRel_ln {I K I2 : zI} {J : zJ} {lc : Nat} (H : zRel I J) (h4 : I 0 4 = nI lc) (hlc : lc < 6) (g1 : ∀ k, k ≠ 2 → (k < 47 + 5 * (lc + 1) ∨ 47 + 5 * (lc + 1) + 4 < k) → K k = I k) (z2 : K 2 1 = 0) (f : frL K I2 lc) (z6 : I2 82 6 = 0) (z5 : I2 82 5 = K 82 5) (z4 : I2 82 4 = K 82 4) : zRel I2 J := by
  obtain ⟨n, lc', hn, a1, a2, a3, ⟨l1, l2, l3, l4, A0, l5⟩, a5, a6, a7, a8, a9⟩ := H
  have el : lc' = lc := nI_one (M := 7) (by omega) (by omega) (by omega) l2 h4
  rw [el] at l1 l2 l3 l5 a8 a9
  have f1 := f.1
  have f2 := f.2.1
  have k82 : K 82 = I 82 := g1 82 (by omega) (by omega)
  have g : ∀ k, k ≠ 2 ∧ k ≠ 82 ∧ (k < 47 + 5 * (lc + 1) ∨ 47 + 5 * (lc + 1) + 4 < k) ∧ (k < 87 ∨ 93 < k) → I2 k = I k := fun k q => by rw [f1 k q.2.1 q.2.2.2, g1 k q.1 q.2.2.1]
  have g82 : ∀ j, (j < 6 ∨ (8 < j ∧ j < 17) ∨ 19 < j) → I2 82 j = I 82 j := fun j q => by
    by_cases e5 : j = 5
    · rw [e5, z5, k82]
    · by_cases e4 : j = 4
      · rw [e4, z4, k82]
      · rw [f2 j (by omega), k82]
  refine ⟨n, lc, hn, by rw [g 0 (by omega)]; exact a1, by rw [g82 0 (by omega)]; exact a2, fun k hk => by rw [g 1 (by omega), g 83 (by omega)]; exact a3 k hk, ⟨l1, by rw [g 0 (by omega)]; exact l2, by rw [g82 4 (by omega)]; exact l3, cLaw_f l4 (fun k q1 q2 => g k (by omega)), A0, fun l hl => ⟨cLaw_f (l5 l hl).1 (fun k q1 q2 => g k (by omega)), mLw_f (mLw_c (l5 l hl).2 (fun k q1 q2 => g1 k (by omega) (by omega))) hl f⟩⟩, ⟨0, fun _ => 300, by decide, by rw [f1 2 (by omega) (by omega)]; exact z2, z6, fun q hq => absurd hq (Nat.not_lt_zero _), fun _ _ => rfl⟩, rTapes_c (I := I) (fun k hk => g k (by omega)) (fun _ _ => rfl) a6, rActor_c (I := I) (by rw [g 32 (by omega)]) (g82 52 (by omega)) (g 33 (by omega)) (g 118 (by omega)) a7, rW_r (I := I) (fun k q1 q2 => g k (by omega)) (g82 5 (by omega)) (g82 27 (by omega)) (g82 35 (by omega)) (g 84 (by omega)) (g 85 (by omega)) (fun k q1 q2 => g k (by omega)) (g 106 (by omega)) a8, ?_⟩
  rcases a9 with ⟨b1, b2⟩ | ⟨b1, b2, b3⟩
  · exact Or.inl ⟨by rw [g 0 (by omega)]; exact b1, by rw [g82 40 (by omega)]; exact b2⟩
  · exact Or.inr ⟨by rw [g 0 (by omega)]; exact b1, by rw [g82 40 (by omega)]; exact b2, rW_r (I := I) (fun k q1 q2 => g k (by omega)) (g82 41 (by omega)) (g82 42 (by omega)) (g82 43 (by omega)) (g 110 (by omega)) (g 111 (by omega)) (fun k q1 q2 => g k (by omega)) (g 117 (by omega)) b3⟩
theorem zRel_ls {I K I2 : zI} {J : zJ} {lc : Nat} {A : List zCla} (H : zRel I J) (h4 : I 0 4 = nI lc) (hlc : lc < 6) (g1 : ∀ k, k ≠ 0 → k ≠ 2 → k ≠ 5 → (k < 47 + 5 * (lc + 1) ∨ 47 + 5 * (lc + 1) + 4 < k) → K k = I k) (e0 : K 0 = upd (I 0) 4 (nI (lc + 1))) (e5 : K 5 = upd (I 5) 2 (nI (lc + 1))) (hA : cLaw K (lc + 1) A) (z2 : K 2 1 = 0) (f : frL K I2 lc) (z6 : I2 82 6 = 0) (hM : mLw I2 lc A) (z5 : I2 82 5 = nI lc) (z4 : I2 82 4 = nI (lc + 1)) : zRel I2 J := by
  obtain ⟨n, lc', hn, a1, a2, a3, ⟨l1, l2, l3, l4, A0, l5⟩, a5, a6, a7, ⟨tr, bk, h, jn, hd, kd, bu, fri, ho, lo, bl, p1, ⟨s1, s2, s3, s4, s5, s6⟩, ⟨c1, c2, c3, c4, c5, c6, c7⟩, ⟨d1, d2, d3, d4, d5, d6, d7⟩⟩, a9⟩ := H
  have el : lc' = lc := nI_one (M := 7) (by omega) (by omega) (by omega) l2 h4
  rw [el] at l1 l2 l3 l5 p1 a9
  have f1 := f.1
  have f2 := f.2.1
  have k82 : K 82 = I 82 := g1 82 (by omega) (by omega) (by omega) (by omega)
  have g : ∀ k, k ≠ 0 ∧ k ≠ 2 ∧ k ≠ 5 ∧ k ≠ 82 ∧ (k < 47 + 5 * (lc + 1) ∨ 47 + 5 * (lc + 1) + 4 < k) ∧ (k < 87 ∨ 93 < k) → I2 k = I k := fun k q => by rw [f1 k q.2.2.2.1 q.2.2.2.2.2, g1 k q.1 q.2.1 q.2.2.1 q.2.2.2.2.1]
  have g82 : ∀ j, (j < 4 ∨ (8 < j ∧ j < 17) ∨ 19 < j) → I2 82 j = I 82 j := fun j q => by rw [f2 j q, k82]
  have g0 : I2 0 = upd (I 0) 4 (nI (lc + 1)) := by rw [f1 0 (by omega) (by omega), e0]
  have g5 : I2 5 = upd (I 5) 2 (nI (lc + 1)) := by rw [f1 5 (by omega) (by omega), e5]
  refine ⟨n, lc + 1, hn, by rw [g0, upd_n (by decide)]; exact a1, by rw [g82 0 (by omega)]; exact a2, fun k hk => by rw [g 1 (by omega), g 83 (by omega)]; exact a3 k hk, ⟨hlc, by rw [g0, upd_s], z4, cLaw_f l4 (fun k q1 q2 => g k (by omega)), fun l => if l = lc then A else A0 l, fun l hl => ?_⟩, ⟨0, fun _ => 300, by decide, by rw [f1 2 (by omega) (by omega)]; exact z2, z6, fun q hq => absurd hq (Nat.not_lt_zero _), fun _ _ => rfl⟩, rTapes_c (I := I) (fun k hk => g k (by omega)) (fun _ _ => rfl) a6, rActor_c (I := I) (by rw [g 32 (by omega)]) (g82 52 (by omega)) (g 33 (by omega)) (g 118 (by omega)) a7, ?_, ?_⟩
  · by_cases e : l = lc
    · simp only [if_pos e]
      rw [e]
      exact ⟨cLaw_f hA (fun k q1 q2 => f1 k (by omega) (by omega)), hM⟩
    · simp only [if_neg e]
      have hl2 : l < lc := by omega
      exact ⟨cLaw_f (l5 l hl2).1 (fun k q1 q2 => g k (by omega)), mLw_f (mLw_c (l5 l hl2).2 (fun k q1 q2 => g1 k (by omega) (by omega) (by omega) (by omega))) hl2 f⟩
  · refine ⟨tr, bk, lc + 1, jn, hd, kd, bu, fri, ho, lo, bl, Nat.le_refl _, ⟨by omega, s2, s3, s4, s5, s6⟩, ⟨by rw [g5, upd_s], by rw [g5, upd_n (by decide)]; exact c2, by rw [g5, upd_n (by decide)]; exact c3, fun k q => by rw [g 6 (by omega)]; exact c4 k q, fun k q => by rw [g 7 (by omega)]; exact c5 k q, fun t q => by rw [g 8 (by omega), g 9 (by omega), g 10 (by omega), g 11 (by omega), g 12 (by omega)]; exact c6 t q, fun k q => by rw [g 13 (by omega)]; exact c7 k q⟩, ⟨z5.trans (pk_sub (a := lc + 1) (b := 1) (by omega)).symm, by rw [g82 27 (by omega)]; exact d2, by rw [g82 35 (by omega)]; exact d3, fun k q => by rw [g 84 (by omega)]; exact d4 k q, fun k q => by rw [g 85 (by omega)]; exact d5 k q, fun t q => by rw [g 100 (by omega), g 101 (by omega), g 102 (by omega), g 103 (by omega), g 104 (by omega)]; exact d6 t q, fun k q => by rw [g 106 (by omega)]; exact d7 k q⟩⟩
  · rcases a9 with ⟨b1, b2⟩ | ⟨b1, b2, b3⟩
    · exact Or.inl ⟨by rw [g0, upd_n (by decide)]; exact b1, by rw [g82 40 (by omega)]; exact b2⟩
    · exact Or.inr ⟨by rw [g0, upd_n (by decide)]; exact b1, by rw [g82 40 (by omega)]; exact b2, rW_c (I := I) (Nat.le_refl _) (Nat.le_succ _) (fun k q1 q2 => g k (by omega)) (g82 41 (by omega)) (g82 42 (by omega)) (g82 43 (by omega)) (g 110 (by omega)) (g 111 (by omega)) (fun k q1 q2 => g k (by omega)) (g 117 (by omega)) b3⟩
theorem zRel_lc {I : zI} {J : zJ} (H : zRel I J) : ∃ lc : Nat, lc ≤ 6 ∧ I 0 4 = nI lc ∧ I 82 4 = nI lc := by
  obtain ⟨n, lc, hn, a1, a2, a3, ⟨l1, l2, l3, _⟩, _⟩ := H
  exact ⟨lc, l1, l2, l3⟩
set_option maxRecDepth 100000 in
set_option maxHeartbeats 1000000 in
theorem lc_law {X : zX} {w : zW} {I : zI} {J : zJ} {b L i : Nat} {xs : Nat → Int32} (C : zOk X w cL_law RL room_1) (hm : zML X 4) (hs : zScr X b L xs) (hL : L ≤ 3072) (hi : i + 5 < L) (H : zRel I J) (kk : ∀ (K : zI) (M : zJ), zRel K M → Z X w K M 1298 [(3, .int (nI i)), (2, .ref (zad w 82)), (1, .ref (zad w 0)), (0, .ref b)] []) : Z X w I J 316 [(3, .int (nI i)), (2, .ref (zad w 82)), (1, .ref (zad w 0)), (0, .ref b)] [] := by
  obtain ⟨tl, c, g1, g2, g3, g4, g5⟩ := zRel_xt H
  obtain ⟨lc, hlc, h4, h82⟩ := zRel_lc H
  refine z_aload_n C dL_law_316 rfl 2 rfl ?_
  refine z_callVi C hm cl_L_32 cv_X7_law 0 (by decide) sh0 ⟨_, _, rfl⟩ [] rfl (rest := []) rfl (k_X7_law w _ _ lc c tl h4 hlc g2 g1 (fun q hq => ⟨(g4 q hq).1, (g4 q hq).2.2⟩) g5) ⟨rfl, rfl, Nat.le_of_ble_eq_true rfl, Nat.le_of_ble_eq_true rfl⟩ (Nat.le_of_ble_eq_true rfl) dL_law_317 (fun v1 I1 J1 h1 => ?_)
  obtain ⟨e3, e1⟩ := id h1
  replace e3 := e3.symm; subst e3
  have hk : I1 82 = I 82 ∧ I1 86 = I 86 := by
    rcases e1 with ⟨_, _, z⟩ | ⟨hl6, ⟨q, o⟩, _, _, z⟩
    · rw [z]; exact ⟨rfl, rfl⟩
    · rcases o with _ | A
      · obtain ⟨_, _, z⟩ := z
        exact ⟨z 82 (by omega) (by omega), z 86 (by omega) (by omega)⟩
      · obtain ⟨_, _, _, _, _, z⟩ := z
        exact ⟨z 82 (by omega) (by omega) (by omega) (by omega), z 86 (by omega) (by omega) (by omega) (by omega)⟩
  obtain ⟨k82, k86⟩ := hk
  have mC : I1 82 4 = nI lc := by rw [k82]; exact h82
  have mL : I1 82 6 = nI tl := by rw [k82]; exact g3
  have mY : ∀ q, q < tl → I1 86 q = zNx (c q) ∧ c q < 256 := fun q hq => by rw [k86]; exact (g4 q hq).2
  refine z_aload_n C dL_law_320 rfl 1 rfl ?_
  refine z_callVi C hm cl_L_36 cv_X8_law 82 (by decide) sh82 ⟨_, _, rfl⟩ [] rfl (rest := [.int v1]) rfl (k_X8_law w _ _ lc c tl mC hlc mL g1 mY g5) ⟨rfl, rfl, Nat.le_of_ble_eq_true rfl, Nat.le_of_ble_eq_true rfl⟩ (Nat.le_of_ble_eq_true rfl) dL_law_321 (fun v2 I2 J2 h2 => ?_)
  obtain ⟨w3, w1⟩ := id h2
  replace w3 := w3.symm; subst w3
  have hq : v1 = v2 ∧ zRel I2 J := by
    rcases e1 with ⟨p, a1, a2⟩ | ⟨hl6, ⟨q, o⟩, hr, z2, hz⟩
    · rcases w1 with ⟨_, b1, b2⟩ | ⟨p2, _⟩
      · exact ⟨by rw [a1, b1], by rw [b2, a2]; exact H⟩
      · exact absurd p (by omega)
    · rcases w1 with ⟨p2, _⟩ | ⟨_, ⟨q', o'⟩, hr', hf, z6, hz'⟩
      · exact absurd p2 (by omega)
      · obtain ⟨eq1, eq2⟩ := Prod.mk.inj (hr.trans hr'.symm)
        subst eq1
        subst eq2
        rcases o with _ | A
        · obtain ⟨a1, _, a3⟩ := hz
          obtain ⟨b1, b2, b3⟩ := hz'
          exact ⟨a1.trans b1.symm, zRel_ln H h4 hl6 a3 z2 hf z6 b2 b3⟩
        · obtain ⟨a1, _, a2, a3, a4, a5⟩ := hz
          obtain ⟨b1, _, b2, b3, b4⟩ := hz'
          exact ⟨a1.trans b1.symm, zRel_ls H h4 hl6 a5 a3 a4 a2 z2 hf z6 b2 b3 b4⟩
  obtain ⟨hv, hR⟩ := hq
  refine z_icmp_eq (tgt := 1298) C dL_law_324 (by decide) (fun _ => kk _ _ hR) (fun c => absurd hv c)
