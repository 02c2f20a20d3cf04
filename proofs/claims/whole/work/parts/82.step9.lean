/-! the law's steps: what reads alone -/
/-- the numbers of both sides, named -/
def zP (I : zI) (n tr h bk : Nat) (A : List zCla) (hd : Nat → Option Nat) (kd bu fr ho lo : Nat → Nat) : Prop := n ≤ 8 ∧ tr ≤ 16 ∧ h < 7 ∧ bk ≤ 6 ∧ I 0 1 = nI n ∧ I 5 8 = nI tr ∧ I 5 2 = nI h ∧ I 5 10 = nI bk ∧ cLaw I h A ∧ (∀ a, a < n → I 7 a = oI (hd a)) ∧ (∀ a k, hd a = some k → k ≤ 99) ∧ (∀ t, t < tr → I 8 t = nI (kd t) ∧ kd t < 7) ∧ (∀ t, t < tr → I 9 t = nI (bu t) ∧ bu t < n) ∧ (∀ t, t < tr → I 10 t = nI (fr t) ∧ fr t < 9) ∧ (∀ t, t < tr → I 11 t = nI (ho t) ∧ ho t ≤ 99) ∧ (∀ t, t < tr → I 12 t = nI (lo t) ∧ lo t ≤ 99) ∧ mS I n tr h A (I 6) (I 1) hd bu ho lo fr ∧ (∀ a, a < 8 → I 6 (a * 8 + a) = 0) ∧ (∀ t, t < tr → I 100 t = nI (kd t) ∧ kd t < 7) ∧ I 82 35 = nI bk ∧ ∀ k, k < bk → I 13 k = I 106 k
theorem zRel_p {I : zI} {J : zJ} (H : zRel I J) : ∃ (n tr h bk : Nat) (A : List zCla) (hd : Nat → Option Nat) (kd bu fr ho lo : Nat → Nat), zP I n tr h bk A hd kd bu fr ho lo := by
  obtain ⟨n, lc, hn, a1, a2, a3, ⟨l1, l2, l3, l4, A, l5⟩, a5, a6, a7, ⟨tr, bk, h, jn, hd, kd, bu, fr, ho, lo, bl, g1, ⟨s1, s2, s3, s4, s5, s6⟩, ⟨c1, c2, c3, c4, c5, c6, c7⟩, ⟨d1, d2, d3, d4, d5, d6, d7⟩⟩, a9⟩ := H
  obtain ⟨B, hB, hM⟩ : ∃ B, cLaw I h B ∧ mHeld I h B := by
    rcases h with _ | l
    · exact ⟨[], l4, Or.inl ⟨rfl, d1, rfl⟩⟩
    · exact ⟨A l, (l5 l (by omega)).1, Or.inr ⟨l, rfl, by omega, d1.trans (pk_sub (a := l + 1) (b := 1) (by omega)), mLw_law (by omega) (l5 l (by omega)).2⟩⟩
  refine ⟨n, tr, h, bk, B, hd, kd, bu, fr, ho, lo, hn, s2, s1, s3, a1, c2, c1, c3, hB, fun a ha => c5 a (by omega), s4, fun t ht => ⟨(c6 t ht).1, (s6 t ht).1⟩, fun t ht => ⟨(c6 t ht).2.1, (s6 t ht).2.1⟩, fun t ht => ⟨(c6 t ht).2.2.1, (s6 t ht).2.2.1⟩, fun t ht => ⟨(c6 t ht).2.2.2.1, (s6 t ht).2.2.2.1⟩, fun t ht => ⟨(c6 t ht).2.2.2.2, (s6 t ht).2.2.2.2⟩, ⟨a2, d2, hM, fun k hk => (d4 k hk).trans (c4 k hk).symm, fun k hk => (a3 k hk).symm, fun a ha => d5 a (by omega), fun t ht => ⟨(d6 t ht).2.1, (s6 t ht).2.1⟩, fun t ht => ⟨(d6 t ht).2.2.2.1, (s6 t ht).2.2.2.1⟩, fun t ht => ⟨(d6 t ht).2.2.2.2, (s6 t ht).2.2.2.2⟩, fun t ht => ⟨(d6 t ht).2.2.1, (s6 t ht).2.2.1⟩⟩, fun a ha => (c4 _ (by omega)).trans (s5 a ha), fun t ht => ⟨(d6 t ht).1, (s6 t ht).1⟩, d3, fun k hk => (c7 k hk).trans (d7 k hk).symm⟩
/-- what may change without being seen -/
def scI (K I : zI) : Prop := (∀ k, k ≠ 82 → (k < 23 ∨ (31 < k ∧ k < 93) ∨ (99 < k ∧ k < 105) ∨ k = 106 ∨ 109 < k) → K k = I k) ∧ ∀ j, j ≠ 25 → K 82 j = I 82 j
def scJ (M J : zJ) : Prop := ∀ k, k ≠ 30 → k ≠ 31 → k ≠ 82 → k ≠ 105 → M k = J k
theorem scI_id {I : zI} : scI I I := ⟨fun _ _ _ => rfl, fun _ _ => rfl⟩
theorem scJ_id {J : zJ} : scJ J J := fun _ _ _ _ _ => rfl
theorem scI_S {K I : zI} (h : frS K I) : scI K I := ⟨fun k _ q => h k (by omega), fun j _ => by rw [h 82 (by omega)]⟩
theorem scI_O {K I : zI} (h : frO K I) : scI K I := ⟨fun k _ q => h k (by omega), fun j _ => by rw [h 82 (by omega)]⟩
theorem scI_M {K I : zI} (h : frM K I) : scI K I := ⟨fun k p q => h.1 k p (by omega), fun j q => h.2 j q⟩
theorem scI_H {K I : zI} (h : frH K I) : scI K I := scI_M (frM_h h)
theorem scI_F {K I : zI} (h : frF K I) : scI K I := ⟨fun k _ q => h k (by omega) (by omega) (by omega), fun j _ => by rw [h 82 (by omega) (by omega) (by omega)]⟩
theorem scJ_P {M J : zJ} (h : frP M J) : scJ M J := fun k a b _ _ => h k a b
theorem scJ_W {M J : zJ} (h : frW M J) : scJ M J := fun k _ _ a b => h k a b
theorem zRel_sc {I K : zI} {J M : zJ} (H : zRel I J) (f : scI K I) (g : scJ M J) : zRel K M := by
  obtain ⟨n, lc, hn, a1, a2, a3, a4, a5, a6, a7, a8, a9⟩ := H
  obtain ⟨f1, f2⟩ := f
  refine ⟨n, lc, hn, by rw [f1 0 (by decide) (by omega)]; exact a1, by rw [f2 0 (by decide)]; exact a2, fun k hk => by rw [f1 1 (by decide) (by omega), f1 83 (by decide) (by omega)]; exact a3 k hk, rLaws_c (I := I) (by rw [f1 0 (by decide) (by omega)]) (f2 4 (by decide)) (fun k hk => f1 k (by omega) (by omega)) a4, rText_c (I := I) (by rw [f1 2 (by decide) (by omega)]) (f2 6 (by decide)) (f1 3 (by decide) (by omega)) (f1 86 (by decide) (by omega)) a5, rTapes_c (I := I) (fun k hk => f1 k (by omega) (by omega)) (fun k hk => g k (by omega) (by omega) (by omega) (by omega)) a6, rActor_c (I := I) (by rw [f1 32 (by decide) (by omega)]) (f2 52 (by decide)) (f1 33 (by decide) (by omega)) (f1 118 (by decide) (by omega)) a7, ?_, ?_⟩
  · exact rW_c (I := I) (Nat.le_refl _) (Nat.le_refl _) (fun k q1 q2 => f1 k (by omega) (by omega)) (f2 5 (by decide)) (f2 27 (by decide)) (f2 35 (by decide)) (f1 84 (by decide) (by omega)) (f1 85 (by decide) (by omega)) (fun k q1 q2 => f1 k (by omega) (by omega)) (f1 106 (by decide) (by omega)) a8
  · rcases a9 with ⟨b1, b2⟩ | ⟨b1, b2, b3⟩
    · exact Or.inl ⟨by rw [f1 0 (by decide) (by omega)]; exact b1, by rw [f2 40 (by decide)]; exact b2⟩
    · exact Or.inr ⟨by rw [f1 0 (by decide) (by omega)]; exact b1, by rw [f2 40 (by decide)]; exact b2, rW_c (I := I) (Nat.le_refl _) (Nat.le_refl _) (fun k q1 q2 => f1 k (by omega) (by omega)) (f2 41 (by decide)) (f2 42 (by decide)) (f2 43 (by decide)) (f1 110 (by decide) (by omega)) (f1 111 (by decide) (by omega)) (fun k q1 q2 => f1 k (by omega) (by omega)) (f1 117 (by decide) (by omega)) b3⟩
theorem zP_sc {I K : zI} {n tr h bk : Nat} {A : List zCla} {hd : Nat → Option Nat} {kd bu fr ho lo : Nat → Nat} (H : zP I n tr h bk A hd kd bu fr ho lo) (f : scI K I) : zP K n tr h bk A hd kd bu fr ho lo := by
  obtain ⟨f1, f2⟩ := f
  obtain ⟨p1, p2, p3, p4, p5, p6, p7, p8, p9, p10, p11, p12, p13, p14, p15, p16, ⟨m1, m2, m3, m4, m5, m6, m7, m8, m9, m10⟩, p18, p19, p20, p21⟩ := H
  have g : ∀ k, k < 23 → K k = I k := fun k hk => f1 k (by omega) (by omega)
  have g6 := g 6 (by decide)
  have g1 := g 1 (by decide)
  refine ⟨p1, p2, p3, p4, by rw [g 0 (by decide)]; exact p5, by rw [g 5 (by decide)]; exact p6, by rw [g 5 (by decide)]; exact p7, by rw [g 5 (by decide)]; exact p8, ?_, by rw [g 7 (by decide)]; exact p10, p11, by rw [g 8 (by decide)]; exact p12, by rw [g 9 (by decide)]; exact p13, by rw [g 10 (by decide)]; exact p14, by rw [g 11 (by decide)]; exact p15, by rw [g 12 (by decide)]; exact p16, ⟨by rw [f2 0 (by decide)]; exact m1, by rw [f2 27 (by decide)]; exact m2, ?_, by rw [g6, f1 84 (by decide) (by omega)]; exact m4, by rw [g1, f1 83 (by decide) (by omega)]; exact m5, by rw [f1 85 (by decide) (by omega)]; exact m6, by rw [f1 101 (by decide) (by omega)]; exact m7, by rw [f1 103 (by decide) (by omega)]; exact m8, by rw [f1 104 (by decide) (by omega)]; exact m9, by rw [f1 102 (by decide) (by omega)]; exact m10⟩, by rw [g6]; exact p18, by rw [f1 100 (by decide) (by omega)]; exact p19, by rw [f2 35 (by decide)]; exact p20, by rw [g 13 (by decide), f1 106 (by decide) (by omega)]; exact p21⟩
  · unfold cLaw at p9 ⊢
    rw [f1 (47 + 5 * h) (by omega) (by omega), f1 (47 + 5 * h + 1) (by omega) (by omega), f1 (47 + 5 * h + 2) (by omega) (by omega), f1 (47 + 5 * h + 3) (by omega) (by omega), f1 (47 + 5 * h + 4) (by omega) (by omega)]
    exact p9
  · unfold mHeld mLaw at m3 ⊢
    rw [f2 5 (by decide), f1 87 (by decide) (by omega), f1 88 (by decide) (by omega), f1 89 (by decide) (by omega), f1 90 (by decide) (by omega), f1 91 (by decide) (by omega), f1 92 (by decide) (by omega)]
    exact m3
