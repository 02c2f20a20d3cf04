/-! the law: what does not touch a piece keeps it -/
theorem rLaws_c {I K : zI} {lc : Nat} (h0 : K 0 4 = I 0 4) (h82 : K 82 4 = I 82 4) (hr : ∀ k, ((47 ≤ k ∧ k < 82) ∨ (87 ≤ k ∧ k ≤ 92)) → K k = I k) (h : rLaws I lc) : rLaws K lc := by
  obtain ⟨g1, g2, g3, g4, A, g5⟩ := h
  have hc : ∀ i B, i < 7 → cLaw I i B → cLaw K i B := fun i B hi q => by
    unfold cLaw at q ⊢
    rw [hr (47 + 5 * i) (by omega), hr (47 + 5 * i + 1) (by omega), hr (47 + 5 * i + 2) (by omega), hr (47 + 5 * i + 3) (by omega), hr (47 + 5 * i + 4) (by omega)]
    exact q
  exact ⟨g1, h0.trans g2, h82.trans g3, hc 0 [] (by decide) g4, A, fun l hl => ⟨hc (l + 1) (A l) (by omega) (g5 l hl).1, mLw_c (g5 l hl).2 (fun k a b => hr k (by omega))⟩⟩
theorem rText_c {I K : zI} (h2 : K 2 1 = I 2 1) (h82 : K 82 6 = I 82 6) (h3 : K 3 = I 3) (h86 : K 86 = I 86) (h : rText I) : rText K := by
  obtain ⟨L, c, g1, g2, g3, g4, g5⟩ := h
  exact ⟨L, c, g1, h2.trans g2, h82.trans g3, fun q hq => by rw [h3, h86]; exact g4 q hq, g5⟩
theorem rTapes_c {I K : zI} {J M : zJ} (hr : ∀ k, ((35 ≤ k ∧ k < 47) ∨ k = 119 ∨ k = 120) → K k = I k) (hJ : ∀ k, ((35 ≤ k ∧ k < 47) ∨ k = 121) → M k = J k) (h : rTapes I J) : rTapes K M := by
  obtain ⟨so, ln, it, g⟩ := h
  refine ⟨so, ln, it, fun t ht => ?_⟩
  rw [hr (35 + 2 * t) (by omega), hr 119 (by omega), hr 120 (by omega), hJ (35 + 2 * t + 1) (by omega), hJ 121 (by omega)]
  exact g t ht
theorem rActor_c {I K : zI} (h32 : K 32 1 = I 32 1) (h82 : K 82 52 = I 82 52) (h33 : K 33 = I 33) (h118 : K 118 = I 118) (h : rActor I) : rActor K := by
  obtain ⟨bg, g1, g2, g3, g4⟩ := h
  exact ⟨bg, g1, h32.trans g2, h82.trans g3, by rw [h33, h118]; exact g4⟩
theorem rW_c {I K : zI} {p f1 f2 f3 a b d e n n' lc lc' : Nat} (hn : n ≤ n') (hl : lc ≤ lc') (hp : ∀ k, p ≤ k → k ≤ p + 8 → K k = I k) (h1 : K 82 f1 = I 82 f1) (h2 : K 82 f2 = I 82 f2) (h3 : K 82 f3 = I 82 f3) (ha : K a = I a) (hb : K b = I b) (hd : ∀ k, d ≤ k → k ≤ d + 4 → K k = I k) (he : K e = I e) (h : rW I p f1 f2 f3 a b d e n lc) : rW K p f1 f2 f3 a b d e n' lc' := by
  obtain ⟨tr, bk, h, jn, hdd, kd, bu, fr, ho, lo, bl, g1, g2, g3, g4⟩ := h
  obtain ⟨s1, s2, s3, s4, s5, s6⟩ := g2
  refine ⟨tr, bk, h, jn, hdd, kd, bu, fr, ho, lo, bl, by omega, ⟨s1, s2, s3, s4, s5, fun t ht => ?_⟩, ?_, ?_⟩
  · obtain ⟨x1, x2, x3⟩ := s6 t ht
    exact ⟨x1, by omega, x3⟩
  · unfold rC at g3 ⊢
    rw [hp p (by omega) (by omega), hp (p + 1) (by omega) (by omega), hp (p + 2) (by omega) (by omega), hp (p + 3) (by omega) (by omega), hp (p + 4) (by omega) (by omega), hp (p + 5) (by omega) (by omega), hp (p + 6) (by omega) (by omega), hp (p + 7) (by omega) (by omega), hp (p + 8) (by omega) (by omega)]
    exact g3
  · unfold rM at g4 ⊢
    rw [h1, h2, h3, ha, hb, he, hd d (by omega) (by omega), hd (d + 1) (by omega) (by omega), hd (d + 2) (by omega) (by omega), hd (d + 3) (by omega) (by omega), hd (d + 4) (by omega) (by omega)]
    exact g4
