/-! how far the parsers go -/
theorem zGd_a {L : Nat} {S : Nat → zR} (h : zGd L S) {p q : Nat} {ts : List zTok} (hp : p ≤ L) (e : S p = (q, some ts)) : q ≤ L ∧ p < q ∧ ts.length ≤ q - p ∧ ∀ t ∈ ts, tkOk t := by
  obtain ⟨h1, h2, h3⟩ := h p hp
  rw [e] at h1 h2 h3
  obtain ⟨g1, g2, g3⟩ := h3 ts rfl
  exact ⟨h1, g2, g1, g3⟩
theorem zGd_n {L : Nat} {S : Nat → zR} (h : zGd L S) {p q : Nat} (hp : p ≤ L) (e : S p = (q, none)) : q ≤ L ∧ p ≤ q := by
  obtain ⟨h1, h2, _⟩ := h p hp
  rw [e] at h1 h2
  exact ⟨h1, h2⟩
theorem zLp_gd {c : Nat → Nat} {L : Nat} {S : Nat → zR} (hBe : ∀ q, L ≤ q → c q = 300) (hS : zGd L S) {ch tk : Nat} (hch : ch < 256) (htk : tk < 3) {b : Nat} : ∀ (f p : Nat) (ts : List zTok), b < p → p ≤ L → ts.length ≤ p - b → (∀ t ∈ ts, tkOk t) → (zLp c S ch tk f p ts).1 ≤ L ∧ p ≤ (zLp c S ch tk f p ts).1 ∧ ∀ us, (zLp c S ch tk f p ts).2 = some us → us.length ≤ (zLp c S ch tk f p ts).1 - b ∧ b < (zLp c S ch tk f p ts).1 ∧ ∀ t ∈ us, tkOk t
  | 0, p, ts, hb, hp, hl, ht => ⟨hp, Nat.le_refl _, fun us h => by cases h; exact ⟨hl, hb, ht⟩⟩
  | f + 1, p, ts, hb, hp, hl, ht => by
    rw [zLp]
    by_cases e : c p = ch
    · rw [if_pos e]
      have hpl : p < L := Nat.lt_of_not_le (fun z => by have := hBe p z; omega)
      rcases hq : S (p + 1) with ⟨q, _ | us⟩
      · have := zGd_n hS (show p + 1 ≤ L by omega) hq
        exact ⟨this.1, by show p ≤ q; omega, fun us h => by cases h⟩
      · obtain ⟨g1, g2, g3, g4⟩ := zGd_a hS (show p + 1 ≤ L by omega) hq
        have := zLp_gd hBe hS hch htk (b := b) f q (ts ++ us ++ [.inl tk]) (by omega) g1 (by simp; omega) (by
          intro t h
          rcases List.mem_append.mp h with h | h
          · rcases List.mem_append.mp h with h | h
            · exact ht t h
            · exact g4 t h
          · have : t = .inl tk := by simpa using h
            subst this; exact htk)
        exact ⟨this.1, by have := this.2.1; simp only; omega, this.2.2⟩
    · rw [if_neg e]; exact ⟨hp, Nat.le_refl _, fun us h => by cases h; exact ⟨hl, hb, ht⟩⟩
theorem zTp_gd {c : Nat → Nat} {L : Nat} {F : Nat → zR} (hBe : ∀ q, L ≤ q → c q = 300) (hF : zGd L F) : zGd L (zTp c F) := by
  intro p hp
  unfold zTp
  rcases hq : F p with ⟨q, _ | ts⟩
  · have := zGd_n hF hp hq
    exact ⟨this.1, this.2, fun us h => by cases h⟩
  · obtain ⟨g1, g2, g3, g4⟩ := zGd_a hF hp hq
    have := zLp_gd hBe hF (ch := 38) (tk := 1) (by decide) (by decide) (b := p) 100 q ts g2 g1 g3 g4
    exact ⟨this.1, by have := this.2.1; simp only; omega, this.2.2⟩
theorem zEp_gd {c : Nat → Nat} {L : Nat} {F : Nat → zR} (hBe : ∀ q, L ≤ q → c q = 300) (hF : zGd L F) : zGd L (zEp c F) := by
  have hT := zTp_gd hBe hF
  intro p hp
  unfold zEp
  rcases hq : zTp c F p with ⟨q, _ | ts⟩
  · have := zGd_n hT hp hq
    exact ⟨this.1, this.2, fun us h => by cases h⟩
  · obtain ⟨g1, g2, g3, g4⟩ := zGd_a hT hp hq
    have := zLp_gd hBe hT (ch := 124) (tk := 2) (by decide) (by decide) (b := p) 100 q ts g2 g1 g3 g4
    exact ⟨this.1, by have := this.2.1; simp only; omega, this.2.2⟩
theorem zFp_gd {c : Nat → Nat} {L : Nat} (hBe : ∀ q, L ≤ q → c q = 300) : ∀ r, zGd L (zFp c r)
  | 0 => by
    intro p hp
    rw [zFp]
    by_cases e : c p = 33 ∨ c p = 40
    · rw [if_pos e]; exact ⟨hp, Nat.le_refl _, fun us h => by cases h⟩
    · rw [if_neg e]; exact zTest_gd hBe p hp
  | r + 1 => by
    have ih := zFp_gd hBe r
    have ihE := zEp_gd hBe ih
    intro p hp
    rw [zFp]
    by_cases e : c p = 33
    · rw [if_pos e]
      have hpl : p < L := Nat.lt_of_not_le (fun z => by have := hBe p z; omega)
      rcases hq : zFp c r (p + 1) with ⟨q, _ | ts⟩
      · have := zGd_n ih (show p + 1 ≤ L by omega) hq
        exact ⟨this.1, by show p ≤ q; omega, fun us h => by cases h⟩
      · obtain ⟨g1, g2, g3, g4⟩ := zGd_a ih (show p + 1 ≤ L by omega) hq
        refine ⟨g1, by show p ≤ q; omega, fun us h => ?_⟩
        cases h
        refine ⟨by simp; omega, by show p < q; omega, fun t h => ?_⟩
        rcases List.mem_append.mp h with h | h
        · exact g4 t h
        · have : t = .inl 0 := by simpa using h
          subst this; exact (by decide : 0 < 3)
    · rw [if_neg e]
      by_cases e2 : c p = 40
      · rw [if_pos e2]
        have hpl : p < L := Nat.lt_of_not_le (fun z => by have := hBe p z; omega)
        rcases hq : zEp c (zFp c r) (p + 1) with ⟨q, _ | ts⟩
        · have := zGd_n ihE (show p + 1 ≤ L by omega) hq
          exact ⟨this.1, by show p ≤ q; omega, fun us h => by cases h⟩
        · obtain ⟨g1, g2, g3, g4⟩ := zGd_a ihE (show p + 1 ≤ L by omega) hq
          simp only
          by_cases e3 : c q = 41
          · rw [if_pos e3]
            have hql : q < L := Nat.lt_of_not_le (fun z => by have := hBe q z; omega)
            refine ⟨hql, by show p ≤ q + 1; omega, fun us h => ?_⟩
            cases h
            exact ⟨by show _ ≤ q + 1 - p; omega, by show p < q + 1; omega, g4⟩
          · rw [if_neg e3]; exact ⟨g1, by show p ≤ q; omega, fun us h => by cases h⟩
      · rw [if_neg e2]; exact zTest_gd hBe p hp
