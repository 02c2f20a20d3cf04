/-! reading by levels: what is read, and how its pieces join -/
def zLp (c : Nat → Nat) (S : Nat → zR) (ch tk : Nat) : Nat → Nat → List zTok → zR
  | 0, p, ts => (p, some ts)
  | f + 1, p, ts => if c p = ch then (match S (p + 1) with
    | (q, none) => (q, none)
    | (q, some us) => zLp c S ch tk f q (ts ++ us ++ [.inl tk])) else (p, some ts)
def zTp (c : Nat → Nat) (F : Nat → zR) (p : Nat) : zR := match F p with
  | (q, none) => (q, none)
  | (q, some ts) => zLp c F 38 1 100 q ts
def zEp (c : Nat → Nat) (F : Nat → zR) (p : Nat) : zR := match zTp c F p with
  | (q, none) => (q, none)
  | (q, some ts) => zLp c (zTp c F) 124 2 100 q ts
noncomputable def zFp (c : Nat → Nat) : Nat → Nat → zR
  | 0, p => if c p = 33 ∨ c p = 40 then (p, none) else zTest c p
  | r + 1, p => if c p = 33 then (match zFp c r (p + 1) with
    | (q, none) => (q, none)
    | (q, some ts) => (q, some (ts ++ [.inl 0]))) else if c p = 40 then (match zEp c (zFp c r) (p + 1) with
    | (q, none) => (q, none)
    | (q, some ts) => if c q = 41 then (q + 1, some ts) else (q, none)) else zTest c p
theorem zPs_id {I : zI} {i u p : Nat} (hp : I 2 2 = nI p) (hU : I (47 + 5 * i) 5 = nI u) : zPs I I i u (p, some []) 1 :=
  ⟨by show I 2 = upd (I 2) 2 (nI p); rw [← hp, upd_id], fun _ _ _ _ => rfl, rfl, by rw [show u + ([] : List zTok).length = u from rfl, ← hU, upd_id], fun _ _ => rfl, fun j hj => absurd hj (Nat.not_lt_zero _)⟩
theorem zPs_tr {I K K' : zI} {i u q q' : Nat} {ts us : List zTok} (h1 : zPs I K i u (q, some ts) 1) (h2 : zPs K K' i (u + ts.length) (q', some us) 1) : zPs I K' i u (q', some (ts ++ us)) 1 := by
  obtain ⟨a1, a2, _, a3, a4, a5⟩ := h1
  obtain ⟨b1, b2, _, b3, b4, b5⟩ := h2
  refine ⟨?_, ?_, rfl, ?_, ?_, ?_⟩
  · rw [b1, a1, upd_2]
  · intro k h1 h2 h3; rw [b2 k h1 h2 h3, a2 k h1 h2 h3]
  · rw [b3, a3, upd_2, List.length_append, Nat.add_assoc]
  · intro j hj; rw [b4 j (by omega), a4 j hj]
  · intro j hj
    rw [List.length_append] at hj
    by_cases q : j < ts.length
    · rw [b4 (u + j) (by omega), a5 j q, List.getD_eq_getElem?_getD, List.getD_eq_getElem?_getD, List.getElem?_append_left q]
    · have := b5 (j - ts.length) (by omega)
      rw [show u + ts.length + (j - ts.length) = u + j by omega] at this
      rw [this, List.getD_eq_getElem?_getD, List.getD_eq_getElem?_getD, List.getElem?_append_right (by omega)]
theorem zPs_no {I K K' : zI} {i u q q' : Nat} {ts : List zTok} (h1 : zPs I K i u (q, some ts) 1) (h2 : zPs K K' i (u + ts.length) (q', none) 0) : zPs I K' i u (q', none) 0 := by
  obtain ⟨a1, a2, _⟩ := h1
  obtain ⟨b1, b2, _⟩ := h2
  exact ⟨by rw [b1, a1, upd_2], fun k h1 h2 h3 => by rw [b2 k h1 h2 h3, a2 k h1 h2 h3], rfl⟩
theorem zPs_eat {K : zI} {i u q : Nat} (hU : K (47 + 5 * i) 5 = nI u) : zPs K (zup K 2 (upd (K 2) 2 (nI (q + 1)))) i u (q + 1, some []) 1 := by
  refine ⟨zup_s, fun k h1 _ _ => zup_n h1, rfl, ?_, fun j _ => by rw [zup_n (by omega)], fun j hj => absurd hj (Nat.not_lt_zero _)⟩
  rw [zup_n (by omega), show u + ([] : List zTok).length = u from rfl, ← hU, upd_id]
theorem zPs_add {K : zI} {i u q : Nat} {t : zTok} (hp : K 2 2 = nI q) : zPs K (zup (zup K (47 + 5 * i + 4) (upd (K (47 + 5 * i + 4)) u (cTok t))) (47 + 5 * i) (upd (K (47 + 5 * i)) 5 (nI (u + 1)))) i u (q, some [t]) 1 := by
  refine ⟨?_, ?_, rfl, ?_, ?_, ?_⟩
  · rw [zup_n (by omega), zup_n (by omega), ← hp, upd_id]
  · intro k h1 h2 h3; rw [zup_n h2, zup_n h3]
  · rw [zup_s]; rfl
  · intro j hj; rw [zup_n (by omega), zup_s, upd_n (by omega)]
  · intro j hj
    have hj0 : j = 0 := by simp at hj; omega
    subst hj0
    rw [zup_n (by omega), zup_s]; exact upd_s
theorem zPs_f {I K : zI} {i u q : Nat} {ts : List zTok} (h : zPs I K i u (q, some ts) 1) : K 2 2 = nI q ∧ K 2 1 = I 2 1 ∧ K (47 + 5 * i) 5 = nI (u + ts.length) ∧ (i < 7 → K 3 = I 3) := by
  obtain ⟨a1, a2, _, a3, a4, a5⟩ := h
  exact ⟨by rw [a1]; exact upd_s, by rw [a1]; exact upd_n (by decide), by rw [a3]; exact upd_s, fun hi => a2 3 (by decide) (by omega) (by omega)⟩
/-- how far a parser goes -/
def zGd (L : Nat) (S : Nat → zR) : Prop := ∀ p, p ≤ L → (S p).1 ≤ L ∧ p ≤ (S p).1 ∧ ∀ ts, (S p).2 = some ts → ts.length ≤ (S p).1 - p ∧ p < (S p).1 ∧ ∀ t ∈ ts, tkOk t
theorem zTest_gd {c : Nat → Nat} {L : Nat} (hBe : ∀ q, L ≤ q → c q = 300) : zGd L (zTest c) := by
  intro p hp
  unfold zTest
  cases h1 : zWh 5 (c p) (zLen.getD 5 0) 0 with
  | none => exact ⟨hp, Nat.le_refl _, fun ts h => by cases h⟩
  | some l =>
    have hl := zWh_L (by decide) h1
    have hpl : p < L := Nat.lt_of_not_le (fun z => by have := hBe _ z; omega)
    simp only
    cases h2 : zWh 6 (c (p + 1)) (zLen.getD 6 0) 0 with
    | none => exact ⟨by show p + 1 ≤ L; omega, Nat.le_succ _, fun ts h => by cases h⟩
    | some r =>
      have hr := zWh_L (by decide) h2
      have hpl2 : p + 1 < L := Nat.lt_of_not_le (fun z => by have := hBe _ z; omega)
      have hdl := zDc_L hBe 2 (p + 1 + 1) (by omega)
      have hd2 := zDc_le (c := c) 2 (p + 1 + 1)
      simp only
      by_cases hd : zDc c 2 (p + 1 + 1) = 0
      · rw [if_pos hd]; exact ⟨by show p + 1 + 1 ≤ L; omega, by show p ≤ p + 1 + 1; omega, fun ts h => by cases h⟩
      · rw [if_neg hd]
        refine ⟨hdl, by show p ≤ p + 1 + 1 + _; omega, fun ts h => ?_⟩
        cases h
        refine ⟨by show 1 ≤ p + 1 + 1 + _ - p; omega, by show p < p + 1 + 1 + _; omega, fun t ht => ?_⟩
        have : t = .inr (l, r, zDv c (p + 1 + 1) (zDc c 2 (p + 1 + 1))) := by simpa using ht
        subst this
        have hv := zDv_lt (c := c) (p := p + 1 + 1) (zDc c 2 (p + 1 + 1)) (fun j hj => zDc_dig 2 (p + 1 + 1) j hj)
        have hv2 : 10 ^ zDc c 2 (p + 1 + 1) ≤ 10 ^ 2 := Nat.pow_le_pow_right (by decide) hd2
        have e5 : zLen.getD 5 0 = 5 := rfl
        have e6 : zLen.getD 6 0 = 3 := rfl
        exact ⟨by omega, by omega, by omega⟩
