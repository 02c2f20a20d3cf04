/-! the reference's reading of conditions: a pure machine, and that it is the readers' -/
def opT (x : Nat) : zTok := if x = 33 then .inl 0 else if x = 38 then .inl 1 else .inl 2
def whW : List Nat → List Nat
  | [] => []
  | x :: ws => if x = 33 then whW ws else x :: ws
def whT : List Nat → List zTok
  | [] => []
  | x :: ws => if x = 33 then .inl 0 :: whT ws else []
def stW (s : Nat) : List Nat → List Nat
  | [] => []
  | x :: ws => if x = 38 ∨ (x = 124 ∧ s ≠ 38) then stW s ws else x :: ws
def stT (s : Nat) : List Nat → List zTok
  | [] => []
  | x :: ws => if x = 38 ∨ (x = 124 ∧ s ≠ 38) then opT x :: stT s ws else []
def cntW : List Nat → Nat
  | [] => 0
  | x :: ws => (if x = 33 ∨ x = 40 then 1 else 0) + cntW ws
noncomputable def mRun (c : Nat → Nat) : Nat → Nat → List Nat → Bool → List zTok → zR
  | 0, p, _, _, _ => (p, none)
  | f + 1, p, ws, true, ts => if c p = 33 ∨ c p = 40 then (if cntW ws = 4 then (p, none) else mRun c f (p + 1) (c p :: ws) true ts) else
      match zTest c p with
      | (q, none) => (q, none)
      | (q, some us) => mRun c f q (whW ws) false (ts ++ us ++ whT ws)
  | f + 1, p, ws, false, ts => if c p = 38 ∨ c p = 124 then mRun c f (p + 1) (c p :: stW (c p) ws) true (ts ++ stT (c p) ws) else
      match stW 124 ws with
      | [] => (p, some (ts ++ stT 124 ws))
      | _ :: ws1 => if c p = 41 then mRun c f (p + 1) (whW ws1) false (ts ++ stT 124 ws ++ whT ws1) else (p, none)
theorem mRun_38 {c : Nat → Nat} {f q : Nat} {ws : List Nat} {ts : List zTok} : mRun c f q (38 :: ws) false ts = mRun c f q ws false (ts ++ [.inl 1]) := by
  cases f with
  | zero => rfl
  | succ f =>
    have h1 : ∀ s, stW s (38 :: ws) = stW s ws := fun s => by rw [stW, if_pos (Or.inl rfl)]
    have h2 : ∀ s, ts ++ stT s (38 :: ws) = ts ++ [.inl 1] ++ stT s ws := fun s => by rw [stT, if_pos (Or.inl rfl), List.append_assoc]; rfl
    rw [mRun, mRun, h1, h1, h2, h2]
theorem mRun_124 {c : Nat → Nat} {f q : Nat} {ws : List Nat} {ts : List zTok} (hq : c q ≠ 38) : mRun c f q (124 :: ws) false ts = mRun c f q ws false (ts ++ [.inl 2]) := by
  cases f with
  | zero => rfl
  | succ f =>
    have h1 : ∀ s, s ≠ 38 → stW s (124 :: ws) = stW s ws := fun s hs => by rw [stW, if_pos (Or.inr ⟨rfl, hs⟩)]
    have h2 : ∀ s, s ≠ 38 → ts ++ stT s (124 :: ws) = ts ++ [.inl 2] ++ stT s ws := fun s hs => by rw [stT, if_pos (Or.inr ⟨rfl, hs⟩), List.append_assoc]; rfl
    rw [mRun, mRun, h1 (c q) hq, h1 124 (by decide), h2 (c q) hq, h2 124 (by decide)]
/-- a base: nothing, or an open bracket on top -/
def bsW (B : List Nat) : Prop := B = [] ∨ ∃ ws, B = 40 :: ws
theorem bsW_st {B : List Nat} (h : bsW B) (s : Nat) : stW s B = B ∧ stT s B = [] ∧ whW B = B ∧ whT B = [] := by
  rcases h with h | ⟨ws, h⟩
  · subst h; exact ⟨rfl, rfl, rfl, rfl⟩
  · subst h
    have e : ¬ ((40 : Nat) = 38 ∨ ((40 : Nat) = 124 ∧ s ≠ 38)) := fun q => q.elim (by decide) (fun z => absurd z.1 (by decide))
    refine ⟨by rw [stW, if_neg e], by rw [stT, if_neg e], rfl, rfl⟩
/-- a base of a term: a base, perhaps with an OR upon it -/
def btW (B : List Nat) : Prop := bsW B ∨ ∃ ws, B = 124 :: ws
theorem btW_st {B : List Nat} (h : btW B) : stW 38 B = B ∧ stT 38 B = [] ∧ whW B = B ∧ whT B = [] := by
  rcases h with h | ⟨ws, h⟩
  · exact bsW_st h 38
  · subst h
    have e : ¬ ((124 : Nat) = 38 ∨ ((124 : Nat) = 124 ∧ (38 : Nat) ≠ 38)) := by decide
    refine ⟨by rw [stW, if_neg e], by rw [stT, if_neg e], rfl, rfl⟩
/-- a reader and the machine go alike -/
def mLk (c : Nat → Nat) (L : Nat) (S : Nat → zR) (ws : List Nat) (p f : Nat) (ts : List zTok) (K : Nat → Nat → List zTok → zR) : Prop := (∀ q, S p = (q, none) → mRun c f p ws true ts = (q, none)) ∧ ∀ q us, S p = (q, some us) → ∃ f', L + 1 - q ≤ f' ∧ mRun c f p ws true ts = K f' q (ts ++ us)
def mF (c : Nat → Nat) (L : Nat) (r : Nat) : Prop := ∀ ws p f ts, cntW ws + r = 4 → p ≤ L → L + 1 - p ≤ f → mLk c L (zFp c r) ws p f ts (fun f' q us => mRun c f' q (whW ws) false (us ++ whT ws))
theorem mT_loop {c : Nat → Nat} {L r : Nat} {B : List Nat} (hl : L ≤ 100) (hBe : ∀ q, L ≤ q → c q = 300) (hF : mF c L r) (hB : btW B) (hc : cntW B + r = 4) : ∀ k q acc f ts, q ≤ L → 100 ≤ k + q → L + 1 - q ≤ f →
    (∀ q', zLp c (zFp c r) 38 1 k q acc = (q', none) → mRun c f q B false (ts ++ acc) = (q', none)) ∧ ∀ q' us, zLp c (zFp c r) 38 1 k q acc = (q', some us) → c q' ≠ 38 ∧ q' ≤ L ∧ ∃ f', L + 1 - q' ≤ f' ∧ mRun c f q B false (ts ++ acc) = mRun c f' q' B false (ts ++ us)
  | 0, q, acc, f, ts, hq, hk, hf => by
    rw [zLp]
    refine ⟨fun q' h => by simp at h, fun q' us h => ?_⟩
    obtain ⟨e1, e2⟩ := Prod.mk.inj h
    have e3 := Option.some.inj e2
    subst e1; subst e3
    exact ⟨by rw [hBe q (by omega)]; decide, hq, f, hf, rfl⟩
  | k + 1, q, acc, f, ts, hq, hk, hf => by
    rw [zLp]
    by_cases hc38 : c q = 38
    · have hqL : q < L := Nat.lt_of_not_le (fun z => by have := hBe q z; omega)
      rw [if_pos hc38]
      obtain ⟨f1, hf1⟩ : ∃ f1, f = f1 + 1 := ⟨f - 1, by omega⟩
      subst hf1
      obtain ⟨b1, b2, b3, b4⟩ := btW_st hB
      have hstep : mRun c (f1 + 1) q B false (ts ++ acc) = mRun c f1 (q + 1) (38 :: B) true (ts ++ acc) := by
        rw [mRun, if_pos (Or.inl hc38), hc38, b1, b2, List.append_nil]
      have hcc : cntW (38 :: B) + r = 4 := by rw [cntW, if_neg (by decide), Nat.zero_add]; exact hc
      obtain ⟨g1, g2⟩ := hF (38 :: B) (q + 1) f1 (ts ++ acc) hcc (by omega) (by omega)
      have hw1 : whW (38 :: B) = 38 :: B := by rw [whW, if_neg (by decide)]
      have hw2 : whT (38 :: B) = [] := by rw [whT, if_neg (by decide)]
      rcases hS : zFp c r (q + 1) with ⟨q2, _ | us⟩
      · refine ⟨fun q' h => ?_, fun q' us h => by simp at h⟩
        have e1 := (Prod.mk.inj h).1
        subst e1
        rw [hstep]; exact g1 _ hS
      · obtain ⟨k1, k2, k3, k4⟩ := zGd_a (zFp_gd hBe r) (show q + 1 ≤ L by omega) hS
        obtain ⟨f2, hf2, he⟩ := g2 q2 us hS
        simp only [hw1, hw2, List.append_nil] at he
        rw [mRun_38] at he
        simp only
        have ih := mT_loop hl hBe hF hB hc k q2 (acc ++ us ++ [.inl 1]) f2 ts k1 (by omega) hf2
        have hassoc : ts ++ acc ++ us ++ [.inl 1] = ts ++ (acc ++ us ++ [.inl 1]) := by simp only [List.append_assoc]
        rw [hstep, he, hassoc]
        exact ih
    · rw [if_neg hc38]
      refine ⟨fun q' h => by simp at h, fun q' us h => ?_⟩
      obtain ⟨e1, e2⟩ := Prod.mk.inj h
      have e3 := Option.some.inj e2
      subst e1; subst e3
      exact ⟨hc38, hq, f, hf, rfl⟩
theorem mT {c : Nat → Nat} {L r : Nat} {B : List Nat} (hl : L ≤ 100) (hBe : ∀ q, L ≤ q → c q = 300) (hF : mF c L r) (hB : btW B) (hc : cntW B + r = 4) {p f : Nat} {ts : List zTok} (hp : p ≤ L) (hf : L + 1 - p ≤ f) :
    (∀ q, zTp c (zFp c r) p = (q, none) → mRun c f p B true ts = (q, none)) ∧ ∀ q us, zTp c (zFp c r) p = (q, some us) → c q ≠ 38 ∧ q ≤ L ∧ p < q ∧ ∃ f', L + 1 - q ≤ f' ∧ mRun c f p B true ts = mRun c f' q B false (ts ++ us) := by
  obtain ⟨g1, g2⟩ := hF B p f ts hc hp hf
  obtain ⟨b1, b2, b3, b4⟩ := btW_st hB
  rcases hS : zFp c r p with ⟨q1, _ | us1⟩
  · unfold zTp
    rw [hS]; simp only
    refine ⟨fun q h => ?_, fun q us h => by simp at h⟩
    have e1 := (Prod.mk.inj h).1
    subst e1; exact g1 _ hS
  · obtain ⟨k1, k2, k3, k4⟩ := zGd_a (zFp_gd hBe r) hp hS
    obtain ⟨f1, hf1, he⟩ := g2 q1 us1 hS
    simp only [b3, b4, List.append_nil] at he
    have hT := zTp_gd hBe (zFp_gd hBe r)
    have ih := mT_loop hl hBe hF hB hc 100 q1 us1 f1 ts k1 (by omega) hf1
    refine ⟨fun q h => ?_, fun q us h => ?_⟩
    · unfold zTp at h
      rw [hS] at h; simp only at h
      rw [he]; exact ih.1 q h
    · have k5 := zGd_a hT hp h
      unfold zTp at h
      rw [hS] at h; simp only at h
      obtain ⟨i1, i2, f', i3, i4⟩ := ih.2 q us h
      exact ⟨i1, i2, k5.2.1, f', i3, by rw [he]; exact i4⟩
/-- an E's end -/
noncomputable def mFin (c : Nat → Nat) (B : List Nat) (f q : Nat) (ts : List zTok) : zR := match B with
  | [] => (q, some ts)
  | _ :: ws1 => if c q = 41 then mRun c f (q + 1) (whW ws1) false (ts ++ whT ws1) else (q, none)
theorem mE_loop {c : Nat → Nat} {L r : Nat} {B : List Nat} (hl : L ≤ 100) (hBe : ∀ q, L ≤ q → c q = 300) (hF : mF c L r) (hB : bsW B) (hc : cntW B + r = 4) : ∀ k q acc f ts, q ≤ L → 100 ≤ k + q → L + 1 - q ≤ f → c q ≠ 38 →
    (∀ q', zLp c (zTp c (zFp c r)) 124 2 k q acc = (q', none) → mRun c f q B false (ts ++ acc) = (q', none)) ∧ ∀ q' us, zLp c (zTp c (zFp c r)) 124 2 k q acc = (q', some us) → ∃ f', L + 1 - q' ≤ f' + 1 ∧ mRun c f q B false (ts ++ acc) = mFin c B f' q' (ts ++ us)
  | k, q, acc, f, ts, hq, hk, hf, h38 => by
    obtain ⟨f1, hf1⟩ : ∃ f1, f = f1 + 1 := ⟨f - 1, by omega⟩
    subst hf1
    have hend : c q ≠ 124 → mRun c (f1 + 1) q B false (ts ++ acc) = mFin c B f1 q (ts ++ acc) := fun h124 => by
      obtain ⟨b1, b2, b3, b4⟩ := bsW_st hB 124
      rw [mRun, if_neg (fun z => z.elim h38 h124), b1, b2, List.append_nil]
      unfold mFin; rfl
    cases k with
    | zero =>
      rw [zLp]
      refine ⟨fun q' h => by simp at h, fun q' us h => ?_⟩
      obtain ⟨e1, e2⟩ := Prod.mk.inj h
      have e3 := Option.some.inj e2
      subst e1; subst e3
      exact ⟨f1, hf, hend (by rw [hBe q (by omega)]; decide)⟩
    | succ k =>
      rw [zLp]
      by_cases h124 : c q = 124
      · have hqL : q < L := Nat.lt_of_not_le (fun z => by have := hBe q z; omega)
        rw [if_pos h124]
        obtain ⟨b1, b2, b3, b4⟩ := bsW_st hB 124
        have hstep : mRun c (f1 + 1) q B false (ts ++ acc) = mRun c f1 (q + 1) (124 :: B) true (ts ++ acc) := by
          rw [mRun, if_pos (Or.inr h124), h124, b1, b2, List.append_nil]
        have hcc : cntW (124 :: B) + r = 4 := by rw [cntW, if_neg (by decide), Nat.zero_add]; exact hc
        obtain ⟨g1, g2⟩ := mT hl hBe hF (Or.inr ⟨B, rfl⟩) hcc (p := q + 1) (f := f1) (ts := ts ++ acc) (by omega) (by omega)
        rcases hS : zTp c (zFp c r) (q + 1) with ⟨q2, _ | us⟩
        · refine ⟨fun q' h => ?_, fun q' us h => by simp at h⟩
          have e1 := (Prod.mk.inj h).1
          subst e1
          rw [hstep]; exact g1 _ hS
        · obtain ⟨k1, k2, k3, f2, hf2, he⟩ := g2 q2 us hS
          rw [mRun_124 k1] at he
          simp only
          have ih := mE_loop hl hBe hF hB hc k q2 (acc ++ us ++ [.inl 2]) f2 ts k2 (by omega) hf2 k1
          have hassoc : ts ++ acc ++ us ++ [.inl 2] = ts ++ (acc ++ us ++ [.inl 2]) := by simp only [List.append_assoc]
          rw [hstep, he, hassoc]
          exact ih
      · rw [if_neg h124]
        refine ⟨fun q' h => by simp at h, fun q' us h => ?_⟩
        obtain ⟨e1, e2⟩ := Prod.mk.inj h
        have e3 := Option.some.inj e2
        subst e1; subst e3
        exact ⟨f1, hf, hend h124⟩
theorem mE {c : Nat → Nat} {L r : Nat} {B : List Nat} (hl : L ≤ 100) (hBe : ∀ q, L ≤ q → c q = 300) (hF : mF c L r) (hB : bsW B) (hc : cntW B + r = 4) {p f : Nat} {ts : List zTok} (hp : p ≤ L) (hf : L + 1 - p ≤ f) :
    (∀ q, zEp c (zFp c r) p = (q, none) → mRun c f p B true ts = (q, none)) ∧ ∀ q us, zEp c (zFp c r) p = (q, some us) → ∃ f', L + 1 - q ≤ f' + 1 ∧ mRun c f p B true ts = mFin c B f' q (ts ++ us) := by
  obtain ⟨g1, g2⟩ := mT hl hBe hF (Or.inl hB) hc (ts := ts) hp hf
  rcases hS : zTp c (zFp c r) p with ⟨q1, _ | us1⟩
  · unfold zEp
    rw [hS]; simp only
    refine ⟨fun q h => ?_, fun q us h => by simp at h⟩
    have e1 := (Prod.mk.inj h).1
    subst e1; exact g1 _ hS
  · obtain ⟨k1, k2, k3, f1, hf1, he⟩ := g2 q1 us1 hS
    have ih := mE_loop hl hBe hF hB hc 100 q1 us1 f1 ts k2 (by omega) hf1 k1
    refine ⟨fun q h => ?_, fun q us h => ?_⟩
    · unfold zEp at h
      rw [hS] at h; simp only at h
      rw [he]; exact ih.1 q h
    · unfold zEp at h
      rw [hS] at h; simp only at h
      obtain ⟨f', i3, i4⟩ := ih.2 q us h
      exact ⟨f', i3, by rw [he]; exact i4⟩
theorem mF_test {c : Nat → Nat} {L f p : Nat} {ws : List Nat} {ts : List zTok} (hBe : ∀ q, L ≤ q → c q = 300) (hp : p ≤ L) (hf : L + 1 - p ≤ f + 1) (h33 : c p ≠ 33) (h40 : c p ≠ 40) : mLk c L (zTest c) ws p (f + 1) ts (fun f' q us => mRun c f' q (whW ws) false (us ++ whT ws)) := by
  refine ⟨fun q h => ?_, fun q us h => ?_⟩
  · rw [mRun, if_neg (fun z => z.elim h33 h40), h]
  · obtain ⟨k1, k2, k3, k4⟩ := zGd_a (zTest_gd hBe) hp h
    refine ⟨f, by omega, ?_⟩
    rw [mRun, if_neg (fun z => z.elim h33 h40), h]
theorem mF_all {c : Nat → Nat} {L : Nat} (hl : L ≤ 100) (hBe : ∀ q, L ≤ q → c q = 300) : ∀ r, mF c L r
  | 0 => fun ws p f ts hc hp hf => by
    obtain ⟨f1, hf1⟩ : ∃ f1, f = f1 + 1 := ⟨f - 1, by omega⟩
    subst hf1
    by_cases h : c p = 33 ∨ c p = 40
    · refine ⟨fun q hq => ?_, fun q us hq => ?_⟩
      · rw [zFp, if_pos h] at hq
        have e1 := (Prod.mk.inj hq).1
        subst e1
        rw [mRun, if_pos h, if_pos (by omega)]
      · rw [zFp, if_pos h] at hq; simp at hq
    · have e : zFp c 0 p = zTest c p := by rw [zFp, if_neg h]
      have t := mF_test (ws := ws) (ts := ts) hBe hp hf (fun z => h (Or.inl z)) (fun z => h (Or.inr z))
      exact ⟨fun q hq => t.1 q (e ▸ hq), fun q us hq => t.2 q us (e ▸ hq)⟩
  | r + 1 => fun ws p f ts hc hp hf => by
    have ih := mF_all hl hBe r
    obtain ⟨f1, hf1⟩ : ∃ f1, f = f1 + 1 := ⟨f - 1, by omega⟩
    subst hf1
    by_cases h33 : c p = 33
    · have hpL : p < L := Nat.lt_of_not_le (fun z => by have := hBe p z; omega)
      have hstep : mRun c (f1 + 1) p ws true ts = mRun c f1 (p + 1) (33 :: ws) true ts := by
        rw [mRun, if_pos (Or.inl h33), if_neg (by omega), h33]
      have hcc : cntW (33 :: ws) + r = 4 := by rw [cntW, if_pos (Or.inl rfl)]; omega
      obtain ⟨g1, g2⟩ := ih (33 :: ws) (p + 1) f1 ts hcc (by omega) (by omega)
      have hw1 : whW (33 :: ws) = whW ws := by rw [whW, if_pos rfl]
      have hw2 : whT (33 :: ws) = .inl 0 :: whT ws := by rw [whT, if_pos rfl]
      refine ⟨fun q hq => ?_, fun q us hq => ?_⟩
      · rw [zFp, if_pos h33] at hq
        rcases hS : zFp c r (p + 1) with ⟨q2, _ | us2⟩
        · rw [hS] at hq
          have e1 := (Prod.mk.inj hq).1
          subst e1
          rw [hstep]; exact g1 _ hS
        · rw [hS] at hq; simp at hq
      · rw [zFp, if_pos h33] at hq
        rcases hS : zFp c r (p + 1) with ⟨q2, _ | us2⟩
        · rw [hS] at hq; simp at hq
        · rw [hS] at hq; simp only at hq
          obtain ⟨e1, e2⟩ := Prod.mk.inj hq
          have e3 := Option.some.inj e2
          subst e1; subst e3
          obtain ⟨f2, hf2, he⟩ := g2 q2 us2 hS
          refine ⟨f2, hf2, ?_⟩
          rw [hstep, he, hw1, hw2]
          simp only [List.append_assoc]; rfl
    · by_cases h40 : c p = 40
      · have hpL : p < L := Nat.lt_of_not_le (fun z => by have := hBe p z; omega)
        have hstep : mRun c (f1 + 1) p ws true ts = mRun c f1 (p + 1) (40 :: ws) true ts := by
          rw [mRun, if_pos (Or.inr h40), if_neg (by omega), h40]
        have hcc : cntW (40 :: ws) + r = 4 := by rw [cntW, if_pos (Or.inr rfl)]; omega
        obtain ⟨g1, g2⟩ := mE hl hBe ih (Or.inr ⟨ws, rfl⟩) hcc (p := p + 1) (f := f1) (ts := ts) (by omega) (by omega)
        refine ⟨fun q hq => ?_, fun q us hq => ?_⟩
        · rw [zFp, if_neg h33, if_pos h40] at hq
          rcases hS : zEp c (zFp c r) (p + 1) with ⟨q2, _ | us2⟩
          · rw [hS] at hq
            have e1 := (Prod.mk.inj hq).1
            subst e1
            rw [hstep]; exact g1 _ hS
          · rw [hS] at hq; simp only at hq
            by_cases h41 : c q2 = 41
            · rw [if_pos h41] at hq; simp at hq
            · rw [if_neg h41] at hq
              have e1 := (Prod.mk.inj hq).1
              subst e1
              obtain ⟨f2, hf2, he⟩ := g2 q2 us2 hS
              rw [hstep, he, mFin, if_neg h41]
        · rw [zFp, if_neg h33, if_pos h40] at hq
          rcases hS : zEp c (zFp c r) (p + 1) with ⟨q2, _ | us2⟩
          · rw [hS] at hq; simp at hq
          · rw [hS] at hq; simp only at hq
            by_cases h41 : c q2 = 41
            · rw [if_pos h41] at hq
              obtain ⟨e1, e2⟩ := Prod.mk.inj hq
              have e3 := Option.some.inj e2
              subst e1; subst e3
              obtain ⟨f2, hf2, he⟩ := g2 q2 us2 hS
              refine ⟨f2, by omega, ?_⟩
              rw [hstep, he, mFin, if_pos h41]
            · rw [if_neg h41] at hq; simp at hq
      · have e : zFp c (r + 1) p = zTest c p := by rw [zFp, if_neg h33, if_neg h40]
        have t := mF_test (ws := ws) (ts := ts) hBe hp hf h33 h40
        exact ⟨fun q hq => t.1 q (e ▸ hq), fun q us hq => t.2 q us (e ▸ hq)⟩
/-- the machine is the reader -/
theorem mRun_all {c : Nat → Nat} {L p f : Nat} (hl : L ≤ 100) (hBe : ∀ q, L ≤ q → c q = 300) (hp : p ≤ L) (hf : L + 1 - p ≤ f) : mRun c f p [] true [] = zEp c (zFp c 4) p := by
  obtain ⟨g1, g2⟩ := mE hl hBe (mF_all hl hBe 4) (Or.inl rfl) (show cntW [] + 4 = 4 from rfl) (ts := []) hp hf
  rcases hS : zEp c (zFp c 4) p with ⟨q, _ | us⟩
  · exact g1 q hS
  · obtain ⟨f', _, he⟩ := g2 q us hS
    rw [he]; rfl
