/-! ways: the two sides meet -/
def cM (f : Nat → Nat) : Nat → Nat
  | 0 => zFar
  | a + 1 => min (cM f a) (f a)
theorem le_cM {f : Nat → Nat} {v : Nat} : ∀ n, v ≤ cM f n ↔ v ≤ zFar ∧ ∀ a, a < n → v ≤ f a
  | 0 => ⟨fun h => ⟨h, fun a ha => absurd ha (Nat.not_lt_zero _)⟩, fun h => h.1⟩
  | n + 1 => by
    rw [cM, Nat.le_min, le_cM n]
    constructor
    · intro ⟨⟨h1, h2⟩, h3⟩
      refine ⟨h1, fun a ha => ?_⟩
      by_cases q : a = n
      · rw [q]; exact h3
      · exact h2 a (by omega)
    · intro ⟨h1, h2⟩
      exact ⟨⟨h1, fun a ha => h2 a (by omega)⟩, h2 n (by omega)⟩
theorem cM_le {f : Nat → Nat} {n : Nat} : cM f n ≤ zFar := ((le_cM n).mp (Nat.le_refl _)).1
theorem cM_leA {f : Nat → Nat} {n a : Nat} (h : a < n) : cM f n ≤ f a := ((le_cM n).mp (Nat.le_refl _)).2 a h
theorem cM_at {f : Nat → Nat} : ∀ n, cM f n < zFar → ∃ a, a < n ∧ f a = cM f n
  | 0, h => absurd h (Nat.lt_irrefl _)
  | n + 1, h => by
    rw [cM] at h ⊢
    by_cases q : cM f n ≤ f n
    · rw [Nat.min_eq_left q] at h ⊢
      obtain ⟨a, h1, h2⟩ := cM_at n h
      exact ⟨a, by omega, h2⟩
    · rw [Nat.min_eq_right (by omega)] at h ⊢
      exact ⟨n, by omega, rfl⟩
theorem eq_le {x y : Nat} (h : ∀ v, v ≤ x ↔ v ≤ y) : x = y := Nat.le_antisymm ((h x).mp (Nat.le_refl _)) ((h y).mpr (Nat.le_refl _))
theorem lbI_cM {G : Nat → Nat → Nat} {L : Nat → Nat} {a : Nat} : ∀ b, lbI G L a b = cM (fun b => G a b + L b) b
  | 0 => rfl
  | b + 1 => by rw [lbI, cM, lbI_cM b]
theorem mst_cM {G : Nat → Nat → Nat} {T : Nat → Nat} {b : Nat} : ∀ a, mst 0 G T a b = cM (fun a => T a + G a b) a
  | 0 => rfl
  | a + 1 => by
    have h := cM_le (f := fun a => T a + G a b) (n := a)
    rw [mst, cM, mst_cM a]
    by_cases q : zFar ≤ T a
    · rw [if_pos (Or.inr q), Nat.min_eq_left (by omega)]
    · rw [if_neg (fun z => z.elim (fun y => by simp [zb] at y) q)]
theorem cM_two {D L : Nat → Nat} {G : Nat → Nat → Nat} {n : Nat} : cM (fun c => cM (fun a => D a + G a c) n + L c) n = cM (fun a => D a + cM (fun c => G a c + L c) n) n := by
  refine eq_le fun v => ?_
  rw [le_cM, le_cM]
  constructor
  · intro ⟨h1, h2⟩
    refine ⟨h1, fun a ha => ?_⟩
    have h3 : v - D a ≤ cM (fun c => G a c + L c) n := (le_cM n).mpr ⟨by omega, fun c hc => by
      have h4 := h2 c hc
      have h5 := cM_leA (f := fun a => D a + G a c) ha
      omega⟩
    omega
  · intro ⟨h1, h2⟩
    refine ⟨h1, fun c hc => ?_⟩
    have h3 : v - L c ≤ cM (fun a => D a + G a c) n := (le_cM n).mpr ⟨by omega, fun a ha => by
      have h4 := h2 a ha
      have h5 := cM_leA (f := fun c => G a c + L c) hc
      omega⟩
    omega
theorem cM_congr {f g : Nat → Nat} {n : Nat} (h : ∀ a, a < n → f a = g a) : cM f n = cM g n := by
  refine eq_le fun v => ?_
  rw [le_cM, le_cM]
  exact ⟨fun q => ⟨q.1, fun a ha => by rw [← h a ha]; exact q.2 a ha⟩, fun q => ⟨q.1, fun a ha => by rw [h a ha]; exact q.2 a ha⟩⟩
/-- in just k steps: forwards and backwards the same -/
theorem hD_lbk {n go : Nat} {G : Nat → Nat → Nat} {T : Nat → Nat} (hgo : go < n) (hT : ∀ b, T b ≤ zFar) : ∀ k j, cM (fun c => hD 0 n G T k c + lbk G n go j c) n = cM (fun c => T c + lbk G n go (j + k) c) n
  | 0, j => rfl
  | k + 1, j => by
    rw [show j + (k + 1) = j + 1 + k by omega, ← hD_lbk hgo hT k (j + 1)]
    rw [cM_congr (g := fun c => cM (fun a => hD 0 n G T k a + G a c) n + lbk G n go j c) (fun a _ => by show mst 0 G (hD 0 n G T k) n a + _ = _; rw [mst_cM])]
    rw [cM_two]
    exact cM_congr (fun a _ => by rw [lbk, lbI_cM])
theorem hD_go {n go : Nat} {G : Nat → Nat → Nat} {T : Nat → Nat} (hgo : go < n) (hT : ∀ b, T b ≤ zFar) (k : Nat) : hD 0 n G T k go = cM (fun c => T c + lbk G n go k c) n := by
  have h := hD_lbk (G := G) hgo hT k 0
  rw [Nat.zero_add] at h
  rw [← h]
  have hl := hD_le (m := 0) (n := n) (G := G) hT k go
  refine Nat.le_antisymm ((le_cM n).mpr ⟨hl, fun a ha => ?_⟩) ?_
  · rw [lbk]; split
    · rename_i e; rw [e, Nat.add_zero]; exact Nat.le_refl _
    · omega
  · have := cM_leA (f := fun c => hD 0 n G T k c + lbk G n go 0 c) hgo
    simp only [lbk, if_true, Nat.add_zero] at this
    exact this
theorem eM_leA {f : Nat → Nat} : ∀ {j k}, k < j → eM f j ≤ f k
  | 0, _, h => absurd h (Nat.not_lt_zero _)
  | j + 1, k, h => by
    rw [eM]
    by_cases q : k = j
    · rw [q]; exact Nat.min_le_right _ _
    · exact Nat.le_trans (Nat.min_le_left _ _) (eM_leA (by omega))
theorem eM_at {f : Nat → Nat} : ∀ j, eM f j < zFar → ∃ k, k < j ∧ f k = eM f j
  | 0, h => absurd h (Nat.lt_irrefl _)
  | j + 1, h => by
    rw [eM] at h ⊢
    by_cases q : eM f j ≤ f j
    · rw [Nat.min_eq_left q] at h ⊢
      obtain ⟨a, h1, h2⟩ := eM_at j h
      exact ⟨a, by omega, h2⟩
    · rw [Nat.min_eq_right (by omega)] at h ⊢
      exact ⟨j, by omega, rfl⟩
/-- the first of a row with a property -/
noncomputable def ffi (P : Nat → Prop) (n : Nat) : Nat → Option Nat
  | 0 => none
  | j + 1 => cif (P (n - (j + 1))) (some (n - (j + 1))) (ffi P n j)
theorem ffi_no {P : Nat → Prop} {n : Nat} : ∀ j, j ≤ n → ffi P n j = none → ∀ a, n - j ≤ a → a < n → ¬ P a
  | 0, _, _, a, h1, h2 => by omega
  | j + 1, hj, h, a, h1, h2 => by
    rw [ffi] at h
    by_cases q : P (n - (j + 1))
    · rw [cif_t q] at h; cases h
    · rw [cif_f q] at h
      by_cases z : a = n - (j + 1)
      · rw [z]; exact q
      · exact ffi_no j (by omega) h a (by omega) h2
theorem ffi_some {P : Nat → Prop} {n x : Nat} : ∀ j, j ≤ n → ffi P n j = some x → n - j ≤ x ∧ x < n ∧ P x ∧ ∀ a, n - j ≤ a → a < x → ¬ P a
  | 0, _, h => by cases h
  | j + 1, hj, h => by
    rw [ffi] at h
    by_cases q : P (n - (j + 1))
    · rw [cif_t q] at h; cases h
      exact ⟨Nat.le_refl _, by omega, q, fun a h1 h2 => by omega⟩
    · rw [cif_f q] at h
      obtain ⟨h1, h2, h3, h4⟩ := ffi_some j (by omega) h
      refine ⟨by omega, h2, h3, fun a h5 h6 => ?_⟩
      by_cases z : a = n - (j + 1)
      · rw [z]; exact q
      · exact h4 a (by omega) h6
theorem ffi_wnx {G : Nat → Nat → Nat} {L : Nat → Nat} {at0 due n x : Nat} : ∀ j, ffi (fun b => G at0 b + L b = due) n j = some x → wnx G L at0 due n j = x
  | 0, h => by cases h
  | j + 1, h => by
    rw [ffi] at h
    rw [wnx]
    by_cases q : G at0 (n - (j + 1)) + L (n - (j + 1)) = due
    · rw [cif_t q] at h; cases h; exact if_pos q
    · rw [cif_f q] at h; rw [if_neg q]; exact ffi_wnx j h
theorem wayR_u {n st : Nat} {G : Nat → Nat → Nat} {T : Nat → Nat} {go l1 l2 : Nat} {r1 r2 : Nat → Nat} (h1 : wayR n st G T go l1 r1) (h2 : wayR n st G T go l2 r2) : l1 = l2 ∧ ∀ s, s < l1 → r1 s = r2 s := by
  rcases h1 with ⟨a, a1⟩ | ⟨a, ⟨u, c, a1, a2, a3, a4, a5, a6, a7⟩ | ⟨a1, a2⟩⟩
  · rcases h2 with ⟨b, b1⟩ | ⟨b, _⟩
    · exact ⟨by omega, fun s hs => by omega⟩
    · omega
  · rcases h2 with ⟨b, b1⟩ | ⟨b, ⟨v, d, b1, b2, b3, b4, b5, b6, b7⟩ | ⟨b1, b2⟩⟩
    · omega
    · have e1 : u = v := by
        rcases Nat.lt_trichotomy u v with q | q | q
        · exact absurd a3 (b4 u c q a2)
        · exact q
        · exact absurd b3 (a4 v d q b2)
      subst e1
      have e2 : c = d := by
        rcases Nat.lt_trichotomy c d with q | q | q
        · exact absurd a3 (b5 c q)
        · exact q
        · exact absurd b3 (a5 d q)
      subst e2
      exact ⟨by omega, fun s hs => by rw [a7 s (by omega), b7 s (by omega)]⟩
    · exact absurd a3 (b1 u c a1 a2)
  · rcases h2 with ⟨b, b1⟩ | ⟨b, ⟨v, d, b1, b2, b3, _⟩ | ⟨b1, b2⟩⟩
    · omega
    · exact absurd b3 (a1 v d b1 b2)
    · exact ⟨by omega, fun s hs => by omega⟩
