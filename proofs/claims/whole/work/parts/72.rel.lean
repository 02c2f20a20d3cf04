/-! the law: what both sides' rows have in common -/
/-- numbers of a standing world, sound -/
def rSt (n tr bk h : Nat) (jn : Nat → Int32) (hd : Nat → Option Nat) (kd bu fr ho lo : Nat → Nat) : Prop := h < 7 ∧ tr ≤ 16 ∧ bk ≤ 6 ∧ (∀ a k, hd a = some k → k ≤ 99) ∧ (∀ a, a < 8 → jn (a * 8 + a) = 0) ∧ ∀ t, t < tr → kd t < 7 ∧ bu t < n ∧ fr t < 9 ∧ ho t ≤ 99 ∧ lo t ≤ 99
/-- the component's rows of it, from place p -/
def rC (I : zI) (p tr bk h : Nat) (jn : Nat → Int32) (hd : Nat → Option Nat) (kd bu fr ho lo : Nat → Nat) (bl : Nat → Int32) : Prop := I p 2 = nI h ∧ I p 8 = nI tr ∧ I p 10 = nI bk ∧ (∀ k, k < 64 → I (p + 1) k = jn k) ∧ (∀ a, a < 8 → I (p + 2) a = oI (hd a)) ∧ (∀ t, t < tr → I (p + 3) t = nI (kd t) ∧ I (p + 4) t = nI (bu t) ∧ I (p + 5) t = nI (fr t) ∧ I (p + 6) t = nI (ho t) ∧ I (p + 7) t = nI (lo t)) ∧ ∀ k, k < bk → I (p + 8) k = bl k
/-- the reference's: three fields, the rows joined, had, trades, blanks -/
def rM (I : zI) (f1 f2 f3 a b d e tr bk h : Nat) (jn : Nat → Int32) (hd : Nat → Option Nat) (kd bu fr ho lo : Nat → Nat) (bl : Nat → Int32) : Prop := I 82 f1 = nI h - 1 ∧ I 82 f2 = nI tr ∧ I 82 f3 = nI bk ∧ (∀ k, k < 64 → I a k = jn k) ∧ (∀ k, k < 8 → I b k = oM (hd k)) ∧ (∀ t, t < tr → I d t = nI (kd t) ∧ I (d + 1) t = nI (bu t) ∧ I (d + 2) t = nI (fr t) ∧ I (d + 3) t = nI (ho t) ∧ I (d + 4) t = nI (lo t)) ∧ ∀ k, k < bk → I e k = bl k
def rW (I : zI) (p f1 f2 f3 a b d e n lc : Nat) : Prop := ∃ (tr bk h : Nat) (jn : Nat → Int32) (hd : Nat → Option Nat) (kd bu fr ho lo : Nat → Nat) (bl : Nat → Int32), h ≤ lc ∧ rSt n tr bk h jn hd kd bu fr ho lo ∧ rC I p tr bk h jn hd kd bu fr ho lo bl ∧ rM I f1 f2 f3 a b d e tr bk h jn hd kd bu fr ho lo bl
def rLaws (I : zI) (lc : Nat) : Prop := lc ≤ 6 ∧ I 0 4 = nI lc ∧ I 82 4 = nI lc ∧ cLaw I 0 [] ∧ ∃ A : Nat → List zCla, ∀ l, l < lc → cLaw I (l + 1) (A l) ∧ mLw I l (A l)
def rText (I : zI) : Prop := ∃ (L : Nat) (c : Nat → Nat), L ≤ 100 ∧ I 2 1 = nI L ∧ I 82 6 = nI L ∧ (∀ q, q < L → I 3 q = nI (c q) ∧ I 86 q = zNx (c q) ∧ c q < 256) ∧ ∀ q, L ≤ q → c q = 300
def rTapes (I : zI) (J : zJ) : Prop := ∃ (so : Nat → Int32) (ln : Nat → Nat) (it : Nat → Nat → Int64), ∀ t, t < 6 → I (35 + 2 * t) 0 = so t ∧ I (35 + 2 * t) 1 = nI (ln t) ∧ I 119 t = so t ∧ I 120 t = nI (ln t) ∧ ln t ≤ 60 ∧ (so t = -1 ∨ zin (so t) 5) ∧ (so t = -1 → ln t = 0) ∧ ∀ i, i < 60 → J (35 + 2 * t + 1) i = it t i ∧ J 121 (60 * t + i) = it t i
def rActor (I : zI) : Prop := ∃ bg : Nat, bg ≤ 10000 ∧ I 32 1 = nI bg ∧ I 82 52 = nI bg ∧ I 33 = I 118
def zRel (I : zI) (J : zJ) : Prop := ∃ n lc : Nat, n ≤ 8 ∧ I 0 1 = nI n ∧ I 82 0 = nI n ∧ (∀ k, k < 8 → I 1 k = I 83 k) ∧ rLaws I lc ∧ rText I ∧ rTapes I J ∧ rActor I ∧ rW I 5 5 27 35 84 85 100 106 n lc ∧ ((I 0 7 = 0 ∧ I 82 40 = 0) ∨ (I 0 7 ≠ 0 ∧ I 82 40 ≠ 0 ∧ rW I 14 41 42 43 110 111 112 117 n lc))
theorem zRel_0 : zRel zI0 zJ0 := by
  refine ⟨0, 0, by decide, rfl, rfl, fun k _ => rfl, ⟨by decide, rfl, rfl, ?_, fun _ => [], fun l h => absurd h (Nat.not_lt_zero _)⟩, ⟨0, fun _ => 300, by decide, rfl, rfl, fun q h => absurd h (Nat.not_lt_zero _), fun _ _ => rfl⟩, ⟨fun _ => -1, fun _ => 0, fun _ _ => 0, fun t ht => ?_⟩, ⟨0, by decide, rfl, rfl, rfl⟩, ⟨0, 0, 0, fun _ => 0, fun _ => none, fun _ => 0, fun _ => 0, fun _ => 0, fun _ => 0, fun _ => 0, fun _ => 0, Nat.le_refl _, ⟨by decide, by decide, by decide, fun a k h => by simp at h, fun a _ => rfl, fun t h => absurd h (Nat.not_lt_zero _)⟩, ⟨rfl, rfl, rfl, fun k _ => rfl, fun a ha => ?_, fun t h => absurd h (Nat.not_lt_zero _), fun t h => absurd h (Nat.not_lt_zero _)⟩, ⟨rfl, rfl, rfl, fun k _ => rfl, fun a ha => ?_, fun t h => absurd h (Nat.not_lt_zero _), fun t h => absurd h (Nat.not_lt_zero _)⟩⟩, Or.inl ⟨rfl, rfl⟩⟩
  · exact ⟨⟨Nat.zero_le _, fun q h => absurd h List.not_mem_nil⟩, rfl, fun _ => 0, rfl, fun _ _ => Nat.zero_le _, fun j h => absurd h (Nat.not_lt_zero _)⟩
  · match t, ht with
    | 0, _ => exact ⟨rfl, rfl, rfl, rfl, by decide, Or.inl rfl, fun _ => rfl, fun i _ => ⟨rfl, rfl⟩⟩
    | 1, _ => exact ⟨rfl, rfl, rfl, rfl, by decide, Or.inl rfl, fun _ => rfl, fun i _ => ⟨rfl, rfl⟩⟩
    | 2, _ => exact ⟨rfl, rfl, rfl, rfl, by decide, Or.inl rfl, fun _ => rfl, fun i _ => ⟨rfl, rfl⟩⟩
    | 3, _ => exact ⟨rfl, rfl, rfl, rfl, by decide, Or.inl rfl, fun _ => rfl, fun i _ => ⟨rfl, rfl⟩⟩
    | 4, _ => exact ⟨rfl, rfl, rfl, rfl, by decide, Or.inl rfl, fun _ => rfl, fun i _ => ⟨rfl, rfl⟩⟩
    | 5, _ => exact ⟨rfl, rfl, rfl, rfl, by decide, Or.inl rfl, fun _ => rfl, fun i _ => ⟨rfl, rfl⟩⟩
  · match a, ha with
    | 0, _ => rfl
    | 1, _ => rfl
    | 2, _ => rfl
    | 3, _ => rfl
    | 4, _ => rfl
    | 5, _ => rfl
    | 6, _ => rfl
    | 7, _ => rfl
  · match a, ha with
    | 0, _ => rfl
    | 1, _ => rfl
    | 2, _ => rfl
    | 3, _ => rfl
    | 4, _ => rfl
    | 5, _ => rfl
    | 6, _ => rfl
    | 7, _ => rfl
