/-! places' shapes; links among the words: printed by wip/gen/links.py -/
theorem sh0 : zsh 0 = .inr (7, [(2, 1), (0, 0), (2, 2), (2, 4), (0, 0), (2, 5), (2, 14), (0, 0), (2, 23), (2, 30), (2, 32), (2, 34)]) := rfl
theorem sh1 : zsh 1 = .inl (0, 8, 0, fun _ => none) := rfl
theorem sh2 : zsh 2 = .inr (5, [(2, 3), (0, 0), (0, 0)]) := rfl
theorem sh3 : zsh 3 = .inl (0, 100, 0, fun _ => none) := rfl
theorem sh4 : zsh 4 = .inl (3, 7, 2, fun i => some (47 + 5 * i)) := rfl
theorem sh5 : zsh 5 = .inr (6, [(2, 6), (2, 7), (3, 0), (2, 8), (2, 9), (2, 10), (2, 11), (2, 12), (0, 0), (2, 13), (0, 0)]) := rfl
theorem sh6 : zsh 6 = .inl (0, 64, 0, fun _ => none) := rfl
theorem sh7 : zsh 7 = .inl (0, 8, 0, fun _ => none) := rfl
theorem sh8 : zsh 8 = .inl (0, 16, 0, fun _ => none) := rfl
theorem sh9 : zsh 9 = .inl (0, 16, 0, fun _ => none) := rfl
theorem sh10 : zsh 10 = .inl (0, 16, 0, fun _ => none) := rfl
theorem sh11 : zsh 11 = .inl (0, 16, 0, fun _ => none) := rfl
theorem sh12 : zsh 12 = .inl (0, 16, 0, fun _ => none) := rfl
theorem sh13 : zsh 13 = .inl (0, 6, 0, fun _ => none) := rfl
theorem sh14 : zsh 14 = .inr (6, [(2, 15), (2, 16), (3, 0), (2, 17), (2, 18), (2, 19), (2, 20), (2, 21), (0, 0), (2, 22), (0, 0)]) := rfl
theorem sh15 : zsh 15 = .inl (0, 64, 0, fun _ => none) := rfl
theorem sh16 : zsh 16 = .inl (0, 8, 0, fun _ => none) := rfl
theorem sh17 : zsh 17 = .inl (0, 16, 0, fun _ => none) := rfl
theorem sh18 : zsh 18 = .inl (0, 16, 0, fun _ => none) := rfl
theorem sh19 : zsh 19 = .inl (0, 16, 0, fun _ => none) := rfl
theorem sh20 : zsh 20 = .inl (0, 16, 0, fun _ => none) := rfl
theorem sh21 : zsh 21 = .inl (0, 16, 0, fun _ => none) := rfl
theorem sh22 : zsh 22 = .inl (0, 6, 0, fun _ => none) := rfl
theorem sh23 : zsh 23 = .inr (3, [(2, 24), (2, 25), (2, 26), (2, 27), (2, 28), (2, 29), (0, 0), (0, 0)]) := rfl
theorem sh24 : zsh 24 = .inl (0, 64, 0, fun _ => none) := rfl
theorem sh25 : zsh 25 = .inl (0, 8, 0, fun _ => none) := rfl
theorem sh26 : zsh 26 = .inl (0, 8, 0, fun _ => none) := rfl
theorem sh27 : zsh 27 = .inl (0, 8, 0, fun _ => none) := rfl
theorem sh28 : zsh 28 = .inl (0, 80, 0, fun _ => none) := rfl
theorem sh29 : zsh 29 = .inl (0, 10, 0, fun _ => none) := rfl
theorem sh30 : zsh 30 = .inr (2, [(2, 31), (0, 0), (1, 0), (1, 0)]) := rfl
theorem sh31 : zsh 31 = .inl (1, 10, 1, fun _ => none) := rfl
theorem sh32 : zsh 32 = .inr (0, [(2, 33), (0, 0), (0, 0), (0, 0), (0, 0)]) := rfl
theorem sh33 : zsh 33 = .inl (0, 20, 0, fun _ => none) := rfl
theorem sh34 : zsh 34 = .inl (4, 6, 2, fun i => some (35 + 2 * i)) := rfl
theorem sh82 : zsh 82 = .inr (8, [(0, 0), (2, 83), (2, 84), (2, 85), (0, 0), (0, 0), (0, 0), (0, 0), (0, 0), (2, 86), (2, 87), (2, 88), (2, 89), (2, 90), (2, 91), (2, 92), (2, 93), (0, 0), (0, 0), (0, 0), (2, 94), (2, 95), (2, 96), (2, 97), (2, 98), (0, 0), (2, 99), (0, 0), (2, 100), (2, 101), (2, 102), (2, 103), (2, 104), (2, 105), (1, 0), (0, 0), (2, 106), (2, 107), (2, 108), (2, 109), (0, 0), (0, 0), (0, 0), (0, 0), (2, 110), (2, 111), (2, 112), (2, 113), (2, 114), (2, 115), (2, 116), (2, 117), (0, 0), (2, 118), (2, 119), (2, 120), (2, 121), (2, 122)]) := rfl
theorem sh83 : zsh 83 = .inl (0, 8, 0, fun _ => none) := rfl
theorem sh84 : zsh 84 = .inl (0, 64, 0, fun _ => none) := rfl
theorem sh85 : zsh 85 = .inl (0, 8, 0, fun _ => none) := rfl
theorem sh86 : zsh 86 = .inl (0, 100, 0, fun _ => none) := rfl
theorem sh87 : zsh 87 = .inl (0, 6, 0, fun _ => none) := rfl
theorem sh88 : zsh 88 = .inl (0, 60, 0, fun _ => none) := rfl
theorem sh89 : zsh 89 = .inl (0, 60, 0, fun _ => none) := rfl
theorem sh90 : zsh 90 = .inl (0, 60, 0, fun _ => none) := rfl
theorem sh91 : zsh 91 = .inl (0, 60, 0, fun _ => none) := rfl
theorem sh92 : zsh 92 = .inl (0, 600, 0, fun _ => none) := rfl
theorem sh93 : zsh 93 = .inl (0, 101, 0, fun _ => none) := rfl
theorem sh94 : zsh 94 = .inl (0, 5, 0, fun _ => none) := rfl
theorem sh95 : zsh 95 = .inl (2, 100, 0, fun _ => none) := rfl
theorem sh96 : zsh 96 = .inl (0, 64, 0, fun _ => none) := rfl
theorem sh97 : zsh 97 = .inl (0, 80, 0, fun _ => none) := rfl
theorem sh98 : zsh 98 = .inl (0, 80, 0, fun _ => none) := rfl
theorem sh99 : zsh 99 = .inl (0, 10, 0, fun _ => none) := rfl
theorem sh100 : zsh 100 = .inl (0, 16, 0, fun _ => none) := rfl
theorem sh101 : zsh 101 = .inl (0, 16, 0, fun _ => none) := rfl
theorem sh102 : zsh 102 = .inl (0, 16, 0, fun _ => none) := rfl
theorem sh103 : zsh 103 = .inl (0, 16, 0, fun _ => none) := rfl
theorem sh104 : zsh 104 = .inl (0, 16, 0, fun _ => none) := rfl
theorem sh105 : zsh 105 = .inl (1, 10, 1, fun _ => none) := rfl
theorem sh106 : zsh 106 = .inl (0, 6, 0, fun _ => none) := rfl
theorem sh107 : zsh 107 = .inl (0, 7, 0, fun _ => none) := rfl
theorem sh108 : zsh 108 = .inl (0, 7, 0, fun _ => none) := rfl
theorem sh109 : zsh 109 = .inl (0, 6, 0, fun _ => none) := rfl
theorem sh110 : zsh 110 = .inl (0, 64, 0, fun _ => none) := rfl
theorem sh111 : zsh 111 = .inl (0, 8, 0, fun _ => none) := rfl
theorem sh112 : zsh 112 = .inl (0, 16, 0, fun _ => none) := rfl
theorem sh113 : zsh 113 = .inl (0, 16, 0, fun _ => none) := rfl
theorem sh114 : zsh 114 = .inl (0, 16, 0, fun _ => none) := rfl
theorem sh115 : zsh 115 = .inl (0, 16, 0, fun _ => none) := rfl
theorem sh116 : zsh 116 = .inl (0, 16, 0, fun _ => none) := rfl
theorem sh117 : zsh 117 = .inl (0, 6, 0, fun _ => none) := rfl
theorem sh118 : zsh 118 = .inl (0, 20, 0, fun _ => none) := rfl
theorem sh119 : zsh 119 = .inl (0, 6, 0, fun _ => none) := rfl
theorem sh120 : zsh 120 = .inl (0, 6, 0, fun _ => none) := rfl
theorem sh121 : zsh 121 = .inl (1, 360, 1, fun _ => none) := rfl
theorem sh122 : zsh 122 = .inl (1, 60, 1, fun _ => none) := rfl
theorem shL0 {i : Nat} (h : i < 7) : zsh (47 + 5 * i) = .inr (1, [(2, 47 + 5 * i + 1), (2, 47 + 5 * i + 2), (2, 47 + 5 * i + 3), (0, 0), (2, 47 + 5 * i + 4), (0, 0)]) := by
  match i, h with
  | 0, _ => rfl
  | 1, _ => rfl
  | 2, _ => rfl
  | 3, _ => rfl
  | 4, _ => rfl
  | 5, _ => rfl
  | 6, _ => rfl
theorem shLn0 {i : Nat} (h : i < 7) : 47 + 5 * i < zN := by unfold zN; omega
theorem shL1 {i : Nat} (h : i < 7) : zsh (47 + 5 * i + 1) = .inl (0, 10, 0, fun _ => none) := by
  match i, h with
  | 0, _ => rfl
  | 1, _ => rfl
  | 2, _ => rfl
  | 3, _ => rfl
  | 4, _ => rfl
  | 5, _ => rfl
  | 6, _ => rfl
theorem shLn1 {i : Nat} (h : i < 7) : 47 + 5 * i + 1 < zN := by unfold zN; omega
theorem shL2 {i : Nat} (h : i < 7) : zsh (47 + 5 * i + 2) = .inl (0, 10, 0, fun _ => none) := by
  match i, h with
  | 0, _ => rfl
  | 1, _ => rfl
  | 2, _ => rfl
  | 3, _ => rfl
  | 4, _ => rfl
  | 5, _ => rfl
  | 6, _ => rfl
theorem shLn2 {i : Nat} (h : i < 7) : 47 + 5 * i + 2 < zN := by unfold zN; omega
theorem shL3 {i : Nat} (h : i < 7) : zsh (47 + 5 * i + 3) = .inl (0, 10, 0, fun _ => none) := by
  match i, h with
  | 0, _ => rfl
  | 1, _ => rfl
  | 2, _ => rfl
  | 3, _ => rfl
  | 4, _ => rfl
  | 5, _ => rfl
  | 6, _ => rfl
theorem shLn3 {i : Nat} (h : i < 7) : 47 + 5 * i + 3 < zN := by unfold zN; omega
theorem shL4 {i : Nat} (h : i < 7) : zsh (47 + 5 * i + 4) = .inl (0, 100, 0, fun _ => none) := by
  match i, h with
  | 0, _ => rfl
  | 1, _ => rfl
  | 2, _ => rfl
  | 3, _ => rfl
  | 4, _ => rfl
  | 5, _ => rfl
  | 6, _ => rfl
theorem shLn4 {i : Nat} (h : i < 7) : 47 + 5 * i + 4 < zN := by unfold zN; omega
theorem shT0 {t : Nat} (h : t < 6) : zsh (35 + 2 * t) = .inr (4, [(0, 0), (0, 0), (2, 35 + 2 * t + 1)]) := by
  match t, h with
  | 0, _ => rfl
  | 1, _ => rfl
  | 2, _ => rfl
  | 3, _ => rfl
  | 4, _ => rfl
  | 5, _ => rfl
theorem shTn0 {t : Nat} (h : t < 6) : 35 + 2 * t < zN := by unfold zN; omega
theorem shT1 {t : Nat} (h : t < 6) : zsh (35 + 2 * t + 1) = .inl (1, 60, 1, fun _ => none) := by
  match t, h with
  | 0, _ => rfl
  | 1, _ => rfl
  | 2, _ => rfl
  | 3, _ => rfl
  | 4, _ => rfl
  | 5, _ => rfl
theorem shTn1 {t : Nat} (h : t < 6) : 35 + 2 * t + 1 < zN := by unfold zN; omega
theorem shW0 {p : Nat} (h : p = 5 ∨ p = 14) : zsh (p) = .inr (6, [(2, p + 1), (2, p + 2), (3, 0), (2, p + 3), (2, p + 4), (2, p + 5), (2, p + 6), (2, p + 7), (0, 0), (2, p + 8), (0, 0)]) := by
  rcases h with rfl | rfl <;> rfl
theorem shWn0 {p : Nat} (h : p = 5 ∨ p = 14) : p < zN := by unfold zN; omega
theorem shW1 {p : Nat} (h : p = 5 ∨ p = 14) : zsh (p + 1) = .inl (0, 64, 0, fun _ => none) := by
  rcases h with rfl | rfl <;> rfl
theorem shWn1 {p : Nat} (h : p = 5 ∨ p = 14) : p + 1 < zN := by unfold zN; omega
theorem shW2 {p : Nat} (h : p = 5 ∨ p = 14) : zsh (p + 2) = .inl (0, 8, 0, fun _ => none) := by
  rcases h with rfl | rfl <;> rfl
theorem shWn2 {p : Nat} (h : p = 5 ∨ p = 14) : p + 2 < zN := by unfold zN; omega
theorem shW3 {p : Nat} (h : p = 5 ∨ p = 14) : zsh (p + 3) = .inl (0, 16, 0, fun _ => none) := by
  rcases h with rfl | rfl <;> rfl
theorem shWn3 {p : Nat} (h : p = 5 ∨ p = 14) : p + 3 < zN := by unfold zN; omega
theorem shW4 {p : Nat} (h : p = 5 ∨ p = 14) : zsh (p + 4) = .inl (0, 16, 0, fun _ => none) := by
  rcases h with rfl | rfl <;> rfl
theorem shWn4 {p : Nat} (h : p = 5 ∨ p = 14) : p + 4 < zN := by unfold zN; omega
theorem shW5 {p : Nat} (h : p = 5 ∨ p = 14) : zsh (p + 5) = .inl (0, 16, 0, fun _ => none) := by
  rcases h with rfl | rfl <;> rfl
theorem shWn5 {p : Nat} (h : p = 5 ∨ p = 14) : p + 5 < zN := by unfold zN; omega
theorem shW6 {p : Nat} (h : p = 5 ∨ p = 14) : zsh (p + 6) = .inl (0, 16, 0, fun _ => none) := by
  rcases h with rfl | rfl <;> rfl
theorem shWn6 {p : Nat} (h : p = 5 ∨ p = 14) : p + 6 < zN := by unfold zN; omega
theorem shW7 {p : Nat} (h : p = 5 ∨ p = 14) : zsh (p + 7) = .inl (0, 16, 0, fun _ => none) := by
  rcases h with rfl | rfl <;> rfl
theorem shWn7 {p : Nat} (h : p = 5 ∨ p = 14) : p + 7 < zN := by unfold zN; omega
theorem shW8 {p : Nat} (h : p = 5 ∨ p = 14) : zsh (p + 8) = .inl (0, 6, 0, fun _ => none) := by
  rcases h with rfl | rfl <;> rfl
theorem shWn8 {p : Nat} (h : p = 5 ∨ p = 14) : p + 8 < zN := by unfold zN; omega
theorem zin_r1 : ∀ t ∈ wsL_law_r1, t ∈ zT := fun t h => by
  simp only [zT, wsL_law, List.mem_append, h, true_or, or_true]
theorem zin_r2 : ∀ t ∈ wsL_law_r2, t ∈ zT := fun t h => by
  simp only [zT, wsL_law, List.mem_append, h, true_or, or_true]
theorem zin_r3 : ∀ t ∈ wsL_law_r3, t ∈ zT := fun t h => by
  simp only [zT, wsL_law, List.mem_append, h, true_or, or_true]
theorem zin_r4 : ∀ t ∈ wsL_law_r4, t ∈ zT := fun t h => by
  simp only [zT, wsL_law, List.mem_append, h, true_or, or_true]
theorem zin_r5 : ∀ t ∈ wsL_law_r5, t ∈ zT := fun t h => by
  simp only [zT, wsL_law, List.mem_append, h, true_or, or_true]
theorem zin_r6 : ∀ t ∈ wsL_law_r6, t ∈ zT := fun t h => by
  simp only [zT, wsL_law, List.mem_append, h, true_or, or_true]
theorem zin_r7 : ∀ t ∈ wsL_law_r7, t ∈ zT := fun t h => by
  simp only [zT, wsL_law, List.mem_append, h, true_or, or_true]
theorem zin_r8 : ∀ t ∈ wsL_law_r8, t ∈ zT := fun t h => by
  simp only [zT, wsL_law, List.mem_append, h, true_or, or_true]
theorem zin_r9 : ∀ t ∈ wsL_law_r9, t ∈ zT := fun t h => by
  simp only [zT, wsL_law, List.mem_append, h, true_or, or_true]
theorem zin_r10 : ∀ t ∈ wsL_law_r10, t ∈ zT := fun t h => by
  simp only [zT, wsL_law, List.mem_append, h, true_or, or_true]
theorem zin_r11 : ∀ t ∈ wsL_law_r11, t ∈ zT := fun t h => by
  simp only [zT, wsL_law, List.mem_append, h, true_or, or_true]
theorem zin_r12 : ∀ t ∈ wsL_law_r12, t ∈ zT := fun t h => by
  simp only [zT, wsL_law, List.mem_append, h, true_or, or_true]
theorem zin_r13 : ∀ t ∈ wsL_law_r13, t ∈ zT := fun t h => by
  simp only [zT, wsL_law, List.mem_append, h, true_or, or_true]
theorem zin_r14 : ∀ t ∈ wsL_law_r14, t ∈ zT := fun t h => by
  simp only [zT, wsL_law, List.mem_append, h, true_or, or_true]
theorem zin_r15 : ∀ t ∈ wsL_law_r15, t ∈ zT := fun t h => by
  simp only [zT, wsL_law, List.mem_append, h, true_or, or_true]
theorem zin_r16 : ∀ t ∈ wsL_law_r16, t ∈ zT := fun t h => by
  simp only [zT, wsL_law, List.mem_append, h, true_or, or_true]
theorem zin_r17 : ∀ t ∈ wsL_law_r17, t ∈ zT := fun t h => by
  simp only [zT, wsL_law, List.mem_append, h, true_or, or_true]
theorem zin_r18 : ∀ t ∈ wsL_law_r18, t ∈ zT := fun t h => by
  simp only [zT, wsL_law, List.mem_append, h, true_or, or_true]
theorem zin_r19 : ∀ t ∈ wsL_law_r19, t ∈ zT := fun t h => by
  simp only [zT, wsL_law, List.mem_append, h, true_or, or_true]
theorem zin_r20 : ∀ t ∈ wsL_law_r20, t ∈ zT := fun t h => by
  simp only [zT, wsL_law, List.mem_append, h, true_or, or_true]
theorem zin_r21 : ∀ t ∈ wsL_law_r21, t ∈ zT := fun t h => by
  simp only [zT, wsL_law, List.mem_append, h, true_or, or_true]
theorem zin_r22 : ∀ t ∈ wsL_law_r22, t ∈ zT := fun t h => by
  simp only [zT, wsL_law, List.mem_append, h, true_or, or_true]
theorem zin_r23 : ∀ t ∈ wsL_law_r23, t ∈ zT := fun t h => by
  simp only [zT, wsL_law, List.mem_append, h, true_or, or_true]
theorem zin_r24 : ∀ t ∈ wsL_law_r24, t ∈ zT := fun t h => by
  simp only [zT, wsL_law, List.mem_append, h, true_or, or_true]
theorem zin_r25 : ∀ t ∈ wsL_law_r25, t ∈ zT := fun t h => by
  simp only [zT, wsL_law, List.mem_append, h, true_or, or_true]
theorem zin_r26 : ∀ t ∈ wsL_law_r26, t ∈ zT := fun t h => by
  simp only [zT, wsL_law, List.mem_append, h, true_or, or_true]
theorem zin_r27 : ∀ t ∈ wsL_law_r27, t ∈ zT := fun t h => by
  simp only [zT, wsL_law, List.mem_append, h, true_or, or_true]
theorem zin_r28 : ∀ t ∈ wsL_law_r28, t ∈ zT := fun t h => by
  simp only [zT, wsL_law, List.mem_append, h, true_or, or_true]
theorem zin_r29 : ∀ t ∈ wsL_law_r29, t ∈ zT := fun t h => by
  simp only [zT, wsL_law, List.mem_append, h, true_or, or_true]
theorem zin_r30 : ∀ t ∈ wsL_law_r30, t ∈ zT := fun t h => by
  simp only [zT, wsL_law, List.mem_append, h, true_or, or_true]
theorem zin_r31 : ∀ t ∈ wsL_law_r31, t ∈ zT := fun t h => by
  simp only [zT, wsL_law, List.mem_append, h, true_or, or_true]
theorem zin_r32 : ∀ t ∈ wsL_law_r32, t ∈ zT := fun t h => by
  simp only [zT, wsL_law, List.mem_append, h, true_or, or_true]
theorem zin_r33 : ∀ t ∈ wsL_law_r33, t ∈ zT := fun t h => by
  simp only [zT, wsL_law, List.mem_append, h, true_or, or_true]
theorem zin_r34 : ∀ t ∈ wsL_law_r34, t ∈ zT := fun t h => by
  simp only [zT, wsL_law, List.mem_append, h, true_or, or_true]
theorem zin_r35 : ∀ t ∈ wsL_law_r35, t ∈ zT := fun t h => by
  simp only [zT, wsL_law, List.mem_append, h, true_or, or_true]
theorem zin_r36 : ∀ t ∈ wsL_law_r36, t ∈ zT := fun t h => by
  simp only [zT, wsL_law, List.mem_append, h, true_or, or_true]
theorem zin_r37 : ∀ t ∈ wsL_law_r37, t ∈ zT := fun t h => by
  simp only [zT, wsL_law, List.mem_append, h, true_or, or_true]
theorem zin_r38 : ∀ t ∈ wsL_law_r38, t ∈ zT := fun t h => by
  simp only [zT, wsL_law, List.mem_append, h, true_or, or_true]
theorem zin_r39 : ∀ t ∈ wsL_law_r39, t ∈ zT := fun t h => by
  simp only [zT, wsL_law, List.mem_append, h, true_or, or_true]
theorem zin_r40 : ∀ t ∈ wsL_law_r40, t ∈ zT := fun t h => by
  simp only [zT, wsL_law, List.mem_append, h, true_or, or_true]
theorem zin_r41 : ∀ t ∈ wsL_law_r41, t ∈ zT := fun t h => by
  simp only [zT, wsL_law, List.mem_append, h, true_or, or_true]
theorem zin_r42 : ∀ t ∈ wsL_law_r42, t ∈ zT := fun t h => by
  simp only [zT, wsL_law, List.mem_append, h, true_or, or_true]
theorem zin_r43 : ∀ t ∈ wsL_law_r43, t ∈ zT := fun t h => by
  simp only [zT, wsL_law, List.mem_append, h, true_or, or_true]
theorem zin_r44 : ∀ t ∈ wsL_law_r44, t ∈ zT := fun t h => by
  simp only [zT, wsL_law, List.mem_append, h, true_or, or_true]
theorem zin_r45 : ∀ t ∈ wsL_law_r45, t ∈ zT := fun t h => by
  simp only [zT, wsL_law, List.mem_append, h, true_or, or_true]
theorem ff_X0_11 : zFd RX0 11 0 0 (.array .int) true := ⟨RX0, TX0, 5, tyX0, rfl, inlX0, by decide, zin_r3 _ (List.mem_of_getElem? (i := 17) rfl), tyX0_ok, nmX0, rfl, rfl⟩
theorem ff_X0_15 : zFd RX0 15 0 1 (.int) false := ⟨RX0, TX0, 5, tyX0, rfl, inlX0, by decide, zin_r39 _ (List.mem_of_getElem? (i := 20) rfl), tyX0_ok, nmX0, rfl, rfl⟩
theorem ff_X0_19 : zFd RX0 19 0 2 (.int) false := ⟨RX0, TX0, 5, tyX0, rfl, inlX0, by decide, zin_r40 _ (List.mem_of_getElem? (i := 1) rfl), tyX0_ok, nmX0, rfl, rfl⟩
theorem ff_X0_22 : zFd RX0 22 0 3 (.int) false := ⟨RX0, TX0, 5, tyX0, rfl, inlX0, by decide, zin_r40 _ (List.mem_of_getElem? (i := 2) rfl), tyX0_ok, nmX0, rfl, rfl⟩
theorem ff_X0_25 : zFd RX0 25 0 4 (.int) false := ⟨RX0, TX0, 5, tyX0, rfl, inlX0, by decide, zin_r40 _ (List.mem_of_getElem? (i := 3) rfl), tyX0_ok, nmX0, rfl, rfl⟩
theorem ff_X1_9 : zFd RX1 9 1 0 (.array .int) true := ⟨RX1, TX1, 6, tyX1, rfl, inlX1, by decide, zin_r3 _ (List.mem_of_getElem? (i := 21) rfl), tyX1_ok, nmX1, rfl, rfl⟩
theorem ff_X1_15 : zFd RX1 15 1 1 (.array .int) true := ⟨RX1, TX1, 6, tyX1, rfl, inlX1, by decide, zin_r3 _ (List.mem_of_getElem? (i := 22) rfl), tyX1_ok, nmX1, rfl, rfl⟩
theorem ff_X1_18 : zFd RX1 18 1 2 (.array .int) true := ⟨RX1, TX1, 6, tyX1, rfl, inlX1, by decide, zin_r3 _ (List.mem_of_getElem? (i := 23) rfl), tyX1_ok, nmX1, rfl, rfl⟩
theorem ff_X1_21 : zFd RX1 21 1 4 (.array .int) true := ⟨RX1, TX1, 6, tyX1, rfl, inlX1, by decide, zin_r4 _ (List.mem_of_getElem? (i := 0) rfl), tyX1_ok, nmX1, rfl, rfl⟩
theorem ff_X1_24 : zFd RX1 24 1 3 (.int) false := ⟨RX1, TX1, 6, tyX1, rfl, inlX1, by decide, zin_r10 _ (List.mem_of_getElem? (i := 19) rfl), tyX1_ok, nmX1, rfl, rfl⟩
theorem ff_X1_28 : zFd RX1 28 1 5 (.int) false := ⟨RX1, TX1, 6, tyX1, rfl, inlX1, by decide, zin_r10 _ (List.mem_of_getElem? (i := 20) rfl), tyX1_ok, nmX1, rfl, rfl⟩
theorem ff_X2_9 : zFd RX2 9 2 0 (.array .long) true := ⟨RX2, TX2, 4, tyX2, rfl, inlX2, by decide, zin_r3 _ (List.mem_of_getElem? (i := 13) rfl), tyX2_ok, nmX2, rfl, rfl⟩
theorem ff_X2_21 : zFd RX2 21 2 1 (.int) false := ⟨RX2, TX2, 4, tyX2, rfl, inlX2, by decide, zin_r30 _ (List.mem_of_getElem? (i := 11) rfl), tyX2_ok, nmX2, rfl, rfl⟩
theorem ff_X2_25 : zFd RX2 25 2 3 (.long) false := ⟨RX2, TX2, 4, tyX2, rfl, inlX2, by decide, zin_r30 _ (List.mem_of_getElem? (i := 12) rfl), tyX2_ok, nmX2, rfl, rfl⟩
theorem ff_X2_31 : zFd RX2 31 2 2 (.long) false := ⟨RX2, TX2, 4, tyX2, rfl, inlX2, by decide, zin_r31 _ (List.mem_of_getElem? (i := 1) rfl), tyX2_ok, nmX2, rfl, rfl⟩
theorem ff_X3_9 : zFd RX3 9 3 0 (.array .int) true := ⟨RX3, TX3, 8, tyX3, rfl, inlX3, by decide, zin_r3 _ (List.mem_of_getElem? (i := 3) rfl), tyX3_ok, nmX3, rfl, rfl⟩
theorem ff_X3_15 : zFd RX3 15 3 1 (.array .int) true := ⟨RX3, TX3, 8, tyX3, rfl, inlX3, by decide, zin_r3 _ (List.mem_of_getElem? (i := 4) rfl), tyX3_ok, nmX3, rfl, rfl⟩
theorem ff_X3_18 : zFd RX3 18 3 2 (.array .int) true := ⟨RX3, TX3, 8, tyX3, rfl, inlX3, by decide, zin_r3 _ (List.mem_of_getElem? (i := 5) rfl), tyX3_ok, nmX3, rfl, rfl⟩
theorem ff_X3_21 : zFd RX3 21 3 3 (.array .int) true := ⟨RX3, TX3, 8, tyX3, rfl, inlX3, by decide, zin_r3 _ (List.mem_of_getElem? (i := 6) rfl), tyX3_ok, nmX3, rfl, rfl⟩
theorem ff_X3_24 : zFd RX3 24 3 4 (.array .int) true := ⟨RX3, TX3, 8, tyX3, rfl, inlX3, by decide, zin_r3 _ (List.mem_of_getElem? (i := 7) rfl), tyX3_ok, nmX3, rfl, rfl⟩
theorem ff_X3_27 : zFd RX3 27 3 5 (.array .int) true := ⟨RX3, TX3, 8, tyX3, rfl, inlX3, by decide, zin_r3 _ (List.mem_of_getElem? (i := 8) rfl), tyX3_ok, nmX3, rfl, rfl⟩
theorem ff_X3_30 : zFd RX3 30 3 6 (.int) false := ⟨RX3, TX3, 8, tyX3, rfl, inlX3, by decide, zin_r21 _ (List.mem_of_getElem? (i := 12) rfl), tyX3_ok, nmX3, rfl, rfl⟩
theorem ff_X3_34 : zFd RX3 34 6 2 (.object "TuesdayKnew$Law") false := ⟨RX6, TX6, 11, tyX6, rfl, inlX6, by decide, zin_r21 _ (List.mem_of_getElem? (i := 13) rfl), tyX6_ok, nmX6, rfl, rfl⟩
theorem ff_X3_46 : zFd RX3 46 3 7 (.int) false := ⟨RX3, TX3, 8, tyX3, rfl, inlX3, by decide, zin_r21 _ (List.mem_of_getElem? (i := 14) rfl), tyX3_ok, nmX3, rfl, rfl⟩
theorem ff_X3_49 : zFd RX3 49 6 1 (.array .int) true := ⟨RX6, TX6, 11, tyX6, rfl, inlX6, by decide, zin_r21 _ (List.mem_of_getElem? (i := 15) rfl), tyX6_ok, nmX6, rfl, rfl⟩
theorem ff_X4_11 : zFd RX4 11 4 0 (.int) false := ⟨RX4, TX4, 3, tyX4, rfl, inlX4, by decide, zin_r4 _ (List.mem_of_getElem? (i := 4) rfl), tyX4_ok, nmX4, rfl, rfl⟩
theorem ff_X4_15 : zFd RX4 15 4 2 (.array .long) true := ⟨RX4, TX4, 3, tyX4, rfl, inlX4, by decide, zin_r4 _ (List.mem_of_getElem? (i := 5) rfl), tyX4_ok, nmX4, rfl, rfl⟩
theorem ff_X4_19 : zFd RX4 19 4 1 (.int) false := ⟨RX4, TX4, 3, tyX4, rfl, inlX4, by decide, zin_r37 _ (List.mem_of_getElem? (i := 17) rfl), tyX4_ok, nmX4, rfl, rfl⟩
theorem ff_X5_9 : zFd RX5 9 5 0 (.array .int) true := ⟨RX5, TX5, 3, tyX5, rfl, inlX5, by decide, zin_r2 _ (List.mem_of_getElem? (i := 23) rfl), tyX5_ok, nmX5, rfl, rfl⟩
theorem ff_X5_15 : zFd RX5 15 5 1 (.int) false := ⟨RX5, TX5, 3, tyX5, rfl, inlX5, by decide, zin_r9 _ (List.mem_of_getElem? (i := 23) rfl), tyX5_ok, nmX5, rfl, rfl⟩
theorem ff_X5_24 : zFd RX5 24 5 2 (.int) false := ⟨RX5, TX5, 3, tyX5, rfl, inlX5, by decide, zin_r10 _ (List.mem_of_getElem? (i := 14) rfl), tyX5_ok, nmX5, rfl, rfl⟩
theorem ff_X6_9 : zFd RX6 9 6 0 (.array .int) true := ⟨RX6, TX6, 11, tyX6, rfl, inlX6, by decide, zin_r4 _ (List.mem_of_getElem? (i := 10) rfl), tyX6_ok, nmX6, rfl, rfl⟩
theorem ff_X6_15 : zFd RX6 15 6 1 (.array .int) true := ⟨RX6, TX6, 11, tyX6, rfl, inlX6, by decide, zin_r4 _ (List.mem_of_getElem? (i := 11) rfl), tyX6_ok, nmX6, rfl, rfl⟩
theorem ff_X6_18 : zFd RX6 18 6 3 (.array .int) true := ⟨RX6, TX6, 11, tyX6, rfl, inlX6, by decide, zin_r4 _ (List.mem_of_getElem? (i := 12) rfl), tyX6_ok, nmX6, rfl, rfl⟩
theorem ff_X6_21 : zFd RX6 21 6 4 (.array .int) true := ⟨RX6, TX6, 11, tyX6, rfl, inlX6, by decide, zin_r4 _ (List.mem_of_getElem? (i := 13) rfl), tyX6_ok, nmX6, rfl, rfl⟩
theorem ff_X6_24 : zFd RX6 24 6 5 (.array .int) true := ⟨RX6, TX6, 11, tyX6, rfl, inlX6, by decide, zin_r4 _ (List.mem_of_getElem? (i := 14) rfl), tyX6_ok, nmX6, rfl, rfl⟩
theorem ff_X6_27 : zFd RX6 27 6 6 (.array .int) true := ⟨RX6, TX6, 11, tyX6, rfl, inlX6, by decide, zin_r4 _ (List.mem_of_getElem? (i := 15) rfl), tyX6_ok, nmX6, rfl, rfl⟩
theorem ff_X6_30 : zFd RX6 30 6 7 (.array .int) true := ⟨RX6, TX6, 11, tyX6, rfl, inlX6, by decide, zin_r4 _ (List.mem_of_getElem? (i := 16) rfl), tyX6_ok, nmX6, rfl, rfl⟩
theorem ff_X6_33 : zFd RX6 33 6 9 (.array .int) true := ⟨RX6, TX6, 11, tyX6, rfl, inlX6, by decide, zin_r4 _ (List.mem_of_getElem? (i := 17) rfl), tyX6_ok, nmX6, rfl, rfl⟩
theorem ff_X6_36 : zFd RX6 36 6 2 (.object "TuesdayKnew$Law") false := ⟨RX6, TX6, 11, tyX6, rfl, inlX6, by decide, zin_r4 _ (List.mem_of_getElem? (i := 18) rfl), tyX6_ok, nmX6, rfl, rfl⟩
theorem ff_X6_52 : zFd RX6 52 6 8 (.int) false := ⟨RX6, TX6, 11, tyX6, rfl, inlX6, by decide, zin_r26 _ (List.mem_of_getElem? (i := 18) rfl), tyX6_ok, nmX6, rfl, rfl⟩
theorem ff_X6_56 : zFd RX6 56 6 10 (.int) false := ⟨RX6, TX6, 11, tyX6, rfl, inlX6, by decide, zin_r38 _ (List.mem_of_getElem? (i := 19) rfl), tyX6_ok, nmX6, rfl, rfl⟩
theorem ff_X7_11 : zFd RX7 11 7 0 (.array .int) true := ⟨RX7, TX7, 12, tyX7, rfl, inlX7, by decide, zin_r1 _ (List.mem_of_getElem? (i := 14) rfl), tyX7_ok, nmX7, rfl, rfl⟩
theorem ff_X7_18 : zFd RX7 18 7 2 (.object "TuesdayKnew$Text") true := ⟨RX7, TX7, 12, tyX7, rfl, inlX7, by decide, zin_r1 _ (List.mem_of_getElem? (i := 18) rfl), tyX7_ok, nmX7, rfl, rfl⟩
theorem ff_X7_24 : zFd RX7 24 7 3 (.array (.object "TuesdayKnew$Law")) true := ⟨RX7, TX7, 12, tyX7, rfl, inlX7, by decide, zin_r1 _ (List.mem_of_getElem? (i := 20) rfl), tyX7_ok, nmX7, rfl, rfl⟩
theorem ff_X7_31 : zFd RX7 31 7 8 (.object "TuesdayKnew$Spread") true := ⟨RX7, TX7, 12, tyX7, rfl, inlX7, by decide, zin_r2 _ (List.mem_of_getElem? (i := 0) rfl), tyX7_ok, nmX7, rfl, rfl⟩
theorem ff_X7_38 : zFd RX7 38 7 9 (.object "TuesdayKnew$Odds") true := ⟨RX7, TX7, 12, tyX7, rfl, inlX7, by decide, zin_r2 _ (List.mem_of_getElem? (i := 4) rfl), tyX7_ok, nmX7, rfl, rfl⟩
theorem ff_X7_45 : zFd RX7 45 7 10 (.object "TuesdayKnew$Actor") true := ⟨RX7, TX7, 12, tyX7, rfl, inlX7, by decide, zin_r2 _ (List.mem_of_getElem? (i := 8) rfl), tyX7_ok, nmX7, rfl, rfl⟩
theorem ff_X7_51 : zFd RX7 51 7 11 (.array (.object "TuesdayKnew$Tape")) true := ⟨RX7, TX7, 12, tyX7, rfl, inlX7, by decide, zin_r2 _ (List.mem_of_getElem? (i := 10) rfl), tyX7_ok, nmX7, rfl, rfl⟩
theorem ff_X7_62 : zFd RX7 62 7 5 (.object "TuesdayKnew$World") true := ⟨RX7, TX7, 12, tyX7, rfl, inlX7, by decide, zin_r2 _ (List.mem_of_getElem? (i := 18) rfl), tyX7_ok, nmX7, rfl, rfl⟩
theorem ff_X7_66 : zFd RX7 66 7 6 (.object "TuesdayKnew$World") true := ⟨RX7, TX7, 12, tyX7, rfl, inlX7, by decide, zin_r2 _ (List.mem_of_getElem? (i := 19) rfl), tyX7_ok, nmX7, rfl, rfl⟩
theorem ff_X7_73 : zFd RX7 73 7 1 (.int) false := ⟨RX7, TX7, 12, tyX7, rfl, inlX7, by decide, zin_r7 _ (List.mem_of_getElem? (i := 18) rfl), tyX7_ok, nmX7, rfl, rfl⟩
theorem ff_X7_87 : zFd RX7 87 6 1 (.array .int) true := ⟨RX6, TX6, 11, tyX6, rfl, inlX6, by decide, zin_r9 _ (List.mem_of_getElem? (i := 6) rfl), tyX6_ok, nmX6, rfl, rfl⟩
theorem ff_X7_90 : zFd RX7 90 5 1 (.int) false := ⟨RX5, TX5, 3, tyX5, rfl, inlX5, by decide, zin_r9 _ (List.mem_of_getElem? (i := 18) rfl), tyX5_ok, nmX5, rfl, rfl⟩
theorem ff_X7_97 : zFd RX7 97 7 4 (.int) false := ⟨RX7, TX7, 12, tyX7, rfl, inlX7, by decide, zin_r10 _ (List.mem_of_getElem? (i := 8) rfl), tyX7_ok, nmX7, rfl, rfl⟩
theorem ff_X7_104 : zFd RX7 104 6 2 (.object "TuesdayKnew$Law") false := ⟨RX6, TX6, 11, tyX6, rfl, inlX6, by decide, zin_r10 _ (List.mem_of_getElem? (i := 9) rfl), tyX6_ok, nmX6, rfl, rfl⟩
theorem ff_X7_132 : zFd RX7 132 3 5 (.array .int) true := ⟨RX3, TX3, 8, tyX3, rfl, inlX3, by decide, zin_r23 _ (List.mem_of_getElem? (i := 23) rfl), tyX3_ok, nmX3, rfl, rfl⟩
theorem ff_X7_153 : zFd RX7 153 6 8 (.int) false := ⟨RX6, TX6, 11, tyX6, rfl, inlX6, by decide, zin_r26 _ (List.mem_of_getElem? (i := 10) rfl), tyX6_ok, nmX6, rfl, rfl⟩
theorem ff_X7_163 : zFd RX7 163 6 3 (.array .int) true := ⟨RX6, TX6, 11, tyX6, rfl, inlX6, by decide, zin_r27 _ (List.mem_of_getElem? (i := 3) rfl), tyX6_ok, nmX6, rfl, rfl⟩
theorem ff_X7_166 : zFd RX7 166 6 4 (.array .int) true := ⟨RX6, TX6, 11, tyX6, rfl, inlX6, by decide, zin_r27 _ (List.mem_of_getElem? (i := 4) rfl), tyX6_ok, nmX6, rfl, rfl⟩
theorem ff_X7_169 : zFd RX7 169 6 5 (.array .int) true := ⟨RX6, TX6, 11, tyX6, rfl, inlX6, by decide, zin_r27 _ (List.mem_of_getElem? (i := 5) rfl), tyX6_ok, nmX6, rfl, rfl⟩
theorem ff_X7_172 : zFd RX7 172 6 6 (.array .int) true := ⟨RX6, TX6, 11, tyX6, rfl, inlX6, by decide, zin_r27 _ (List.mem_of_getElem? (i := 6) rfl), tyX6_ok, nmX6, rfl, rfl⟩
theorem ff_X7_175 : zFd RX7 175 6 7 (.array .int) true := ⟨RX6, TX6, 11, tyX6, rfl, inlX6, by decide, zin_r27 _ (List.mem_of_getElem? (i := 7) rfl), tyX6_ok, nmX6, rfl, rfl⟩
theorem ff_X7_199 : zFd RX7 199 2 2 (.long) false := ⟨RX2, TX2, 4, tyX2, rfl, inlX2, by decide, zin_r30 _ (List.mem_of_getElem? (i := 1) rfl), tyX2_ok, nmX2, rfl, rfl⟩
theorem ff_X7_203 : zFd RX7 203 2 3 (.long) false := ⟨RX2, TX2, 4, tyX2, rfl, inlX2, by decide, zin_r30 _ (List.mem_of_getElem? (i := 2) rfl), tyX2_ok, nmX2, rfl, rfl⟩
theorem ff_X7_245 : zFd RX7 245 6 10 (.int) false := ⟨RX6, TX6, 11, tyX6, rfl, inlX6, by decide, zin_r35 _ (List.mem_of_getElem? (i := 9) rfl), tyX6_ok, nmX6, rfl, rfl⟩
theorem ff_X7_248 : zFd RX7 248 6 9 (.array .int) true := ⟨RX6, TX6, 11, tyX6, rfl, inlX6, by decide, zin_r35 _ (List.mem_of_getElem? (i := 10) rfl), tyX6_ok, nmX6, rfl, rfl⟩
theorem ff_X7_270 : zFd RX7 270 4 0 (.int) false := ⟨RX4, TX4, 3, tyX4, rfl, inlX4, by decide, zin_r37 _ (List.mem_of_getElem? (i := 8) rfl), tyX4_ok, nmX4, rfl, rfl⟩
theorem ff_X7_284 : zFd RX7 284 7 7 (.boolean) false := ⟨RX7, TX7, 12, tyX7, rfl, inlX7, by decide, zin_r38 _ (List.mem_of_getElem? (i := 13) rfl), tyX7_ok, nmX7, rfl, rfl⟩
theorem ff_X7_298 : zFd RX7 298 0 1 (.int) false := ⟨RX0, TX0, 5, tyX0, rfl, inlX0, by decide, zin_r42 _ (List.mem_of_getElem? (i := 17) rfl), tyX0_ok, nmX0, rfl, rfl⟩
theorem ff_X7_301 : zFd RX7 301 0 0 (.array .int) true := ⟨RX0, TX0, 5, tyX0, rfl, inlX0, by decide, zin_r42 _ (List.mem_of_getElem? (i := 18) rfl), tyX0_ok, nmX0, rfl, rfl⟩
theorem ff_X7_309 : zFd RX7 309 4 2 (.array .long) true := ⟨RX4, TX4, 3, tyX4, rfl, inlX4, by decide, zin_r37 _ (List.mem_of_getElem? (i := 23) rfl), tyX4_ok, nmX4, rfl, rfl⟩
theorem ff_X7_329 : zFd RX7 329 4 1 (.int) false := ⟨RX4, TX4, 3, tyX4, rfl, inlX4, by decide, zin_r37 _ (List.mem_of_getElem? (i := 22) rfl), tyX4_ok, nmX4, rfl, rfl⟩
theorem ff_X8_7 : zFd RX8 7 8 0 (.int) false := ⟨RX8, TX8, 58, tyX8, rfl, inlX8, by decide, zin_r5 _ (List.mem_of_getElem? (i := 3) rfl), tyX8_ok, nmX8, rfl, rfl⟩
theorem ff_X8_13 : zFd RX8 13 8 1 (.array .int) true := ⟨RX8, TX8, 58, tyX8, rfl, inlX8, by decide, zin_r5 _ (List.mem_of_getElem? (i := 4) rfl), tyX8_ok, nmX8, rfl, rfl⟩
theorem ff_X8_17 : zFd RX8 17 8 2 (.array .int) true := ⟨RX8, TX8, 58, tyX8, rfl, inlX8, by decide, zin_r5 _ (List.mem_of_getElem? (i := 5) rfl), tyX8_ok, nmX8, rfl, rfl⟩
theorem ff_X8_20 : zFd RX8 20 8 3 (.array .int) true := ⟨RX8, TX8, 58, tyX8, rfl, inlX8, by decide, zin_r5 _ (List.mem_of_getElem? (i := 6) rfl), tyX8_ok, nmX8, rfl, rfl⟩
theorem ff_X8_23 : zFd RX8 23 8 4 (.int) false := ⟨RX8, TX8, 58, tyX8, rfl, inlX8, by decide, zin_r5 _ (List.mem_of_getElem? (i := 7) rfl), tyX8_ok, nmX8, rfl, rfl⟩
theorem ff_X8_26 : zFd RX8 26 8 5 (.int) false := ⟨RX8, TX8, 58, tyX8, rfl, inlX8, by decide, zin_r5 _ (List.mem_of_getElem? (i := 8) rfl), tyX8_ok, nmX8, rfl, rfl⟩
theorem ff_X8_29 : zFd RX8 29 8 6 (.int) false := ⟨RX8, TX8, 58, tyX8, rfl, inlX8, by decide, zin_r5 _ (List.mem_of_getElem? (i := 9) rfl), tyX8_ok, nmX8, rfl, rfl⟩
theorem ff_X8_32 : zFd RX8 32 8 7 (.int) false := ⟨RX8, TX8, 58, tyX8, rfl, inlX8, by decide, zin_r5 _ (List.mem_of_getElem? (i := 10) rfl), tyX8_ok, nmX8, rfl, rfl⟩
theorem ff_X8_35 : zFd RX8 35 8 8 (.int) false := ⟨RX8, TX8, 58, tyX8, rfl, inlX8, by decide, zin_r5 _ (List.mem_of_getElem? (i := 11) rfl), tyX8_ok, nmX8, rfl, rfl⟩
theorem ff_X8_38 : zFd RX8 38 8 9 (.array .int) true := ⟨RX8, TX8, 58, tyX8, rfl, inlX8, by decide, zin_r5 _ (List.mem_of_getElem? (i := 12) rfl), tyX8_ok, nmX8, rfl, rfl⟩
theorem ff_X8_41 : zFd RX8 41 8 10 (.array .int) true := ⟨RX8, TX8, 58, tyX8, rfl, inlX8, by decide, zin_r5 _ (List.mem_of_getElem? (i := 13) rfl), tyX8_ok, nmX8, rfl, rfl⟩
theorem ff_X8_44 : zFd RX8 44 8 11 (.array .int) true := ⟨RX8, TX8, 58, tyX8, rfl, inlX8, by decide, zin_r5 _ (List.mem_of_getElem? (i := 14) rfl), tyX8_ok, nmX8, rfl, rfl⟩
theorem ff_X8_47 : zFd RX8 47 8 12 (.array .int) true := ⟨RX8, TX8, 58, tyX8, rfl, inlX8, by decide, zin_r5 _ (List.mem_of_getElem? (i := 15) rfl), tyX8_ok, nmX8, rfl, rfl⟩
theorem ff_X8_50 : zFd RX8 50 8 13 (.array .int) true := ⟨RX8, TX8, 58, tyX8, rfl, inlX8, by decide, zin_r5 _ (List.mem_of_getElem? (i := 16) rfl), tyX8_ok, nmX8, rfl, rfl⟩
theorem ff_X8_53 : zFd RX8 53 8 14 (.array .int) true := ⟨RX8, TX8, 58, tyX8, rfl, inlX8, by decide, zin_r5 _ (List.mem_of_getElem? (i := 17) rfl), tyX8_ok, nmX8, rfl, rfl⟩
theorem ff_X8_56 : zFd RX8 56 8 15 (.array .int) true := ⟨RX8, TX8, 58, tyX8, rfl, inlX8, by decide, zin_r5 _ (List.mem_of_getElem? (i := 18) rfl), tyX8_ok, nmX8, rfl, rfl⟩
theorem ff_X8_59 : zFd RX8 59 8 16 (.array .int) true := ⟨RX8, TX8, 58, tyX8, rfl, inlX8, by decide, zin_r5 _ (List.mem_of_getElem? (i := 19) rfl), tyX8_ok, nmX8, rfl, rfl⟩
theorem ff_X8_62 : zFd RX8 62 8 17 (.int) false := ⟨RX8, TX8, 58, tyX8, rfl, inlX8, by decide, zin_r5 _ (List.mem_of_getElem? (i := 20) rfl), tyX8_ok, nmX8, rfl, rfl⟩
theorem ff_X8_65 : zFd RX8 65 8 18 (.int) false := ⟨RX8, TX8, 58, tyX8, rfl, inlX8, by decide, zin_r5 _ (List.mem_of_getElem? (i := 21) rfl), tyX8_ok, nmX8, rfl, rfl⟩
theorem ff_X8_68 : zFd RX8 68 8 19 (.int) false := ⟨RX8, TX8, 58, tyX8, rfl, inlX8, by decide, zin_r5 _ (List.mem_of_getElem? (i := 22) rfl), tyX8_ok, nmX8, rfl, rfl⟩
theorem ff_X8_71 : zFd RX8 71 8 20 (.array .int) true := ⟨RX8, TX8, 58, tyX8, rfl, inlX8, by decide, zin_r5 _ (List.mem_of_getElem? (i := 23) rfl), tyX8_ok, nmX8, rfl, rfl⟩
theorem ff_X8_74 : zFd RX8 74 8 21 (.array .boolean) true := ⟨RX8, TX8, 58, tyX8, rfl, inlX8, by decide, zin_r6 _ (List.mem_of_getElem? (i := 1) rfl), tyX8_ok, nmX8, rfl, rfl⟩
theorem ff_X8_78 : zFd RX8 78 8 22 (.array .int) true := ⟨RX8, TX8, 58, tyX8, rfl, inlX8, by decide, zin_r6 _ (List.mem_of_getElem? (i := 2) rfl), tyX8_ok, nmX8, rfl, rfl⟩
theorem ff_X8_81 : zFd RX8 81 8 23 (.array .int) true := ⟨RX8, TX8, 58, tyX8, rfl, inlX8, by decide, zin_r6 _ (List.mem_of_getElem? (i := 3) rfl), tyX8_ok, nmX8, rfl, rfl⟩
theorem ff_X8_84 : zFd RX8 84 8 24 (.array .int) true := ⟨RX8, TX8, 58, tyX8, rfl, inlX8, by decide, zin_r6 _ (List.mem_of_getElem? (i := 4) rfl), tyX8_ok, nmX8, rfl, rfl⟩
theorem ff_X8_87 : zFd RX8 87 8 25 (.int) false := ⟨RX8, TX8, 58, tyX8, rfl, inlX8, by decide, zin_r6 _ (List.mem_of_getElem? (i := 5) rfl), tyX8_ok, nmX8, rfl, rfl⟩
theorem ff_X8_90 : zFd RX8 90 8 26 (.array .int) true := ⟨RX8, TX8, 58, tyX8, rfl, inlX8, by decide, zin_r6 _ (List.mem_of_getElem? (i := 6) rfl), tyX8_ok, nmX8, rfl, rfl⟩
theorem ff_X8_93 : zFd RX8 93 8 27 (.int) false := ⟨RX8, TX8, 58, tyX8, rfl, inlX8, by decide, zin_r6 _ (List.mem_of_getElem? (i := 7) rfl), tyX8_ok, nmX8, rfl, rfl⟩
theorem ff_X8_96 : zFd RX8 96 8 28 (.array .int) true := ⟨RX8, TX8, 58, tyX8, rfl, inlX8, by decide, zin_r6 _ (List.mem_of_getElem? (i := 8) rfl), tyX8_ok, nmX8, rfl, rfl⟩
theorem ff_X8_99 : zFd RX8 99 8 29 (.array .int) true := ⟨RX8, TX8, 58, tyX8, rfl, inlX8, by decide, zin_r6 _ (List.mem_of_getElem? (i := 9) rfl), tyX8_ok, nmX8, rfl, rfl⟩
theorem ff_X8_102 : zFd RX8 102 8 30 (.array .int) true := ⟨RX8, TX8, 58, tyX8, rfl, inlX8, by decide, zin_r6 _ (List.mem_of_getElem? (i := 10) rfl), tyX8_ok, nmX8, rfl, rfl⟩
theorem ff_X8_105 : zFd RX8 105 8 31 (.array .int) true := ⟨RX8, TX8, 58, tyX8, rfl, inlX8, by decide, zin_r6 _ (List.mem_of_getElem? (i := 11) rfl), tyX8_ok, nmX8, rfl, rfl⟩
theorem ff_X8_108 : zFd RX8 108 8 32 (.array .int) true := ⟨RX8, TX8, 58, tyX8, rfl, inlX8, by decide, zin_r6 _ (List.mem_of_getElem? (i := 12) rfl), tyX8_ok, nmX8, rfl, rfl⟩
theorem ff_X8_111 : zFd RX8 111 8 33 (.array .long) true := ⟨RX8, TX8, 58, tyX8, rfl, inlX8, by decide, zin_r6 _ (List.mem_of_getElem? (i := 13) rfl), tyX8_ok, nmX8, rfl, rfl⟩
theorem ff_X8_115 : zFd RX8 115 8 34 (.long) false := ⟨RX8, TX8, 58, tyX8, rfl, inlX8, by decide, zin_r6 _ (List.mem_of_getElem? (i := 14) rfl), tyX8_ok, nmX8, rfl, rfl⟩
theorem ff_X8_119 : zFd RX8 119 8 35 (.int) false := ⟨RX8, TX8, 58, tyX8, rfl, inlX8, by decide, zin_r6 _ (List.mem_of_getElem? (i := 15) rfl), tyX8_ok, nmX8, rfl, rfl⟩
theorem ff_X8_122 : zFd RX8 122 8 36 (.array .int) true := ⟨RX8, TX8, 58, tyX8, rfl, inlX8, by decide, zin_r6 _ (List.mem_of_getElem? (i := 16) rfl), tyX8_ok, nmX8, rfl, rfl⟩
theorem ff_X8_125 : zFd RX8 125 8 37 (.array .int) true := ⟨RX8, TX8, 58, tyX8, rfl, inlX8, by decide, zin_r6 _ (List.mem_of_getElem? (i := 17) rfl), tyX8_ok, nmX8, rfl, rfl⟩
theorem ff_X8_128 : zFd RX8 128 8 38 (.array .int) true := ⟨RX8, TX8, 58, tyX8, rfl, inlX8, by decide, zin_r6 _ (List.mem_of_getElem? (i := 18) rfl), tyX8_ok, nmX8, rfl, rfl⟩
theorem ff_X8_131 : zFd RX8 131 8 39 (.array .int) true := ⟨RX8, TX8, 58, tyX8, rfl, inlX8, by decide, zin_r6 _ (List.mem_of_getElem? (i := 19) rfl), tyX8_ok, nmX8, rfl, rfl⟩
theorem ff_X8_134 : zFd RX8 134 8 40 (.boolean) false := ⟨RX8, TX8, 58, tyX8, rfl, inlX8, by decide, zin_r6 _ (List.mem_of_getElem? (i := 20) rfl), tyX8_ok, nmX8, rfl, rfl⟩
theorem ff_X8_138 : zFd RX8 138 8 41 (.int) false := ⟨RX8, TX8, 58, tyX8, rfl, inlX8, by decide, zin_r6 _ (List.mem_of_getElem? (i := 21) rfl), tyX8_ok, nmX8, rfl, rfl⟩
theorem ff_X8_141 : zFd RX8 141 8 42 (.int) false := ⟨RX8, TX8, 58, tyX8, rfl, inlX8, by decide, zin_r6 _ (List.mem_of_getElem? (i := 22) rfl), tyX8_ok, nmX8, rfl, rfl⟩
theorem ff_X8_144 : zFd RX8 144 8 43 (.int) false := ⟨RX8, TX8, 58, tyX8, rfl, inlX8, by decide, zin_r6 _ (List.mem_of_getElem? (i := 23) rfl), tyX8_ok, nmX8, rfl, rfl⟩
theorem ff_X8_147 : zFd RX8 147 8 44 (.array .int) true := ⟨RX8, TX8, 58, tyX8, rfl, inlX8, by decide, zin_r7 _ (List.mem_of_getElem? (i := 0) rfl), tyX8_ok, nmX8, rfl, rfl⟩
theorem ff_X8_150 : zFd RX8 150 8 45 (.array .int) true := ⟨RX8, TX8, 58, tyX8, rfl, inlX8, by decide, zin_r7 _ (List.mem_of_getElem? (i := 1) rfl), tyX8_ok, nmX8, rfl, rfl⟩
theorem ff_X8_153 : zFd RX8 153 8 46 (.array .int) true := ⟨RX8, TX8, 58, tyX8, rfl, inlX8, by decide, zin_r7 _ (List.mem_of_getElem? (i := 2) rfl), tyX8_ok, nmX8, rfl, rfl⟩
theorem ff_X8_156 : zFd RX8 156 8 47 (.array .int) true := ⟨RX8, TX8, 58, tyX8, rfl, inlX8, by decide, zin_r7 _ (List.mem_of_getElem? (i := 3) rfl), tyX8_ok, nmX8, rfl, rfl⟩
theorem ff_X8_159 : zFd RX8 159 8 48 (.array .int) true := ⟨RX8, TX8, 58, tyX8, rfl, inlX8, by decide, zin_r7 _ (List.mem_of_getElem? (i := 4) rfl), tyX8_ok, nmX8, rfl, rfl⟩
theorem ff_X8_162 : zFd RX8 162 8 49 (.array .int) true := ⟨RX8, TX8, 58, tyX8, rfl, inlX8, by decide, zin_r7 _ (List.mem_of_getElem? (i := 5) rfl), tyX8_ok, nmX8, rfl, rfl⟩
theorem ff_X8_165 : zFd RX8 165 8 50 (.array .int) true := ⟨RX8, TX8, 58, tyX8, rfl, inlX8, by decide, zin_r7 _ (List.mem_of_getElem? (i := 6) rfl), tyX8_ok, nmX8, rfl, rfl⟩
theorem ff_X8_168 : zFd RX8 168 8 51 (.array .int) true := ⟨RX8, TX8, 58, tyX8, rfl, inlX8, by decide, zin_r7 _ (List.mem_of_getElem? (i := 7) rfl), tyX8_ok, nmX8, rfl, rfl⟩
theorem ff_X8_171 : zFd RX8 171 8 52 (.int) false := ⟨RX8, TX8, 58, tyX8, rfl, inlX8, by decide, zin_r7 _ (List.mem_of_getElem? (i := 8) rfl), tyX8_ok, nmX8, rfl, rfl⟩
theorem ff_X8_174 : zFd RX8 174 8 53 (.array .int) true := ⟨RX8, TX8, 58, tyX8, rfl, inlX8, by decide, zin_r7 _ (List.mem_of_getElem? (i := 9) rfl), tyX8_ok, nmX8, rfl, rfl⟩
theorem ff_X8_177 : zFd RX8 177 8 54 (.array .int) true := ⟨RX8, TX8, 58, tyX8, rfl, inlX8, by decide, zin_r7 _ (List.mem_of_getElem? (i := 10) rfl), tyX8_ok, nmX8, rfl, rfl⟩
theorem ff_X8_180 : zFd RX8 180 8 55 (.array .int) true := ⟨RX8, TX8, 58, tyX8, rfl, inlX8, by decide, zin_r7 _ (List.mem_of_getElem? (i := 11) rfl), tyX8_ok, nmX8, rfl, rfl⟩
theorem ff_X8_183 : zFd RX8 183 8 56 (.array .long) true := ⟨RX8, TX8, 58, tyX8, rfl, inlX8, by decide, zin_r7 _ (List.mem_of_getElem? (i := 12) rfl), tyX8_ok, nmX8, rfl, rfl⟩
theorem ff_X8_186 : zFd RX8 186 8 57 (.array .long) true := ⟨RX8, TX8, 58, tyX8, rfl, inlX8, by decide, zin_r7 _ (List.mem_of_getElem? (i := 13) rfl), tyX8_ok, nmX8, rfl, rfl⟩
theorem cl_J0_335 : zCl RJ0 335 yJ0_coder_7d493 cJ0_coder_7d493 1 (some .byte) 0 := ⟨zin_r11 _ (List.mem_of_getElem? (i := 18) rfl), zin_r11 _ (List.mem_of_getElem? (i := 15) rfl), zin_r11 _ (List.mem_of_getElem? (i := 21) rfl), by decide +kernel, by decide +kernel, by decide +kernel⟩
theorem cv_J0_coder_7d493 : Cond.instanceMethod yJ0_coder_7d493 ∈ zT ∧ Cond.selects yJ0_coder_7d493.cls yJ0_coder_7d493 yJ0_coder_7d493 ∈ zT := ⟨zin_r11 _ (List.mem_of_getElem? (i := 19) rfl), zin_r11 _ (List.mem_of_getElem? (i := 20) rfl)⟩
theorem cl_J0_492 : zCl RJ0 492 yJ0_isLatin1_aae02 cJ0_isLatin1_aae02 1 (some .boolean) 0 := ⟨zin_r12 _ (List.mem_of_getElem? (i := 4) rfl), zin_r11 _ (List.mem_of_getElem? (i := 15) rfl), zin_r12 _ (List.mem_of_getElem? (i := 7) rfl), by decide +kernel, by decide +kernel, by decide +kernel⟩
theorem cv_J0_isLatin1_aae02 : Cond.instanceMethod yJ0_isLatin1_aae02 ∈ zT ∧ Cond.selects yJ0_isLatin1_aae02.cls yJ0_isLatin1_aae02 yJ0_isLatin1_aae02 ∈ zT := ⟨zin_r12 _ (List.mem_of_getElem? (i := 5) rfl), zin_r12 _ (List.mem_of_getElem? (i := 6) rfl)⟩
theorem cl_J0_495 : zCl RJ0 495 yJ1_charAt_3b067 cJ1_charAt_3b067 2 (some .char) 2 := ⟨zin_r12 _ (List.mem_of_getElem? (i := 8) rfl), zin_r12 _ (List.mem_of_getElem? (i := 10) rfl), zin_r12 _ (List.mem_of_getElem? (i := 11) rfl), by decide +kernel, by decide +kernel, by decide +kernel⟩
theorem cs_J1_charAt_3b067 : Cond.static yJ1_charAt_3b067 ∈ zT := zin_r12 _ (List.mem_of_getElem? (i := 9) rfl)
theorem cl_J0_498 : zCl RJ0 498 yJ2_charAt_3b067 cJ2_charAt_3b067 2 (some .char) 2 := ⟨zin_r12 _ (List.mem_of_getElem? (i := 20) rfl), zin_r12 _ (List.mem_of_getElem? (i := 22) rfl), zin_r12 _ (List.mem_of_getElem? (i := 23) rfl), by decide +kernel, by decide +kernel, by decide +kernel⟩
theorem cs_J2_charAt_3b067 : Cond.static yJ2_charAt_3b067 ∈ zT := zin_r12 _ (List.mem_of_getElem? (i := 21) rfl)
theorem cl_J0_1059 : zCl RJ0 1059 yJ3_checkIndex_8e157 cJ3_checkIndex_8e157 3 (some .int) 3 := ⟨zin_r12 _ (List.mem_of_getElem? (i := 16) rfl), zin_r12 _ (List.mem_of_getElem? (i := 18) rfl), zin_r12 _ (List.mem_of_getElem? (i := 19) rfl), by decide +kernel, by decide +kernel, by decide +kernel⟩
theorem cs_J3_checkIndex_8e157 : Cond.static yJ3_checkIndex_8e157 ∈ zT := zin_r12 _ (List.mem_of_getElem? (i := 17) rfl)
theorem cl_J1_9 : zCl RJ1 9 yJ0_checkIndex_df160 cJ0_checkIndex_df160 2 none 2 := ⟨zin_r12 _ (List.mem_of_getElem? (i := 12) rfl), zin_r11 _ (List.mem_of_getElem? (i := 15) rfl), zin_r12 _ (List.mem_of_getElem? (i := 14) rfl), by decide +kernel, by decide +kernel, by decide +kernel⟩
theorem cs_J0_checkIndex_df160 : Cond.static yJ0_checkIndex_df160 ∈ zT := zin_r12 _ (List.mem_of_getElem? (i := 13) rfl)
theorem cl_J2_48 : zCl RJ2 48 yJ2_length_9d52b cJ2_length_9d52b 1 (some .int) 1 := ⟨zin_r13 _ (List.mem_of_getElem? (i := 3) rfl), zin_r12 _ (List.mem_of_getElem? (i := 22) rfl), zin_r13 _ (List.mem_of_getElem? (i := 5) rfl), by decide +kernel, by decide +kernel, by decide +kernel⟩
theorem cs_J2_length_9d52b : Cond.static yJ2_length_9d52b ∈ zT := zin_r13 _ (List.mem_of_getElem? (i := 4) rfl)
theorem cl_J2_67 : zCl RJ2 67 yJ2_checkIndex_2214a cJ2_checkIndex_2214a 2 none 2 := ⟨zin_r13 _ (List.mem_of_getElem? (i := 0) rfl), zin_r12 _ (List.mem_of_getElem? (i := 22) rfl), zin_r13 _ (List.mem_of_getElem? (i := 2) rfl), by decide +kernel, by decide +kernel, by decide +kernel⟩
theorem cs_J2_checkIndex_2214a : Cond.static yJ2_checkIndex_2214a ∈ zT := zin_r13 _ (List.mem_of_getElem? (i := 1) rfl)
theorem cl_J2_71 : zCl RJ2 71 yJ2_getChar_3b067 cJ2_getChar_3b067 2 (some .char) 2 := ⟨zin_r13 _ (List.mem_of_getElem? (i := 7) rfl), zin_r12 _ (List.mem_of_getElem? (i := 22) rfl), zin_r13 _ (List.mem_of_getElem? (i := 9) rfl), by decide +kernel, by decide +kernel, by decide +kernel⟩
theorem cs_J2_getChar_3b067 : Cond.static yJ2_getChar_3b067 ∈ zT := zin_r13 _ (List.mem_of_getElem? (i := 8) rfl)
theorem cl_J2_414 : zCl RJ2 414 yJ0_checkIndex_df160 cJ0_checkIndex_df160 2 none 2 := ⟨zin_r13 _ (List.mem_of_getElem? (i := 6) rfl), zin_r11 _ (List.mem_of_getElem? (i := 15) rfl), zin_r12 _ (List.mem_of_getElem? (i := 14) rfl), by decide +kernel, by decide +kernel, by decide +kernel⟩
theorem cl_L_9 : zCl RL 9 yX7_init cX7_init 2 none 0 := ⟨zin_r1 _ (List.mem_of_getElem? (i := 7) rfl), zin_r1 _ (List.mem_of_getElem? (i := 2) rfl), zin_r1 _ (List.mem_of_getElem? (i := 9) rfl), by decide +kernel, by decide +kernel, by decide +kernel⟩
theorem cl_L_12 : zCl RL 12 yX8_init cX8_init 1 none 0 := ⟨zin_r4 _ (List.mem_of_getElem? (i := 23) rfl), zin_r1 _ (List.mem_of_getElem? (i := 5) rfl), zin_r5 _ (List.mem_of_getElem? (i := 1) rfl), by decide +kernel, by decide +kernel, by decide +kernel⟩
theorem cl_L_13 : zCl RL 13 yX7_name cX7_name 2 (some .int) 1 := ⟨zin_r7 _ (List.mem_of_getElem? (i := 14) rfl), zin_r1 _ (List.mem_of_getElem? (i := 2) rfl), zin_r7 _ (List.mem_of_getElem? (i := 17) rfl), by decide +kernel, by decide +kernel, by decide +kernel⟩
theorem cv_X7_name : Cond.instanceMethod yX7_name ∈ zT ∧ Cond.selects yX7_name.cls yX7_name yX7_name ∈ zT := ⟨zin_r7 _ (List.mem_of_getElem? (i := 15) rfl), zin_r7 _ (List.mem_of_getElem? (i := 16) rfl)⟩
theorem cl_L_17 : zCl RL 17 yX8_name cX8_name 2 (some .int) 1 := ⟨zin_r7 _ (List.mem_of_getElem? (i := 22) rfl), zin_r1 _ (List.mem_of_getElem? (i := 5) rfl), zin_r8 _ (List.mem_of_getElem? (i := 1) rfl), by decide +kernel, by decide +kernel, by decide +kernel⟩
theorem cv_X8_name : Cond.instanceMethod yX8_name ∈ zT ∧ Cond.selects yX8_name.cls yX8_name yX8_name ∈ zT := ⟨zin_r7 _ (List.mem_of_getElem? (i := 23) rfl), zin_r8 _ (List.mem_of_getElem? (i := 0) rfl)⟩
theorem cl_L_18 : zCl RL 18 yX7_join cX7_join 4 (some .int) 3 := ⟨zin_r8 _ (List.mem_of_getElem? (i := 6) rfl), zin_r1 _ (List.mem_of_getElem? (i := 2) rfl), zin_r8 _ (List.mem_of_getElem? (i := 9) rfl), by decide +kernel, by decide +kernel, by decide +kernel⟩
theorem cv_X7_join : Cond.instanceMethod yX7_join ∈ zT ∧ Cond.selects yX7_join.cls yX7_join yX7_join ∈ zT := ⟨zin_r8 _ (List.mem_of_getElem? (i := 7) rfl), zin_r8 _ (List.mem_of_getElem? (i := 8) rfl)⟩
theorem cl_L_22 : zCl RL 22 yX8_join cX8_join 5 (some .int) 3 := ⟨zin_r8 _ (List.mem_of_getElem? (i := 18) rfl), zin_r1 _ (List.mem_of_getElem? (i := 5) rfl), zin_r8 _ (List.mem_of_getElem? (i := 21) rfl), by decide +kernel, by decide +kernel, by decide +kernel⟩
theorem cv_X8_join : Cond.instanceMethod yX8_join ∈ zT ∧ Cond.selects yX8_join.cls yX8_join yX8_join ∈ zT := ⟨zin_r8 _ (List.mem_of_getElem? (i := 19) rfl), zin_r8 _ (List.mem_of_getElem? (i := 20) rfl)⟩
theorem cl_L_23 : zCl RL 23 yX7_news cX7_news 4 (some .int) 2 := ⟨zin_r9 _ (List.mem_of_getElem? (i := 2) rfl), zin_r1 _ (List.mem_of_getElem? (i := 2) rfl), zin_r9 _ (List.mem_of_getElem? (i := 5) rfl), by decide +kernel, by decide +kernel, by decide +kernel⟩
theorem cv_X7_news : Cond.instanceMethod yX7_news ∈ zT ∧ Cond.selects yX7_news.cls yX7_news yX7_news ∈ zT := ⟨zin_r9 _ (List.mem_of_getElem? (i := 3) rfl), zin_r9 _ (List.mem_of_getElem? (i := 4) rfl)⟩
theorem cl_L_27 : zCl RL 27 yX8_news cX8_news 4 (some .int) 2 := ⟨zin_r9 _ (List.mem_of_getElem? (i := 10) rfl), zin_r1 _ (List.mem_of_getElem? (i := 5) rfl), zin_r9 _ (List.mem_of_getElem? (i := 13) rfl), by decide +kernel, by decide +kernel, by decide +kernel⟩
theorem cv_X8_news : Cond.instanceMethod yX8_news ∈ zT ∧ Cond.selects yX8_news.cls yX8_news yX8_news ∈ zT := ⟨zin_r9 _ (List.mem_of_getElem? (i := 11) rfl), zin_r9 _ (List.mem_of_getElem? (i := 12) rfl)⟩
theorem cl_L_28 : zCl RL 28 yX7_feed cX7_feed 4 (some .int) 2 := ⟨zin_r9 _ (List.mem_of_getElem? (i := 14) rfl), zin_r1 _ (List.mem_of_getElem? (i := 2) rfl), zin_r9 _ (List.mem_of_getElem? (i := 17) rfl), by decide +kernel, by decide +kernel, by decide +kernel⟩
theorem cv_X7_feed : Cond.instanceMethod yX7_feed ∈ zT ∧ Cond.selects yX7_feed.cls yX7_feed yX7_feed ∈ zT := ⟨zin_r9 _ (List.mem_of_getElem? (i := 15) rfl), zin_r9 _ (List.mem_of_getElem? (i := 16) rfl)⟩
theorem cl_L_31 : zCl RL 31 yX8_feed cX8_feed 4 (some .int) 2 := ⟨zin_r10 _ (List.mem_of_getElem? (i := 0) rfl), zin_r1 _ (List.mem_of_getElem? (i := 5) rfl), zin_r10 _ (List.mem_of_getElem? (i := 3) rfl), by decide +kernel, by decide +kernel, by decide +kernel⟩
theorem cv_X8_feed : Cond.instanceMethod yX8_feed ∈ zT ∧ Cond.selects yX8_feed.cls yX8_feed yX8_feed ∈ zT := ⟨zin_r10 _ (List.mem_of_getElem? (i := 1) rfl), zin_r10 _ (List.mem_of_getElem? (i := 2) rfl)⟩
theorem cl_L_32 : zCl RL 32 yX7_law cX7_law 3 (some .int) 0 := ⟨zin_r10 _ (List.mem_of_getElem? (i := 4) rfl), zin_r1 _ (List.mem_of_getElem? (i := 2) rfl), zin_r10 _ (List.mem_of_getElem? (i := 7) rfl), by decide +kernel, by decide +kernel, by decide +kernel⟩
theorem cv_X7_law : Cond.instanceMethod yX7_law ∈ zT ∧ Cond.selects yX7_law.cls yX7_law yX7_law ∈ zT := ⟨zin_r10 _ (List.mem_of_getElem? (i := 5) rfl), zin_r10 _ (List.mem_of_getElem? (i := 6) rfl)⟩
theorem cl_L_36 : zCl RL 36 yX8_law cX8_law 2 (some .int) 0 := ⟨zin_r15 _ (List.mem_of_getElem? (i := 4) rfl), zin_r1 _ (List.mem_of_getElem? (i := 5) rfl), zin_r15 _ (List.mem_of_getElem? (i := 7) rfl), by decide +kernel, by decide +kernel, by decide +kernel⟩
theorem cv_X8_law : Cond.instanceMethod yX8_law ∈ zT ∧ Cond.selects yX8_law.cls yX8_law yX8_law ∈ zT := ⟨zin_r15 _ (List.mem_of_getElem? (i := 5) rfl), zin_r15 _ (List.mem_of_getElem? (i := 6) rfl)⟩
theorem cl_L_37 : zCl RL 37 yX7_goes cX7_goes 3 (some .int) 2 := ⟨zin_r18 _ (List.mem_of_getElem? (i := 0) rfl), zin_r1 _ (List.mem_of_getElem? (i := 2) rfl), zin_r18 _ (List.mem_of_getElem? (i := 3) rfl), by decide +kernel, by decide +kernel, by decide +kernel⟩
theorem cv_X7_goes : Cond.instanceMethod yX7_goes ∈ zT ∧ Cond.selects yX7_goes.cls yX7_goes yX7_goes ∈ zT := ⟨zin_r18 _ (List.mem_of_getElem? (i := 1) rfl), zin_r18 _ (List.mem_of_getElem? (i := 2) rfl)⟩
theorem cl_L_40 : zCl RL 40 yX8_goes cX8_goes 3 (some .int) 2 := ⟨zin_r18 _ (List.mem_of_getElem? (i := 22) rfl), zin_r1 _ (List.mem_of_getElem? (i := 5) rfl), zin_r19 _ (List.mem_of_getElem? (i := 1) rfl), by decide +kernel, by decide +kernel, by decide +kernel⟩
theorem cv_X8_goes : Cond.instanceMethod yX8_goes ∈ zT ∧ Cond.selects yX8_goes.cls yX8_goes yX8_goes ∈ zT := ⟨zin_r18 _ (List.mem_of_getElem? (i := 23) rfl), zin_r19 _ (List.mem_of_getElem? (i := 0) rfl)⟩
theorem cl_L_41 : zCl RL 41 yX7_habit cX7_habit 3 (some .int) 2 := ⟨zin_r19 _ (List.mem_of_getElem? (i := 22) rfl), zin_r1 _ (List.mem_of_getElem? (i := 2) rfl), zin_r20 _ (List.mem_of_getElem? (i := 1) rfl), by decide +kernel, by decide +kernel, by decide +kernel⟩
theorem cv_X7_habit : Cond.instanceMethod yX7_habit ∈ zT ∧ Cond.selects yX7_habit.cls yX7_habit yX7_habit ∈ zT := ⟨zin_r19 _ (List.mem_of_getElem? (i := 23) rfl), zin_r20 _ (List.mem_of_getElem? (i := 0) rfl)⟩
theorem cl_L_44 : zCl RL 44 yX8_habit cX8_habit 3 (some .int) 2 := ⟨zin_r20 _ (List.mem_of_getElem? (i := 16) rfl), zin_r1 _ (List.mem_of_getElem? (i := 5) rfl), zin_r20 _ (List.mem_of_getElem? (i := 19) rfl), by decide +kernel, by decide +kernel, by decide +kernel⟩
theorem cv_X8_habit : Cond.instanceMethod yX8_habit ∈ zT ∧ Cond.selects yX8_habit.cls yX8_habit yX8_habit ∈ zT := ⟨zin_r20 _ (List.mem_of_getElem? (i := 17) rfl), zin_r20 _ (List.mem_of_getElem? (i := 18) rfl)⟩
theorem cl_L_45 : zCl RL 45 yX7_knows cX7_knows 2 (some .int) 1 := ⟨zin_r21 _ (List.mem_of_getElem? (i := 0) rfl), zin_r1 _ (List.mem_of_getElem? (i := 2) rfl), zin_r21 _ (List.mem_of_getElem? (i := 3) rfl), by decide +kernel, by decide +kernel, by decide +kernel⟩
theorem cv_X7_knows : Cond.instanceMethod yX7_knows ∈ zT ∧ Cond.selects yX7_knows.cls yX7_knows yX7_knows ∈ zT := ⟨zin_r21 _ (List.mem_of_getElem? (i := 1) rfl), zin_r21 _ (List.mem_of_getElem? (i := 2) rfl)⟩
theorem cl_L_48 : zCl RL 48 yX8_knows cX8_knows 2 (some .int) 1 := ⟨zin_r22 _ (List.mem_of_getElem? (i := 18) rfl), zin_r1 _ (List.mem_of_getElem? (i := 5) rfl), zin_r22 _ (List.mem_of_getElem? (i := 21) rfl), by decide +kernel, by decide +kernel, by decide +kernel⟩
theorem cv_X8_knows : Cond.instanceMethod yX8_knows ∈ zT ∧ Cond.selects yX8_knows.cls yX8_knows yX8_knows ∈ zT := ⟨zin_r22 _ (List.mem_of_getElem? (i := 19) rfl), zin_r22 _ (List.mem_of_getElem? (i := 20) rfl)⟩
theorem cl_L_49 : zCl RL 49 yX7_way cX7_way 4 (some .int) 2 := ⟨zin_r23 _ (List.mem_of_getElem? (i := 19) rfl), zin_r1 _ (List.mem_of_getElem? (i := 2) rfl), zin_r23 _ (List.mem_of_getElem? (i := 22) rfl), by decide +kernel, by decide +kernel, by decide +kernel⟩
theorem cv_X7_way : Cond.instanceMethod yX7_way ∈ zT ∧ Cond.selects yX7_way.cls yX7_way yX7_way ∈ zT := ⟨zin_r23 _ (List.mem_of_getElem? (i := 20) rfl), zin_r23 _ (List.mem_of_getElem? (i := 21) rfl)⟩
theorem cl_L_52 : zCl RL 52 yX8_way cX8_way 4 (some .int) 2 := ⟨zin_r24 _ (List.mem_of_getElem? (i := 15) rfl), zin_r1 _ (List.mem_of_getElem? (i := 5) rfl), zin_r24 _ (List.mem_of_getElem? (i := 18) rfl), by decide +kernel, by decide +kernel, by decide +kernel⟩
theorem cv_X8_way : Cond.instanceMethod yX8_way ∈ zT ∧ Cond.selects yX8_way.cls yX8_way yX8_way ∈ zT := ⟨zin_r24 _ (List.mem_of_getElem? (i := 16) rfl), zin_r24 _ (List.mem_of_getElem? (i := 17) rfl)⟩
theorem cl_L_53 : zCl RL 53 yX7_silent cX7_silent 5 (some .int) 2 := ⟨zin_r24 _ (List.mem_of_getElem? (i := 23) rfl), zin_r1 _ (List.mem_of_getElem? (i := 2) rfl), zin_r25 _ (List.mem_of_getElem? (i := 2) rfl), by decide +kernel, by decide +kernel, by decide +kernel⟩
theorem cv_X7_silent : Cond.instanceMethod yX7_silent ∈ zT ∧ Cond.selects yX7_silent.cls yX7_silent yX7_silent ∈ zT := ⟨zin_r25 _ (List.mem_of_getElem? (i := 0) rfl), zin_r25 _ (List.mem_of_getElem? (i := 1) rfl)⟩
theorem cl_L_56 : zCl RL 56 yX8_silent cX8_silent 5 (some .int) 2 := ⟨zin_r25 _ (List.mem_of_getElem? (i := 18) rfl), zin_r1 _ (List.mem_of_getElem? (i := 5) rfl), zin_r25 _ (List.mem_of_getElem? (i := 21) rfl), by decide +kernel, by decide +kernel, by decide +kernel⟩
theorem cv_X8_silent : Cond.instanceMethod yX8_silent ∈ zT ∧ Cond.selects yX8_silent.cls yX8_silent yX8_silent ∈ zT := ⟨zin_r25 _ (List.mem_of_getElem? (i := 19) rfl), zin_r25 _ (List.mem_of_getElem? (i := 20) rfl)⟩
theorem cl_L_57 : zCl RL 57 yX7_trade cX7_trade 6 (some .int) 5 := ⟨zin_r26 _ (List.mem_of_getElem? (i := 6) rfl), zin_r1 _ (List.mem_of_getElem? (i := 2) rfl), zin_r26 _ (List.mem_of_getElem? (i := 9) rfl), by decide +kernel, by decide +kernel, by decide +kernel⟩
theorem cv_X7_trade : Cond.instanceMethod yX7_trade ∈ zT ∧ Cond.selects yX7_trade.cls yX7_trade yX7_trade ∈ zT := ⟨zin_r26 _ (List.mem_of_getElem? (i := 7) rfl), zin_r26 _ (List.mem_of_getElem? (i := 8) rfl)⟩
theorem cl_L_61 : zCl RL 61 yX8_trade cX8_trade 6 (some .int) 5 := ⟨zin_r26 _ (List.mem_of_getElem? (i := 19) rfl), zin_r1 _ (List.mem_of_getElem? (i := 5) rfl), zin_r26 _ (List.mem_of_getElem? (i := 22) rfl), by decide +kernel, by decide +kernel, by decide +kernel⟩
theorem cv_X8_trade : Cond.instanceMethod yX8_trade ∈ zT ∧ Cond.selects yX8_trade.cls yX8_trade yX8_trade ∈ zT := ⟨zin_r26 _ (List.mem_of_getElem? (i := 20) rfl), zin_r26 _ (List.mem_of_getElem? (i := 21) rfl)⟩
theorem cl_L_62 : zCl RL 62 yX7_of cX7_of 3 (some .int) 2 := ⟨zin_r26 _ (List.mem_of_getElem? (i := 23) rfl), zin_r1 _ (List.mem_of_getElem? (i := 2) rfl), zin_r27 _ (List.mem_of_getElem? (i := 2) rfl), by decide +kernel, by decide +kernel, by decide +kernel⟩
theorem cv_X7_of : Cond.instanceMethod yX7_of ∈ zT ∧ Cond.selects yX7_of.cls yX7_of yX7_of ∈ zT := ⟨zin_r27 _ (List.mem_of_getElem? (i := 0) rfl), zin_r27 _ (List.mem_of_getElem? (i := 1) rfl)⟩
theorem cl_L_65 : zCl RL 65 yX8_of cX8_of 3 (some .int) 2 := ⟨zin_r27 _ (List.mem_of_getElem? (i := 21) rfl), zin_r1 _ (List.mem_of_getElem? (i := 5) rfl), zin_r28 _ (List.mem_of_getElem? (i := 0) rfl), by decide +kernel, by decide +kernel, by decide +kernel⟩
theorem cv_X8_of : Cond.instanceMethod yX8_of ∈ zT ∧ Cond.selects yX8_of.cls yX8_of yX8_of ∈ zT := ⟨zin_r27 _ (List.mem_of_getElem? (i := 22) rfl), zin_r27 _ (List.mem_of_getElem? (i := 23) rfl)⟩
theorem cl_L_66 : zCl RL 66 yX7_sure cX7_sure 6 (some .int) 1 := ⟨zin_r28 _ (List.mem_of_getElem? (i := 17) rfl), zin_r1 _ (List.mem_of_getElem? (i := 2) rfl), zin_r28 _ (List.mem_of_getElem? (i := 20) rfl), by decide +kernel, by decide +kernel, by decide +kernel⟩
theorem cv_X7_sure : Cond.instanceMethod yX7_sure ∈ zT ∧ Cond.selects yX7_sure.cls yX7_sure yX7_sure ∈ zT := ⟨zin_r28 _ (List.mem_of_getElem? (i := 18) rfl), zin_r28 _ (List.mem_of_getElem? (i := 19) rfl)⟩
theorem cl_L_69 : zCl RL 69 yX8_sure cX8_sure 6 (some .int) 1 := ⟨zin_r29 _ (List.mem_of_getElem? (i := 0) rfl), zin_r1 _ (List.mem_of_getElem? (i := 5) rfl), zin_r29 _ (List.mem_of_getElem? (i := 3) rfl), by decide +kernel, by decide +kernel, by decide +kernel⟩
theorem cv_X8_sure : Cond.instanceMethod yX8_sure ∈ zT ∧ Cond.selects yX8_sure.cls yX8_sure yX8_sure ∈ zT := ⟨zin_r29 _ (List.mem_of_getElem? (i := 1) rfl), zin_r29 _ (List.mem_of_getElem? (i := 2) rfl)⟩
theorem cl_L_70 : zCl RL 70 yX7_fridays cX7_fridays 2 (some .int) 1 := ⟨zin_r29 _ (List.mem_of_getElem? (i := 4) rfl), zin_r1 _ (List.mem_of_getElem? (i := 2) rfl), zin_r29 _ (List.mem_of_getElem? (i := 7) rfl), by decide +kernel, by decide +kernel, by decide +kernel⟩
theorem cv_X7_fridays : Cond.instanceMethod yX7_fridays ∈ zT ∧ Cond.selects yX7_fridays.cls yX7_fridays yX7_fridays ∈ zT := ⟨zin_r29 _ (List.mem_of_getElem? (i := 5) rfl), zin_r29 _ (List.mem_of_getElem? (i := 6) rfl)⟩
theorem cl_L_73 : zCl RL 73 yX8_fridays cX8_fridays 2 (some .int) 1 := ⟨zin_r29 _ (List.mem_of_getElem? (i := 12) rfl), zin_r1 _ (List.mem_of_getElem? (i := 5) rfl), zin_r29 _ (List.mem_of_getElem? (i := 15) rfl), by decide +kernel, by decide +kernel, by decide +kernel⟩
theorem cv_X8_fridays : Cond.instanceMethod yX8_fridays ∈ zT ∧ Cond.selects yX8_fridays.cls yX8_fridays yX8_fridays ∈ zT := ⟨zin_r29 _ (List.mem_of_getElem? (i := 13) rfl), zin_r29 _ (List.mem_of_getElem? (i := 14) rfl)⟩
theorem cl_L_74 : zCl RL 74 yX7_again cX7_again 5 (some .long) 4 := ⟨zin_r29 _ (List.mem_of_getElem? (i := 20) rfl), zin_r1 _ (List.mem_of_getElem? (i := 2) rfl), zin_r29 _ (List.mem_of_getElem? (i := 23) rfl), by decide +kernel, by decide +kernel, by decide +kernel⟩
theorem cv_X7_again : Cond.instanceMethod yX7_again ∈ zT ∧ Cond.selects yX7_again.cls yX7_again yX7_again ∈ zT := ⟨zin_r29 _ (List.mem_of_getElem? (i := 21) rfl), zin_r29 _ (List.mem_of_getElem? (i := 22) rfl)⟩
theorem cl_L_78 : zCl RL 78 yX8_again cX8_again 9 (some .long) 4 := ⟨zin_r31 _ (List.mem_of_getElem? (i := 14) rfl), zin_r1 _ (List.mem_of_getElem? (i := 5) rfl), zin_r31 _ (List.mem_of_getElem? (i := 17) rfl), by decide +kernel, by decide +kernel, by decide +kernel⟩
theorem cv_X8_again : Cond.instanceMethod yX8_again ∈ zT ∧ Cond.selects yX8_again.cls yX8_again yX8_again ∈ zT := ⟨zin_r31 _ (List.mem_of_getElem? (i := 15) rfl), zin_r31 _ (List.mem_of_getElem? (i := 16) rfl)⟩
theorem cl_L_79 : zCl RL 79 yX7_oddest cX7_oddest 6 (some .int) 1 := ⟨zin_r32 _ (List.mem_of_getElem? (i := 4) rfl), zin_r1 _ (List.mem_of_getElem? (i := 2) rfl), zin_r32 _ (List.mem_of_getElem? (i := 7) rfl), by decide +kernel, by decide +kernel, by decide +kernel⟩
theorem cv_X7_oddest : Cond.instanceMethod yX7_oddest ∈ zT ∧ Cond.selects yX7_oddest.cls yX7_oddest yX7_oddest ∈ zT := ⟨zin_r32 _ (List.mem_of_getElem? (i := 5) rfl), zin_r32 _ (List.mem_of_getElem? (i := 6) rfl)⟩
theorem cl_L_82 : zCl RL 82 yX8_oddest cX8_oddest 8 (some .int) 1 := ⟨zin_r32 _ (List.mem_of_getElem? (i := 8) rfl), zin_r1 _ (List.mem_of_getElem? (i := 5) rfl), zin_r32 _ (List.mem_of_getElem? (i := 11) rfl), by decide +kernel, by decide +kernel, by decide +kernel⟩
theorem cv_X8_oddest : Cond.instanceMethod yX8_oddest ∈ zT ∧ Cond.selects yX8_oddest.cls yX8_oddest yX8_oddest ∈ zT := ⟨zin_r32 _ (List.mem_of_getElem? (i := 9) rfl), zin_r32 _ (List.mem_of_getElem? (i := 10) rfl)⟩
theorem cl_L_83 : zCl RL 83 yX7_ring cX7_ring 2 (some .int) 1 := ⟨zin_r32 _ (List.mem_of_getElem? (i := 12) rfl), zin_r1 _ (List.mem_of_getElem? (i := 2) rfl), zin_r32 _ (List.mem_of_getElem? (i := 15) rfl), by decide +kernel, by decide +kernel, by decide +kernel⟩
theorem cv_X7_ring : Cond.instanceMethod yX7_ring ∈ zT ∧ Cond.selects yX7_ring.cls yX7_ring yX7_ring ∈ zT := ⟨zin_r32 _ (List.mem_of_getElem? (i := 13) rfl), zin_r32 _ (List.mem_of_getElem? (i := 14) rfl)⟩
theorem cl_L_86 : zCl RL 86 yX8_ring cX8_ring 7 (some .int) 1 := ⟨zin_r33 _ (List.mem_of_getElem? (i := 4) rfl), zin_r1 _ (List.mem_of_getElem? (i := 5) rfl), zin_r33 _ (List.mem_of_getElem? (i := 7) rfl), by decide +kernel, by decide +kernel, by decide +kernel⟩
theorem cv_X8_ring : Cond.instanceMethod yX8_ring ∈ zT ∧ Cond.selects yX8_ring.cls yX8_ring yX8_ring ∈ zT := ⟨zin_r33 _ (List.mem_of_getElem? (i := 5) rfl), zin_r33 _ (List.mem_of_getElem? (i := 6) rfl)⟩
theorem cl_L_87 : zCl RL 87 yX7_parted cX7_parted 5 (some .int) 2 := ⟨zin_r33 _ (List.mem_of_getElem? (i := 8) rfl), zin_r1 _ (List.mem_of_getElem? (i := 2) rfl), zin_r33 _ (List.mem_of_getElem? (i := 11) rfl), by decide +kernel, by decide +kernel, by decide +kernel⟩
theorem cv_X7_parted : Cond.instanceMethod yX7_parted ∈ zT ∧ Cond.selects yX7_parted.cls yX7_parted yX7_parted ∈ zT := ⟨zin_r33 _ (List.mem_of_getElem? (i := 9) rfl), zin_r33 _ (List.mem_of_getElem? (i := 10) rfl)⟩
theorem cl_L_90 : zCl RL 90 yX8_parted cX8_parted 3 (some .int) 2 := ⟨zin_r34 _ (List.mem_of_getElem? (i := 0) rfl), zin_r1 _ (List.mem_of_getElem? (i := 5) rfl), zin_r34 _ (List.mem_of_getElem? (i := 3) rfl), by decide +kernel, by decide +kernel, by decide +kernel⟩
theorem cv_X8_parted : Cond.instanceMethod yX8_parted ∈ zT ∧ Cond.selects yX8_parted.cls yX8_parted yX8_parted ∈ zT := ⟨zin_r34 _ (List.mem_of_getElem? (i := 1) rfl), zin_r34 _ (List.mem_of_getElem? (i := 2) rfl)⟩
theorem cl_L_91 : zCl RL 91 yX7_watch cX7_watch 6 (some .int) 3 := ⟨zin_r34 _ (List.mem_of_getElem? (i := 12) rfl), zin_r1 _ (List.mem_of_getElem? (i := 2) rfl), zin_r34 _ (List.mem_of_getElem? (i := 15) rfl), by decide +kernel, by decide +kernel, by decide +kernel⟩
theorem cv_X7_watch : Cond.instanceMethod yX7_watch ∈ zT ∧ Cond.selects yX7_watch.cls yX7_watch yX7_watch ∈ zT := ⟨zin_r34 _ (List.mem_of_getElem? (i := 13) rfl), zin_r34 _ (List.mem_of_getElem? (i := 14) rfl)⟩
theorem cl_L_94 : zCl RL 94 yX8_watch cX8_watch 7 (some .int) 3 := ⟨zin_r34 _ (List.mem_of_getElem? (i := 17) rfl), zin_r1 _ (List.mem_of_getElem? (i := 5) rfl), zin_r34 _ (List.mem_of_getElem? (i := 20) rfl), by decide +kernel, by decide +kernel, by decide +kernel⟩
theorem cv_X8_watch : Cond.instanceMethod yX8_watch ∈ zT ∧ Cond.selects yX8_watch.cls yX8_watch yX8_watch ∈ zT := ⟨zin_r34 _ (List.mem_of_getElem? (i := 18) rfl), zin_r34 _ (List.mem_of_getElem? (i := 19) rfl)⟩
theorem cl_L_95 : zCl RL 95 yX7_ask cX7_ask 8 (some .int) 1 := ⟨zin_r34 _ (List.mem_of_getElem? (i := 21) rfl), zin_r1 _ (List.mem_of_getElem? (i := 2) rfl), zin_r35 _ (List.mem_of_getElem? (i := 0) rfl), by decide +kernel, by decide +kernel, by decide +kernel⟩
theorem cv_X7_ask : Cond.instanceMethod yX7_ask ∈ zT ∧ Cond.selects yX7_ask.cls yX7_ask yX7_ask ∈ zT := ⟨zin_r34 _ (List.mem_of_getElem? (i := 22) rfl), zin_r34 _ (List.mem_of_getElem? (i := 23) rfl)⟩
theorem cl_L_98 : zCl RL 98 yX8_ask_ cX8_ask_ 7 (some .int) 1 := ⟨zin_r35 _ (List.mem_of_getElem? (i := 1) rfl), zin_r1 _ (List.mem_of_getElem? (i := 5) rfl), zin_r35 _ (List.mem_of_getElem? (i := 4) rfl), by decide +kernel, by decide +kernel, by decide +kernel⟩
theorem cv_X8_ask_ : Cond.instanceMethod yX8_ask_ ∈ zT ∧ Cond.selects yX8_ask_.cls yX8_ask_ yX8_ask_ ∈ zT := ⟨zin_r35 _ (List.mem_of_getElem? (i := 2) rfl), zin_r35 _ (List.mem_of_getElem? (i := 3) rfl)⟩
theorem cl_L_99 : zCl RL 99 yX7_blank cX7_blank 2 (some .int) 1 := ⟨zin_r35 _ (List.mem_of_getElem? (i := 5) rfl), zin_r1 _ (List.mem_of_getElem? (i := 2) rfl), zin_r35 _ (List.mem_of_getElem? (i := 8) rfl), by decide +kernel, by decide +kernel, by decide +kernel⟩
theorem cv_X7_blank : Cond.instanceMethod yX7_blank ∈ zT ∧ Cond.selects yX7_blank.cls yX7_blank yX7_blank ∈ zT := ⟨zin_r35 _ (List.mem_of_getElem? (i := 6) rfl), zin_r35 _ (List.mem_of_getElem? (i := 7) rfl)⟩
theorem cl_L_102 : zCl RL 102 yX8_blank cX8_blank 2 (some .int) 1 := ⟨zin_r35 _ (List.mem_of_getElem? (i := 11) rfl), zin_r1 _ (List.mem_of_getElem? (i := 5) rfl), zin_r35 _ (List.mem_of_getElem? (i := 14) rfl), by decide +kernel, by decide +kernel, by decide +kernel⟩
theorem cv_X8_blank : Cond.instanceMethod yX8_blank ∈ zT ∧ Cond.selects yX8_blank.cls yX8_blank yX8_blank ∈ zT := ⟨zin_r35 _ (List.mem_of_getElem? (i := 12) rfl), zin_r35 _ (List.mem_of_getElem? (i := 13) rfl)⟩
theorem cl_L_103 : zCl RL 103 yX7_fills cX7_fills 2 (some .int) 1 := ⟨zin_r35 _ (List.mem_of_getElem? (i := 15) rfl), zin_r1 _ (List.mem_of_getElem? (i := 2) rfl), zin_r35 _ (List.mem_of_getElem? (i := 18) rfl), by decide +kernel, by decide +kernel, by decide +kernel⟩
theorem cv_X7_fills : Cond.instanceMethod yX7_fills ∈ zT ∧ Cond.selects yX7_fills.cls yX7_fills yX7_fills ∈ zT := ⟨zin_r35 _ (List.mem_of_getElem? (i := 16) rfl), zin_r35 _ (List.mem_of_getElem? (i := 17) rfl)⟩
theorem cl_L_106 : zCl RL 106 yX8_fills cX8_fills 4 (some .int) 1 := ⟨zin_r36 _ (List.mem_of_getElem? (i := 8) rfl), zin_r1 _ (List.mem_of_getElem? (i := 5) rfl), zin_r36 _ (List.mem_of_getElem? (i := 11) rfl), by decide +kernel, by decide +kernel, by decide +kernel⟩
theorem cv_X8_fills : Cond.instanceMethod yX8_fills ∈ zT ∧ Cond.selects yX8_fills.cls yX8_fills yX8_fills ∈ zT := ⟨zin_r36 _ (List.mem_of_getElem? (i := 9) rfl), zin_r36 _ (List.mem_of_getElem? (i := 10) rfl)⟩
theorem cl_L_107 : zCl RL 107 yX7_filled cX7_filled 3 (some .int) 1 := ⟨zin_r36 _ (List.mem_of_getElem? (i := 16) rfl), zin_r1 _ (List.mem_of_getElem? (i := 2) rfl), zin_r36 _ (List.mem_of_getElem? (i := 19) rfl), by decide +kernel, by decide +kernel, by decide +kernel⟩
theorem cv_X7_filled : Cond.instanceMethod yX7_filled ∈ zT ∧ Cond.selects yX7_filled.cls yX7_filled yX7_filled ∈ zT := ⟨zin_r36 _ (List.mem_of_getElem? (i := 17) rfl), zin_r36 _ (List.mem_of_getElem? (i := 18) rfl)⟩
theorem cl_L_110 : zCl RL 110 yX8_filled cX8_filled 3 (some .int) 1 := ⟨zin_r37 _ (List.mem_of_getElem? (i := 0) rfl), zin_r1 _ (List.mem_of_getElem? (i := 5) rfl), zin_r37 _ (List.mem_of_getElem? (i := 3) rfl), by decide +kernel, by decide +kernel, by decide +kernel⟩
theorem cv_X8_filled : Cond.instanceMethod yX8_filled ∈ zT ∧ Cond.selects yX8_filled.cls yX8_filled yX8_filled ∈ zT := ⟨zin_r37 _ (List.mem_of_getElem? (i := 1) rfl), zin_r37 _ (List.mem_of_getElem? (i := 2) rfl)⟩
theorem cl_L_111 : zCl RL 111 yX7_judge cX7_judge 5 (some .int) 3 := ⟨zin_r37 _ (List.mem_of_getElem? (i := 4) rfl), zin_r1 _ (List.mem_of_getElem? (i := 2) rfl), zin_r37 _ (List.mem_of_getElem? (i := 7) rfl), by decide +kernel, by decide +kernel, by decide +kernel⟩
theorem cv_X7_judge : Cond.instanceMethod yX7_judge ∈ zT ∧ Cond.selects yX7_judge.cls yX7_judge yX7_judge ∈ zT := ⟨zin_r37 _ (List.mem_of_getElem? (i := 5) rfl), zin_r37 _ (List.mem_of_getElem? (i := 6) rfl)⟩
theorem cl_L_114 : zCl RL 114 yX8_judge cX8_judge 8 (some .int) 3 := ⟨zin_r38 _ (List.mem_of_getElem? (i := 1) rfl), zin_r1 _ (List.mem_of_getElem? (i := 5) rfl), zin_r38 _ (List.mem_of_getElem? (i := 4) rfl), by decide +kernel, by decide +kernel, by decide +kernel⟩
theorem cv_X8_judge : Cond.instanceMethod yX8_judge ∈ zT ∧ Cond.selects yX8_judge.cls yX8_judge yX8_judge ∈ zT := ⟨zin_r38 _ (List.mem_of_getElem? (i := 2) rfl), zin_r38 _ (List.mem_of_getElem? (i := 3) rfl)⟩
theorem cl_L_115 : zCl RL 115 yX7_image cX7_image 1 (some .int) 0 := ⟨zin_r38 _ (List.mem_of_getElem? (i := 9) rfl), zin_r1 _ (List.mem_of_getElem? (i := 2) rfl), zin_r38 _ (List.mem_of_getElem? (i := 12) rfl), by decide +kernel, by decide +kernel, by decide +kernel⟩
theorem cv_X7_image : Cond.instanceMethod yX7_image ∈ zT ∧ Cond.selects yX7_image.cls yX7_image yX7_image ∈ zT := ⟨zin_r38 _ (List.mem_of_getElem? (i := 10) rfl), zin_r38 _ (List.mem_of_getElem? (i := 11) rfl)⟩
theorem cl_L_118 : zCl RL 118 yX8_image cX8_image 1 (some .int) 0 := ⟨zin_r38 _ (List.mem_of_getElem? (i := 20) rfl), zin_r1 _ (List.mem_of_getElem? (i := 5) rfl), zin_r38 _ (List.mem_of_getElem? (i := 23) rfl), by decide +kernel, by decide +kernel, by decide +kernel⟩
theorem cv_X8_image : Cond.instanceMethod yX8_image ∈ zT ∧ Cond.selects yX8_image.cls yX8_image yX8_image ∈ zT := ⟨zin_r38 _ (List.mem_of_getElem? (i := 21) rfl), zin_r38 _ (List.mem_of_getElem? (i := 22) rfl)⟩
theorem cl_L_119 : zCl RL 119 yX7_undo cX7_undo 1 (some .int) 0 := ⟨zin_r39 _ (List.mem_of_getElem? (i := 4) rfl), zin_r1 _ (List.mem_of_getElem? (i := 2) rfl), zin_r39 _ (List.mem_of_getElem? (i := 7) rfl), by decide +kernel, by decide +kernel, by decide +kernel⟩
theorem cv_X7_undo : Cond.instanceMethod yX7_undo ∈ zT ∧ Cond.selects yX7_undo.cls yX7_undo yX7_undo ∈ zT := ⟨zin_r39 _ (List.mem_of_getElem? (i := 5) rfl), zin_r39 _ (List.mem_of_getElem? (i := 6) rfl)⟩
theorem cl_L_122 : zCl RL 122 yX8_undo cX8_undo 1 (some .int) 0 := ⟨zin_r39 _ (List.mem_of_getElem? (i := 8) rfl), zin_r1 _ (List.mem_of_getElem? (i := 5) rfl), zin_r39 _ (List.mem_of_getElem? (i := 11) rfl), by decide +kernel, by decide +kernel, by decide +kernel⟩
theorem cv_X8_undo : Cond.instanceMethod yX8_undo ∈ zT ∧ Cond.selects yX8_undo.cls yX8_undo yX8_undo ∈ zT := ⟨zin_r39 _ (List.mem_of_getElem? (i := 9) rfl), zin_r39 _ (List.mem_of_getElem? (i := 10) rfl)⟩
theorem cl_L_123 : zCl RL 123 yX7_act cX7_act 4 (some .int) 3 := ⟨zin_r39 _ (List.mem_of_getElem? (i := 12) rfl), zin_r1 _ (List.mem_of_getElem? (i := 2) rfl), zin_r39 _ (List.mem_of_getElem? (i := 15) rfl), by decide +kernel, by decide +kernel, by decide +kernel⟩
theorem cv_X7_act : Cond.instanceMethod yX7_act ∈ zT ∧ Cond.selects yX7_act.cls yX7_act yX7_act ∈ zT := ⟨zin_r39 _ (List.mem_of_getElem? (i := 13) rfl), zin_r39 _ (List.mem_of_getElem? (i := 14) rfl)⟩
theorem cl_L_126 : zCl RL 126 yX8_act cX8_act 4 (some .int) 3 := ⟨zin_r40 _ (List.mem_of_getElem? (i := 21) rfl), zin_r1 _ (List.mem_of_getElem? (i := 5) rfl), zin_r41 _ (List.mem_of_getElem? (i := 0) rfl), by decide +kernel, by decide +kernel, by decide +kernel⟩
theorem cv_X8_act : Cond.instanceMethod yX8_act ∈ zT ∧ Cond.selects yX8_act.cls yX8_act yX8_act ∈ zT := ⟨zin_r40 _ (List.mem_of_getElem? (i := 22) rfl), zin_r40 _ (List.mem_of_getElem? (i := 23) rfl)⟩
theorem cl_L_127 : zCl RL 127 yX7_trace cX7_trace 2 (some .int) 1 := ⟨zin_r42 _ (List.mem_of_getElem? (i := 13) rfl), zin_r1 _ (List.mem_of_getElem? (i := 2) rfl), zin_r42 _ (List.mem_of_getElem? (i := 16) rfl), by decide +kernel, by decide +kernel, by decide +kernel⟩
theorem cv_X7_trace : Cond.instanceMethod yX7_trace ∈ zT ∧ Cond.selects yX7_trace.cls yX7_trace yX7_trace ∈ zT := ⟨zin_r42 _ (List.mem_of_getElem? (i := 14) rfl), zin_r42 _ (List.mem_of_getElem? (i := 15) rfl)⟩
theorem cl_L_130 : zCl RL 130 yX8_trace cX8_trace 2 (some .int) 1 := ⟨zin_r42 _ (List.mem_of_getElem? (i := 19) rfl), zin_r1 _ (List.mem_of_getElem? (i := 5) rfl), zin_r42 _ (List.mem_of_getElem? (i := 22) rfl), by decide +kernel, by decide +kernel, by decide +kernel⟩
theorem cv_X8_trace : Cond.instanceMethod yX8_trace ∈ zT ∧ Cond.selects yX8_trace.cls yX8_trace yX8_trace ∈ zT := ⟨zin_r42 _ (List.mem_of_getElem? (i := 20) rfl), zin_r42 _ (List.mem_of_getElem? (i := 21) rfl)⟩
theorem cl_L_131 : zCl RL 131 yX7_taken cX7_taken 6 (some .int) 2 := ⟨zin_r42 _ (List.mem_of_getElem? (i := 23) rfl), zin_r1 _ (List.mem_of_getElem? (i := 2) rfl), zin_r43 _ (List.mem_of_getElem? (i := 2) rfl), by decide +kernel, by decide +kernel, by decide +kernel⟩
theorem cv_X7_taken : Cond.instanceMethod yX7_taken ∈ zT ∧ Cond.selects yX7_taken.cls yX7_taken yX7_taken ∈ zT := ⟨zin_r43 _ (List.mem_of_getElem? (i := 0) rfl), zin_r43 _ (List.mem_of_getElem? (i := 1) rfl)⟩
theorem cl_L_134 : zCl RL 134 yX8_taken cX8_taken 4 (some .int) 2 := ⟨zin_r43 _ (List.mem_of_getElem? (i := 4) rfl), zin_r1 _ (List.mem_of_getElem? (i := 5) rfl), zin_r43 _ (List.mem_of_getElem? (i := 7) rfl), by decide +kernel, by decide +kernel, by decide +kernel⟩
theorem cv_X8_taken : Cond.instanceMethod yX8_taken ∈ zT ∧ Cond.selects yX8_taken.cls yX8_taken yX8_taken ∈ zT := ⟨zin_r43 _ (List.mem_of_getElem? (i := 5) rfl), zin_r43 _ (List.mem_of_getElem? (i := 6) rfl)⟩
theorem cl_L_135 : zCl RL 135 yX7_count cX7_count 2 (some .int) 1 := ⟨zin_r43 _ (List.mem_of_getElem? (i := 8) rfl), zin_r1 _ (List.mem_of_getElem? (i := 2) rfl), zin_r43 _ (List.mem_of_getElem? (i := 11) rfl), by decide +kernel, by decide +kernel, by decide +kernel⟩
theorem cv_X7_count : Cond.instanceMethod yX7_count ∈ zT ∧ Cond.selects yX7_count.cls yX7_count yX7_count ∈ zT := ⟨zin_r43 _ (List.mem_of_getElem? (i := 9) rfl), zin_r43 _ (List.mem_of_getElem? (i := 10) rfl)⟩
theorem cl_L_138 : zCl RL 138 yX8_count cX8_count 2 (some .int) 1 := ⟨zin_r43 _ (List.mem_of_getElem? (i := 12) rfl), zin_r1 _ (List.mem_of_getElem? (i := 5) rfl), zin_r43 _ (List.mem_of_getElem? (i := 15) rfl), by decide +kernel, by decide +kernel, by decide +kernel⟩
theorem cv_X8_count : Cond.instanceMethod yX8_count ∈ zT ∧ Cond.selects yX8_count.cls yX8_count yX8_count ∈ zT := ⟨zin_r43 _ (List.mem_of_getElem? (i := 13) rfl), zin_r43 _ (List.mem_of_getElem? (i := 14) rfl)⟩
theorem cl_L_139 : zCl RL 139 yX7_tape cX7_tape 5 (some .int) 3 := ⟨zin_r43 _ (List.mem_of_getElem? (i := 16) rfl), zin_r1 _ (List.mem_of_getElem? (i := 2) rfl), zin_r43 _ (List.mem_of_getElem? (i := 19) rfl), by decide +kernel, by decide +kernel, by decide +kernel⟩
theorem cv_X7_tape : Cond.instanceMethod yX7_tape ∈ zT ∧ Cond.selects yX7_tape.cls yX7_tape yX7_tape ∈ zT := ⟨zin_r43 _ (List.mem_of_getElem? (i := 17) rfl), zin_r43 _ (List.mem_of_getElem? (i := 18) rfl)⟩
theorem cl_L_142 : zCl RL 142 yX8_tape cX8_tape 5 (some .int) 3 := ⟨zin_r44 _ (List.mem_of_getElem? (i := 1) rfl), zin_r1 _ (List.mem_of_getElem? (i := 5) rfl), zin_r44 _ (List.mem_of_getElem? (i := 4) rfl), by decide +kernel, by decide +kernel, by decide +kernel⟩
theorem cv_X8_tape : Cond.instanceMethod yX8_tape ∈ zT ∧ Cond.selects yX8_tape.cls yX8_tape yX8_tape ∈ zT := ⟨zin_r44 _ (List.mem_of_getElem? (i := 2) rfl), zin_r44 _ (List.mem_of_getElem? (i := 3) rfl)⟩
theorem cl_L_145 : zCl RL 145 yX7_item cX7_item 6 (some .int) 3 := ⟨zin_r44 _ (List.mem_of_getElem? (i := 5) rfl), zin_r1 _ (List.mem_of_getElem? (i := 2) rfl), zin_r44 _ (List.mem_of_getElem? (i := 8) rfl), by decide +kernel, by decide +kernel, by decide +kernel⟩
theorem cv_X7_item : Cond.instanceMethod yX7_item ∈ zT ∧ Cond.selects yX7_item.cls yX7_item yX7_item ∈ zT := ⟨zin_r44 _ (List.mem_of_getElem? (i := 6) rfl), zin_r44 _ (List.mem_of_getElem? (i := 7) rfl)⟩
theorem cl_L_149 : zCl RL 149 yX8_item cX8_item 5 (some .int) 3 := ⟨zin_r44 _ (List.mem_of_getElem? (i := 12) rfl), zin_r1 _ (List.mem_of_getElem? (i := 5) rfl), zin_r44 _ (List.mem_of_getElem? (i := 15) rfl), by decide +kernel, by decide +kernel, by decide +kernel⟩
theorem cv_X8_item : Cond.instanceMethod yX8_item ∈ zT ∧ Cond.selects yX8_item.cls yX8_item yX8_item ∈ zT := ⟨zin_r44 _ (List.mem_of_getElem? (i := 13) rfl), zin_r44 _ (List.mem_of_getElem? (i := 14) rfl)⟩
theorem cl_L_150 : zCl RL 150 yX7_read cX7_read 4 (some .long) 2 := ⟨zin_r44 _ (List.mem_of_getElem? (i := 20) rfl), zin_r1 _ (List.mem_of_getElem? (i := 2) rfl), zin_r44 _ (List.mem_of_getElem? (i := 23) rfl), by decide +kernel, by decide +kernel, by decide +kernel⟩
theorem cv_X7_read : Cond.instanceMethod yX7_read ∈ zT ∧ Cond.selects yX7_read.cls yX7_read yX7_read ∈ zT := ⟨zin_r44 _ (List.mem_of_getElem? (i := 21) rfl), zin_r44 _ (List.mem_of_getElem? (i := 22) rfl)⟩
theorem cl_L_154 : zCl RL 154 yX8_read cX8_read 3 (some .long) 2 := ⟨zin_r45 _ (List.mem_of_getElem? (i := 0) rfl), zin_r1 _ (List.mem_of_getElem? (i := 5) rfl), zin_r45 _ (List.mem_of_getElem? (i := 3) rfl), by decide +kernel, by decide +kernel, by decide +kernel⟩
theorem cv_X8_read : Cond.instanceMethod yX8_read ∈ zT ∧ Cond.selects yX8_read.cls yX8_read yX8_read ∈ zT := ⟨zin_r45 _ (List.mem_of_getElem? (i := 1) rfl), zin_r45 _ (List.mem_of_getElem? (i := 2) rfl)⟩
theorem cl_L_155 : zCl RL 155 yX7_shift cX7_shift 8 (some .int) 5 := ⟨zin_r45 _ (List.mem_of_getElem? (i := 4) rfl), zin_r1 _ (List.mem_of_getElem? (i := 2) rfl), zin_r45 _ (List.mem_of_getElem? (i := 7) rfl), by decide +kernel, by decide +kernel, by decide +kernel⟩
theorem cv_X7_shift : Cond.instanceMethod yX7_shift ∈ zT ∧ Cond.selects yX7_shift.cls yX7_shift yX7_shift ∈ zT := ⟨zin_r45 _ (List.mem_of_getElem? (i := 5) rfl), zin_r45 _ (List.mem_of_getElem? (i := 6) rfl)⟩
theorem cl_L_158 : zCl RL 158 yX8_shift cX8_shift 7 (some .int) 5 := ⟨zin_r45 _ (List.mem_of_getElem? (i := 13) rfl), zin_r1 _ (List.mem_of_getElem? (i := 5) rfl), zin_r45 _ (List.mem_of_getElem? (i := 16) rfl), by decide +kernel, by decide +kernel, by decide +kernel⟩
theorem cv_X8_shift : Cond.instanceMethod yX8_shift ∈ zT ∧ Cond.selects yX8_shift.cls yX8_shift yX8_shift ∈ zT := ⟨zin_r45 _ (List.mem_of_getElem? (i := 14) rfl), zin_r45 _ (List.mem_of_getElem? (i := 15) rfl)⟩
theorem cl_X0_28 : zCl RX0 28 yX0_perform cX0_perform 9 (some .int) 4 := ⟨zin_r40 _ (List.mem_of_getElem? (i := 8) rfl), zin_r2 _ (List.mem_of_getElem? (i := 7) rfl), zin_r40 _ (List.mem_of_getElem? (i := 11) rfl), by decide +kernel, by decide +kernel, by decide +kernel⟩
theorem cv_X0_perform : Cond.instanceMethod yX0_perform ∈ zT ∧ Cond.selects yX0_perform.cls yX0_perform yX0_perform ∈ zT := ⟨zin_r40 _ (List.mem_of_getElem? (i := 9) rfl), zin_r40 _ (List.mem_of_getElem? (i := 10) rfl)⟩
theorem cl_X0_32 : zCl RX0 32 yX0_ownerOf cX0_ownerOf 4 (some .int) 2 := ⟨zin_r40 _ (List.mem_of_getElem? (i := 14) rfl), zin_r2 _ (List.mem_of_getElem? (i := 7) rfl), zin_r40 _ (List.mem_of_getElem? (i := 16) rfl), by decide +kernel, by decide +kernel, by decide +kernel⟩
theorem cs_X0_ownerOf : Cond.static yX0_ownerOf ∈ zT := zin_r40 _ (List.mem_of_getElem? (i := 15) rfl)
theorem cl_X0_47 : zCl RX0 47 yX0_begin cX0_begin 2 none 1 := ⟨zin_r40 _ (List.mem_of_getElem? (i := 17) rfl), zin_r2 _ (List.mem_of_getElem? (i := 7) rfl), zin_r40 _ (List.mem_of_getElem? (i := 20) rfl), by decide +kernel, by decide +kernel, by decide +kernel⟩
theorem cv_X0_begin : Cond.instanceMethod yX0_begin ∈ zT ∧ Cond.selects yX0_begin.cls yX0_begin yX0_begin ∈ zT := ⟨zin_r40 _ (List.mem_of_getElem? (i := 18) rfl), zin_r40 _ (List.mem_of_getElem? (i := 19) rfl)⟩
theorem cl_X1_31 : zCl RX1 31 yX1_holds cX1_holds 12 (some .boolean) 6 := ⟨zin_r18 _ (List.mem_of_getElem? (i := 12) rfl), zin_r2 _ (List.mem_of_getElem? (i := 12) rfl), zin_r18 _ (List.mem_of_getElem? (i := 15) rfl), by decide +kernel, by decide +kernel, by decide +kernel⟩
theorem cv_X1_holds : Cond.instanceMethod yX1_holds ∈ zT ∧ Cond.selects yX1_holds.cls yX1_holds yX1_holds ∈ zT := ⟨zin_r18 _ (List.mem_of_getElem? (i := 13) rfl), zin_r18 _ (List.mem_of_getElem? (i := 14) rfl)⟩
theorem cl_X1_41 : zCl RX1 41 yX1_lastOf cX1_lastOf 5 (some .int) 2 := ⟨zin_r21 _ (List.mem_of_getElem? (i := 21) rfl), zin_r2 _ (List.mem_of_getElem? (i := 12) rfl), zin_r22 _ (List.mem_of_getElem? (i := 0) rfl), by decide +kernel, by decide +kernel, by decide +kernel⟩
theorem cv_X1_lastOf : Cond.instanceMethod yX1_lastOf ∈ zT ∧ Cond.selects yX1_lastOf.cls yX1_lastOf yX1_lastOf ∈ zT := ⟨zin_r21 _ (List.mem_of_getElem? (i := 22) rfl), zin_r21 _ (List.mem_of_getElem? (i := 23) rfl)⟩
theorem cl_X1_44 : zCl RX1 44 yX1_valueOf cX1_valueOf 6 (some .int) 6 := ⟨zin_r18 _ (List.mem_of_getElem? (i := 16) rfl), zin_r2 _ (List.mem_of_getElem? (i := 12) rfl), zin_r18 _ (List.mem_of_getElem? (i := 18) rfl), by decide +kernel, by decide +kernel, by decide +kernel⟩
theorem cs_X1_valueOf : Cond.static yX1_valueOf ∈ zT := zin_r18 _ (List.mem_of_getElem? (i := 17) rfl)
theorem cl_X1_48 : zCl RX1 48 yX1_passes cX1_passes 3 (some .boolean) 3 := ⟨zin_r18 _ (List.mem_of_getElem? (i := 19) rfl), zin_r2 _ (List.mem_of_getElem? (i := 12) rfl), zin_r18 _ (List.mem_of_getElem? (i := 21) rfl), by decide +kernel, by decide +kernel, by decide +kernel⟩
theorem cs_X1_passes : Cond.static yX1_passes ∈ zT := zin_r18 _ (List.mem_of_getElem? (i := 20) rfl)
theorem cl_X2_15 : zCl RX2 15 yJ7_fill_d0a16 cJ7_fill_d0a16 5 none 2 := ⟨zin_r30 _ (List.mem_of_getElem? (i := 13) rfl), zin_r4 _ (List.mem_of_getElem? (i := 21) rfl), zin_r30 _ (List.mem_of_getElem? (i := 15) rfl), by decide +kernel, by decide +kernel, by decide +kernel⟩
theorem cs_J7_fill_d0a16 : Cond.static yJ7_fill_d0a16 ∈ zT := zin_r30 _ (List.mem_of_getElem? (i := 14) rfl)
theorem cl_X3_40 : zCl RX3 40 yX1_mostSteps cX1_mostSteps 1 (some .int) 0 := ⟨zin_r21 _ (List.mem_of_getElem? (i := 17) rfl), zin_r2 _ (List.mem_of_getElem? (i := 12) rfl), zin_r21 _ (List.mem_of_getElem? (i := 20) rfl), by decide +kernel, by decide +kernel, by decide +kernel⟩
theorem cv_X1_mostSteps : Cond.instanceMethod yX1_mostSteps ∈ zT ∧ Cond.selects yX1_mostSteps.cls yX1_mostSteps yX1_mostSteps ∈ zT := ⟨zin_r21 _ (List.mem_of_getElem? (i := 18) rfl), zin_r21 _ (List.mem_of_getElem? (i := 19) rfl)⟩
theorem cl_X3_51 : zCl RX3 51 yX6_hoursBetween cX6_hoursBetween 4 (some .int) 2 := ⟨zin_r22 _ (List.mem_of_getElem? (i := 1) rfl), zin_r2 _ (List.mem_of_getElem? (i := 17) rfl), zin_r18 _ (List.mem_of_getElem? (i := 7) rfl), by decide +kernel, by decide +kernel, by decide +kernel⟩
theorem cv_X6_hoursBetween : Cond.instanceMethod yX6_hoursBetween ∈ zT ∧ Cond.selects yX6_hoursBetween.cls yX6_hoursBetween yX6_hoursBetween ∈ zT := ⟨zin_r18 _ (List.mem_of_getElem? (i := 5) rfl), zin_r18 _ (List.mem_of_getElem? (i := 6) rfl)⟩
theorem cl_X3_61 : zCl RX3 61 yX3_runStep cX3_runStep 6 (some .boolean) 1 := ⟨zin_r22 _ (List.mem_of_getElem? (i := 10) rfl), zin_r1 _ (List.mem_of_getElem? (i := 23) rfl), zin_r22 _ (List.mem_of_getElem? (i := 13) rfl), by decide +kernel, by decide +kernel, by decide +kernel⟩
theorem cv_X3_runStep : Cond.instanceMethod yX3_runStep ∈ zT ∧ Cond.selects yX3_runStep.cls yX3_runStep yX3_runStep ∈ zT := ⟨zin_r22 _ (List.mem_of_getElem? (i := 11) rfl), zin_r22 _ (List.mem_of_getElem? (i := 12) rfl)⟩
theorem cl_X3_65 : zCl RX3 65 yX3_knownBy cX3_knownBy 3 (some .boolean) 2 := ⟨zin_r33 _ (List.mem_of_getElem? (i := 23) rfl), zin_r1 _ (List.mem_of_getElem? (i := 23) rfl), zin_r25 _ (List.mem_of_getElem? (i := 17) rfl), by decide +kernel, by decide +kernel, by decide +kernel⟩
theorem cv_X3_knownBy : Cond.instanceMethod yX3_knownBy ∈ zT ∧ Cond.selects yX3_knownBy.cls yX3_knownBy yX3_knownBy ∈ zT := ⟨zin_r25 _ (List.mem_of_getElem? (i := 15) rfl), zin_r25 _ (List.mem_of_getElem? (i := 16) rfl)⟩
theorem cl_X3_69 : zCl RX3 69 yX3_run cX3_run 4 none 1 := ⟨zin_r24 _ (List.mem_of_getElem? (i := 4) rfl), zin_r1 _ (List.mem_of_getElem? (i := 23) rfl), zin_r22 _ (List.mem_of_getElem? (i := 5) rfl), by decide +kernel, by decide +kernel, by decide +kernel⟩
theorem cv_X3_run : Cond.instanceMethod yX3_run ∈ zT ∧ Cond.selects yX3_run.cls yX3_run yX3_run ∈ zT := ⟨zin_r22 _ (List.mem_of_getElem? (i := 3) rfl), zin_r22 _ (List.mem_of_getElem? (i := 4) rfl)⟩
theorem cl_X3_73 : zCl RX3 73 yX3_lookBack cX3_lookBack 7 none 1 := ⟨zin_r24 _ (List.mem_of_getElem? (i := 5) rfl), zin_r1 _ (List.mem_of_getElem? (i := 23) rfl), zin_r24 _ (List.mem_of_getElem? (i := 8) rfl), by decide +kernel, by decide +kernel, by decide +kernel⟩
theorem cv_X3_lookBack : Cond.instanceMethod yX3_lookBack ∈ zT ∧ Cond.selects yX3_lookBack.cls yX3_lookBack yX3_lookBack ∈ zT := ⟨zin_r24 _ (List.mem_of_getElem? (i := 6) rfl), zin_r24 _ (List.mem_of_getElem? (i := 7) rfl)⟩
theorem cl_X3_76 : zCl RX3 76 yX3_walk cX3_walk 8 none 2 := ⟨zin_r24 _ (List.mem_of_getElem? (i := 11) rfl), zin_r1 _ (List.mem_of_getElem? (i := 23) rfl), zin_r24 _ (List.mem_of_getElem? (i := 14) rfl), by decide +kernel, by decide +kernel, by decide +kernel⟩
theorem cv_X3_walk : Cond.instanceMethod yX3_walk ∈ zT ∧ Cond.selects yX3_walk.cls yX3_walk yX3_walk ∈ zT := ⟨zin_r24 _ (List.mem_of_getElem? (i := 12) rfl), zin_r24 _ (List.mem_of_getElem? (i := 13) rfl)⟩
theorem cl_X3_80 : zCl RX3 80 yJ7_fill_53178 cJ7_fill_53178 4 none 2 := ⟨zin_r24 _ (List.mem_of_getElem? (i := 10) rfl), zin_r4 _ (List.mem_of_getElem? (i := 21) rfl), zin_r4 _ (List.mem_of_getElem? (i := 22) rfl), by decide +kernel, by decide +kernel, by decide +kernel⟩
theorem cs_J7_fill_53178 : Cond.static yJ7_fill_53178 ∈ zT := zin_r4 _ (List.mem_of_getElem? (i := 20) rfl)
theorem cl_X4_22 : zCl RX4 22 yJ7_fill_d0a16 cJ7_fill_d0a16 5 none 2 := ⟨zin_r44 _ (List.mem_of_getElem? (i := 0) rfl), zin_r4 _ (List.mem_of_getElem? (i := 21) rfl), zin_r30 _ (List.mem_of_getElem? (i := 15) rfl), by decide +kernel, by decide +kernel, by decide +kernel⟩
theorem cl_X5_19 : zCl RX5 19 yX1_clear cX1_clear 1 none 0 := ⟨zin_r10 _ (List.mem_of_getElem? (i := 15) rfl), zin_r2 _ (List.mem_of_getElem? (i := 12) rfl), zin_r10 _ (List.mem_of_getElem? (i := 18) rfl), by decide +kernel, by decide +kernel, by decide +kernel⟩
theorem cv_X1_clear : Cond.instanceMethod yX1_clear ∈ zT ∧ Cond.selects yX1_clear.cls yX1_clear yX1_clear ∈ zT := ⟨zin_r10 _ (List.mem_of_getElem? (i := 16) rfl), zin_r10 _ (List.mem_of_getElem? (i := 17) rfl)⟩
theorem cl_X5_27 : zCl RX5 27 yX5_readClause cX5_readClause 4 (some .boolean) 1 := ⟨zin_r10 _ (List.mem_of_getElem? (i := 21) rfl), zin_r1 _ (List.mem_of_getElem? (i := 17) rfl), zin_r11 _ (List.mem_of_getElem? (i := 0) rfl), by decide +kernel, by decide +kernel, by decide +kernel⟩
theorem cv_X5_readClause : Cond.instanceMethod yX5_readClause ∈ zT ∧ Cond.selects yX5_readClause.cls yX5_readClause yX5_readClause ∈ zT := ⟨zin_r10 _ (List.mem_of_getElem? (i := 22) rfl), zin_r10 _ (List.mem_of_getElem? (i := 23) rfl)⟩
theorem cl_X5_31 : zCl RX5 31 yX5_eats cX5_eats 2 (some .boolean) 1 := ⟨zin_r13 _ (List.mem_of_getElem? (i := 13) rfl), zin_r1 _ (List.mem_of_getElem? (i := 17) rfl), zin_r13 _ (List.mem_of_getElem? (i := 16) rfl), by decide +kernel, by decide +kernel, by decide +kernel⟩
theorem cv_X5_eats : Cond.instanceMethod yX5_eats ∈ zT ∧ Cond.selects yX5_eats.cls yX5_eats yX5_eats ∈ zT := ⟨zin_r13 _ (List.mem_of_getElem? (i := 14) rfl), zin_r13 _ (List.mem_of_getElem? (i := 15) rfl)⟩
theorem cl_X5_35 : zCl RX5 35 yX5_readWord cX5_readWord 5 (some .int) 0 := ⟨zin_r11 _ (List.mem_of_getElem? (i := 1) rfl), zin_r1 _ (List.mem_of_getElem? (i := 17) rfl), zin_r11 _ (List.mem_of_getElem? (i := 4) rfl), by decide +kernel, by decide +kernel, by decide +kernel⟩
theorem cv_X5_readWord : Cond.instanceMethod yX5_readWord ∈ zT ∧ Cond.selects yX5_readWord.cls yX5_readWord yX5_readWord ∈ zT := ⟨zin_r11 _ (List.mem_of_getElem? (i := 2) rfl), zin_r11 _ (List.mem_of_getElem? (i := 3) rfl)⟩
theorem cl_X5_39 : zCl RX5 39 yX5_readNumber cX5_readNumber 4 (some .int) 1 := ⟨zin_r13 _ (List.mem_of_getElem? (i := 17) rfl), zin_r1 _ (List.mem_of_getElem? (i := 17) rfl), zin_r13 _ (List.mem_of_getElem? (i := 20) rfl), by decide +kernel, by decide +kernel, by decide +kernel⟩
theorem cv_X5_readNumber : Cond.instanceMethod yX5_readNumber ∈ zT ∧ Cond.selects yX5_readNumber.cls yX5_readNumber yX5_readNumber ∈ zT := ⟨zin_r13 _ (List.mem_of_getElem? (i := 18) rfl), zin_r13 _ (List.mem_of_getElem? (i := 19) rfl)⟩
theorem cl_X5_43 : zCl RX5 43 yX5_readEither cX5_readEither 4 (some .boolean) 2 := ⟨zin_r13 _ (List.mem_of_getElem? (i := 21) rfl), zin_r1 _ (List.mem_of_getElem? (i := 17) rfl), zin_r14 _ (List.mem_of_getElem? (i := 0) rfl), by decide +kernel, by decide +kernel, by decide +kernel⟩
theorem cv_X5_readEither : Cond.instanceMethod yX5_readEither ∈ zT ∧ Cond.selects yX5_readEither.cls yX5_readEither yX5_readEither ∈ zT := ⟨zin_r13 _ (List.mem_of_getElem? (i := 22) rfl), zin_r13 _ (List.mem_of_getElem? (i := 23) rfl)⟩
theorem cl_X5_47 : zCl RX5 47 yX1_endClause cX1_endClause 3 none 2 := ⟨zin_r15 _ (List.mem_of_getElem? (i := 0) rfl), zin_r2 _ (List.mem_of_getElem? (i := 12) rfl), zin_r15 _ (List.mem_of_getElem? (i := 3) rfl), by decide +kernel, by decide +kernel, by decide +kernel⟩
theorem cv_X1_endClause : Cond.instanceMethod yX1_endClause ∈ zT ∧ Cond.selects yX1_endClause.cls yX1_endClause yX1_endClause ∈ zT := ⟨zin_r15 _ (List.mem_of_getElem? (i := 1) rfl), zin_r15 _ (List.mem_of_getElem? (i := 2) rfl)⟩
theorem cl_X5_61 : zCl RX5 61 yX5_spelling cX5_spelling 1 (some (.object "java/lang/String")) 1 := ⟨zin_r11 _ (List.mem_of_getElem? (i := 9) rfl), zin_r1 _ (List.mem_of_getElem? (i := 17) rfl), zin_r11 _ (List.mem_of_getElem? (i := 11) rfl), by decide +kernel, by decide +kernel, by decide +kernel⟩
theorem cs_X5_spelling : Cond.static yX5_spelling ∈ zT := zin_r11 _ (List.mem_of_getElem? (i := 10) rfl)
theorem cl_X5_65 : zCl RX5 65 yJ0_length_8abf5 cJ0_length_8abf5 1 (some .int) 0 := ⟨zin_r11 _ (List.mem_of_getElem? (i := 12) rfl), zin_r11 _ (List.mem_of_getElem? (i := 15) rfl), zin_r11 _ (List.mem_of_getElem? (i := 16) rfl), by decide +kernel, by decide +kernel, by decide +kernel⟩
theorem cv_J0_length_8abf5 : Cond.instanceMethod yJ0_length_8abf5 ∈ zT ∧ Cond.selects yJ0_length_8abf5.cls yJ0_length_8abf5 yJ0_length_8abf5 ∈ zT := ⟨zin_r11 _ (List.mem_of_getElem? (i := 13) rfl), zin_r11 _ (List.mem_of_getElem? (i := 14) rfl)⟩
theorem cl_X5_69 : zCl RX5 69 yJ0_charAt_5068e cJ0_charAt_5068e 2 (some .char) 1 := ⟨zin_r12 _ (List.mem_of_getElem? (i := 0) rfl), zin_r11 _ (List.mem_of_getElem? (i := 15) rfl), zin_r12 _ (List.mem_of_getElem? (i := 3) rfl), by decide +kernel, by decide +kernel, by decide +kernel⟩
theorem cv_J0_charAt_5068e : Cond.instanceMethod yJ0_charAt_5068e ∈ zT ∧ Cond.selects yJ0_charAt_5068e.cls yJ0_charAt_5068e yJ0_charAt_5068e ∈ zT := ⟨zin_r12 _ (List.mem_of_getElem? (i := 1) rfl), zin_r12 _ (List.mem_of_getElem? (i := 2) rfl)⟩
theorem cl_X5_79 : zCl RX5 79 yX5_readAll cX5_readAll 4 (some .boolean) 2 := ⟨zin_r14 _ (List.mem_of_getElem? (i := 1) rfl), zin_r1 _ (List.mem_of_getElem? (i := 17) rfl), zin_r14 _ (List.mem_of_getElem? (i := 8) rfl), by decide +kernel, by decide +kernel, by decide +kernel⟩
theorem cv_X5_readAll : Cond.instanceMethod yX5_readAll ∈ zT ∧ Cond.selects yX5_readAll.cls yX5_readAll yX5_readAll ∈ zT := ⟨zin_r14 _ (List.mem_of_getElem? (i := 2) rfl), zin_r14 _ (List.mem_of_getElem? (i := 3) rfl)⟩
theorem cl_X5_82 : zCl RX5 82 yX1_addSign cX1_addSign 2 none 1 := ⟨zin_r14 _ (List.mem_of_getElem? (i := 4) rfl), zin_r2 _ (List.mem_of_getElem? (i := 12) rfl), zin_r14 _ (List.mem_of_getElem? (i := 7) rfl), by decide +kernel, by decide +kernel, by decide +kernel⟩
theorem cv_X1_addSign : Cond.instanceMethod yX1_addSign ∈ zT ∧ Cond.selects yX1_addSign.cls yX1_addSign yX1_addSign ∈ zT := ⟨zin_r14 _ (List.mem_of_getElem? (i := 5) rfl), zin_r14 _ (List.mem_of_getElem? (i := 6) rfl)⟩
theorem cl_X5_86 : zCl RX5 86 yX5_readOne cX5_readOne 4 (some .boolean) 2 := ⟨zin_r14 _ (List.mem_of_getElem? (i := 9) rfl), zin_r1 _ (List.mem_of_getElem? (i := 17) rfl), zin_r14 _ (List.mem_of_getElem? (i := 12) rfl), by decide +kernel, by decide +kernel, by decide +kernel⟩
theorem cv_X5_readOne : Cond.instanceMethod yX5_readOne ∈ zT ∧ Cond.selects yX5_readOne.cls yX5_readOne yX5_readOne ∈ zT := ⟨zin_r14 _ (List.mem_of_getElem? (i := 10) rfl), zin_r14 _ (List.mem_of_getElem? (i := 11) rfl)⟩
theorem cl_X5_89 : zCl RX5 89 yX5_readTest cX5_readTest 5 (some .boolean) 1 := ⟨zin_r14 _ (List.mem_of_getElem? (i := 13) rfl), zin_r1 _ (List.mem_of_getElem? (i := 17) rfl), zin_r14 _ (List.mem_of_getElem? (i := 16) rfl), by decide +kernel, by decide +kernel, by decide +kernel⟩
theorem cv_X5_readTest : Cond.instanceMethod yX5_readTest ∈ zT ∧ Cond.selects yX5_readTest.cls yX5_readTest yX5_readTest ∈ zT := ⟨zin_r14 _ (List.mem_of_getElem? (i := 14) rfl), zin_r14 _ (List.mem_of_getElem? (i := 15) rfl)⟩
theorem cl_X5_94 : zCl RX5 94 yX5_readSign cX5_readSign 3 (some .int) 1 := ⟨zin_r14 _ (List.mem_of_getElem? (i := 17) rfl), zin_r1 _ (List.mem_of_getElem? (i := 17) rfl), zin_r14 _ (List.mem_of_getElem? (i := 20) rfl), by decide +kernel, by decide +kernel, by decide +kernel⟩
theorem cv_X5_readSign : Cond.instanceMethod yX5_readSign ∈ zT ∧ Cond.selects yX5_readSign.cls yX5_readSign yX5_readSign ∈ zT := ⟨zin_r14 _ (List.mem_of_getElem? (i := 18) rfl), zin_r14 _ (List.mem_of_getElem? (i := 19) rfl)⟩
theorem cl_X5_100 : zCl RX5 100 yX1_testSign cX1_testSign 3 (some .int) 3 := ⟨zin_r14 _ (List.mem_of_getElem? (i := 21) rfl), zin_r2 _ (List.mem_of_getElem? (i := 12) rfl), zin_r14 _ (List.mem_of_getElem? (i := 23) rfl), by decide +kernel, by decide +kernel, by decide +kernel⟩
theorem cs_X1_testSign : Cond.static yX1_testSign ∈ zT := zin_r14 _ (List.mem_of_getElem? (i := 22) rfl)
theorem cl_X6_40 : zCl RX6 40 yJ7_fill_53178 cJ7_fill_53178 4 none 2 := ⟨zin_r4 _ (List.mem_of_getElem? (i := 19) rfl), zin_r4 _ (List.mem_of_getElem? (i := 21) rfl), zin_r4 _ (List.mem_of_getElem? (i := 22) rfl), by decide +kernel, by decide +kernel, by decide +kernel⟩
theorem cl_X6_59 : zCl RX6 59 yX1_hoursOf cX1_hoursOf 5 (some .int) 3 := ⟨zin_r18 _ (List.mem_of_getElem? (i := 8) rfl), zin_r2 _ (List.mem_of_getElem? (i := 12) rfl), zin_r18 _ (List.mem_of_getElem? (i := 11) rfl), by decide +kernel, by decide +kernel, by decide +kernel⟩
theorem cv_X1_hoursOf : Cond.instanceMethod yX1_hoursOf ∈ zT ∧ Cond.selects yX1_hoursOf.cls yX1_hoursOf yX1_hoursOf ∈ zT := ⟨zin_r18 _ (List.mem_of_getElem? (i := 9) rfl), zin_r18 _ (List.mem_of_getElem? (i := 10) rfl)⟩
theorem cl_X7_59 : zCl RX7 59 yX6_init cX6_init 2 none 1 := ⟨zin_r4 _ (List.mem_of_getElem? (i := 6) rfl), zin_r2 _ (List.mem_of_getElem? (i := 17) rfl), zin_r4 _ (List.mem_of_getElem? (i := 8) rfl), by decide +kernel, by decide +kernel, by decide +kernel⟩
theorem cl_X7_69 : zCl RX7 69 yX7_isLetters cX7_isLetters 1 (some .boolean) 1 := ⟨zin_r7 _ (List.mem_of_getElem? (i := 19) rfl), zin_r1 _ (List.mem_of_getElem? (i := 2) rfl), zin_r7 _ (List.mem_of_getElem? (i := 21) rfl), by decide +kernel, by decide +kernel, by decide +kernel⟩
theorem cs_X7_isLetters : Cond.static yX7_isLetters ∈ zT := zin_r7 _ (List.mem_of_getElem? (i := 20) rfl)
theorem cl_X7_77 : zCl RX7 77 yX7_isName cX7_isName 2 (some .boolean) 1 := ⟨zin_r8 _ (List.mem_of_getElem? (i := 10) rfl), zin_r1 _ (List.mem_of_getElem? (i := 2) rfl), zin_r8 _ (List.mem_of_getElem? (i := 13) rfl), by decide +kernel, by decide +kernel, by decide +kernel⟩
theorem cv_X7_isName : Cond.instanceMethod yX7_isName ∈ zT ∧ Cond.selects yX7_isName.cls yX7_isName yX7_isName ∈ zT := ⟨zin_r8 _ (List.mem_of_getElem? (i := 11) rfl), zin_r8 _ (List.mem_of_getElem? (i := 12) rfl)⟩
theorem cl_X7_80 : zCl RX7 80 yX6_joinBoth cX6_joinBoth 5 (some .int) 3 := ⟨zin_r8 _ (List.mem_of_getElem? (i := 14) rfl), zin_r2 _ (List.mem_of_getElem? (i := 17) rfl), zin_r8 _ (List.mem_of_getElem? (i := 17) rfl), by decide +kernel, by decide +kernel, by decide +kernel⟩
theorem cv_X6_joinBoth : Cond.instanceMethod yX6_joinBoth ∈ zT ∧ Cond.selects yX6_joinBoth.cls yX6_joinBoth yX6_joinBoth ∈ zT := ⟨zin_r8 _ (List.mem_of_getElem? (i := 15) rfl), zin_r8 _ (List.mem_of_getElem? (i := 16) rfl)⟩
theorem cl_X7_84 : zCl RX7 84 yX7_isHour cX7_isHour 1 (some .boolean) 1 := ⟨zin_r9 _ (List.mem_of_getElem? (i := 7) rfl), zin_r1 _ (List.mem_of_getElem? (i := 2) rfl), zin_r9 _ (List.mem_of_getElem? (i := 9) rfl), by decide +kernel, by decide +kernel, by decide +kernel⟩
theorem cs_X7_isHour : Cond.static yX7_isHour ∈ zT := zin_r9 _ (List.mem_of_getElem? (i := 8) rfl)
theorem cl_X7_93 : zCl RX7 93 yX5_append cX5_append 2 none 1 := ⟨zin_r9 _ (List.mem_of_getElem? (i := 19) rfl), zin_r1 _ (List.mem_of_getElem? (i := 17) rfl), zin_r9 _ (List.mem_of_getElem? (i := 22) rfl), by decide +kernel, by decide +kernel, by decide +kernel⟩
theorem cv_X5_append : Cond.instanceMethod yX5_append ∈ zT ∧ Cond.selects yX5_append.cls yX5_append yX5_append ∈ zT := ⟨zin_r9 _ (List.mem_of_getElem? (i := 20) rfl), zin_r9 _ (List.mem_of_getElem? (i := 21) rfl)⟩
theorem cl_X7_100 : zCl RX7 100 yX5_readInto cX5_readInto 3 (some .int) 1 := ⟨zin_r10 _ (List.mem_of_getElem? (i := 10) rfl), zin_r1 _ (List.mem_of_getElem? (i := 17) rfl), zin_r10 _ (List.mem_of_getElem? (i := 13) rfl), by decide +kernel, by decide +kernel, by decide +kernel⟩
theorem cv_X5_readInto : Cond.instanceMethod yX5_readInto ∈ zT ∧ Cond.selects yX5_readInto.cls yX5_readInto yX5_readInto ∈ zT := ⟨zin_r10 _ (List.mem_of_getElem? (i := 11) rfl), zin_r10 _ (List.mem_of_getElem? (i := 12) rfl)⟩
theorem cl_X7_108 : zCl RX7 108 yX6_hoursBetween cX6_hoursBetween 4 (some .int) 2 := ⟨zin_r18 _ (List.mem_of_getElem? (i := 4) rfl), zin_r2 _ (List.mem_of_getElem? (i := 17) rfl), zin_r18 _ (List.mem_of_getElem? (i := 7) rfl), by decide +kernel, by decide +kernel, by decide +kernel⟩
theorem cl_X7_112 : zCl RX7 112 yX7_isFriday cX7_isFriday 1 (some .boolean) 1 := ⟨zin_r20 _ (List.mem_of_getElem? (i := 2) rfl), zin_r1 _ (List.mem_of_getElem? (i := 2) rfl), zin_r20 _ (List.mem_of_getElem? (i := 4) rfl), by decide +kernel, by decide +kernel, by decide +kernel⟩
theorem cs_X7_isFriday : Cond.static yX7_isFriday ∈ zT := zin_r20 _ (List.mem_of_getElem? (i := 3) rfl)
theorem cl_X7_115 : zCl RX7 115 yX7_habitOf cX7_habitOf 3 (some .int) 2 := ⟨zin_r20 _ (List.mem_of_getElem? (i := 5) rfl), zin_r1 _ (List.mem_of_getElem? (i := 2) rfl), zin_r20 _ (List.mem_of_getElem? (i := 8) rfl), by decide +kernel, by decide +kernel, by decide +kernel⟩
theorem cv_X7_habitOf : Cond.instanceMethod yX7_habitOf ∈ zT ∧ Cond.selects yX7_habitOf.cls yX7_habitOf yX7_habitOf ∈ zT := ⟨zin_r20 _ (List.mem_of_getElem? (i := 6) rfl), zin_r20 _ (List.mem_of_getElem? (i := 7) rfl)⟩
theorem cl_X7_118 : zCl RX7 118 yX7_spreadAll cX7_spreadAll 1 none 0 := ⟨zin_r21 _ (List.mem_of_getElem? (i := 4) rfl), zin_r1 _ (List.mem_of_getElem? (i := 2) rfl), zin_r21 _ (List.mem_of_getElem? (i := 7) rfl), by decide +kernel, by decide +kernel, by decide +kernel⟩
theorem cv_X7_spreadAll : Cond.instanceMethod yX7_spreadAll ∈ zT ∧ Cond.selects yX7_spreadAll.cls yX7_spreadAll yX7_spreadAll ∈ zT := ⟨zin_r21 _ (List.mem_of_getElem? (i := 5) rfl), zin_r21 _ (List.mem_of_getElem? (i := 6) rfl)⟩
theorem cl_X7_121 : zCl RX7 121 yX3_hourOf cX3_hourOf 2 (some .int) 1 := ⟨zin_r22 _ (List.mem_of_getElem? (i := 14) rfl), zin_r1 _ (List.mem_of_getElem? (i := 23) rfl), zin_r22 _ (List.mem_of_getElem? (i := 17) rfl), by decide +kernel, by decide +kernel, by decide +kernel⟩
theorem cv_X3_hourOf : Cond.instanceMethod yX3_hourOf ∈ zT ∧ Cond.selects yX3_hourOf.cls yX3_hourOf yX3_hourOf ∈ zT := ⟨zin_r22 _ (List.mem_of_getElem? (i := 15) rfl), zin_r22 _ (List.mem_of_getElem? (i := 16) rfl)⟩
theorem cl_X7_125 : zCl RX7 125 yX3_take cX3_take 6 none 2 := ⟨zin_r21 _ (List.mem_of_getElem? (i := 8) rfl), zin_r1 _ (List.mem_of_getElem? (i := 23) rfl), zin_r21 _ (List.mem_of_getElem? (i := 11) rfl), by decide +kernel, by decide +kernel, by decide +kernel⟩
theorem cv_X3_take : Cond.instanceMethod yX3_take ∈ zT ∧ Cond.selects yX3_take.cls yX3_take yX3_take ∈ zT := ⟨zin_r21 _ (List.mem_of_getElem? (i := 9) rfl), zin_r21 _ (List.mem_of_getElem? (i := 10) rfl)⟩
theorem cl_X7_129 : zCl RX7 129 yX3_rowTo cX3_rowTo 5 (some .int) 1 := ⟨zin_r24 _ (List.mem_of_getElem? (i := 0) rfl), zin_r1 _ (List.mem_of_getElem? (i := 23) rfl), zin_r24 _ (List.mem_of_getElem? (i := 3) rfl), by decide +kernel, by decide +kernel, by decide +kernel⟩
theorem cv_X3_rowTo : Cond.instanceMethod yX3_rowTo ∈ zT ∧ Cond.selects yX3_rowTo.cls yX3_rowTo yX3_rowTo ∈ zT := ⟨zin_r24 _ (List.mem_of_getElem? (i := 1) rfl), zin_r24 _ (List.mem_of_getElem? (i := 2) rfl)⟩
theorem cl_X7_135 : zCl RX7 135 yX7_leastSilence cX7_leastSilence 6 (some .int) 3 := ⟨zin_r25 _ (List.mem_of_getElem? (i := 3) rfl), zin_r1 _ (List.mem_of_getElem? (i := 2) rfl), zin_r25 _ (List.mem_of_getElem? (i := 6) rfl), by decide +kernel, by decide +kernel, by decide +kernel⟩
theorem cv_X7_leastSilence : Cond.instanceMethod yX7_leastSilence ∈ zT ∧ Cond.selects yX7_leastSilence.cls yX7_leastSilence yX7_leastSilence ∈ zT := ⟨zin_r25 _ (List.mem_of_getElem? (i := 4) rfl), zin_r25 _ (List.mem_of_getElem? (i := 5) rfl)⟩
theorem cl_X7_138 : zCl RX7 138 yJ6_bitCount_0f7a4 cJ6_bitCount_0f7a4 1 (some .int) 1 := ⟨zin_r25 _ (List.mem_of_getElem? (i := 7) rfl), zin_r25 _ (List.mem_of_getElem? (i := 9) rfl), zin_r25 _ (List.mem_of_getElem? (i := 10) rfl), by decide +kernel, by decide +kernel, by decide +kernel⟩
theorem cs_J6_bitCount_0f7a4 : Cond.static yJ6_bitCount_0f7a4 ∈ zT := zin_r25 _ (List.mem_of_getElem? (i := 8) rfl)
theorem cl_X7_143 : zCl RX7 143 yX3_run cX3_run 4 none 1 := ⟨zin_r22 _ (List.mem_of_getElem? (i := 2) rfl), zin_r1 _ (List.mem_of_getElem? (i := 23) rfl), zin_r22 _ (List.mem_of_getElem? (i := 5) rfl), by decide +kernel, by decide +kernel, by decide +kernel⟩
theorem cl_X7_146 : zCl RX7 146 yX3_knownBy cX3_knownBy 3 (some .boolean) 2 := ⟨zin_r25 _ (List.mem_of_getElem? (i := 14) rfl), zin_r1 _ (List.mem_of_getElem? (i := 23) rfl), zin_r25 _ (List.mem_of_getElem? (i := 17) rfl), by decide +kernel, by decide +kernel, by decide +kernel⟩
theorem cl_X7_150 : zCl RX7 150 yX7_isKind cX7_isKind 1 (some .boolean) 1 := ⟨zin_r26 _ (List.mem_of_getElem? (i := 11) rfl), zin_r1 _ (List.mem_of_getElem? (i := 2) rfl), zin_r26 _ (List.mem_of_getElem? (i := 13) rfl), by decide +kernel, by decide +kernel, by decide +kernel⟩
theorem cs_X7_isKind : Cond.static yX7_isKind ∈ zT := zin_r26 _ (List.mem_of_getElem? (i := 12) rfl)
theorem cl_X7_156 : zCl RX7 156 yX6_addTrade cX6_addTrade 6 (some .int) 5 := ⟨zin_r26 _ (List.mem_of_getElem? (i := 14) rfl), zin_r2 _ (List.mem_of_getElem? (i := 17) rfl), zin_r26 _ (List.mem_of_getElem? (i := 17) rfl), by decide +kernel, by decide +kernel, by decide +kernel⟩
theorem cv_X6_addTrade : Cond.instanceMethod yX6_addTrade ∈ zT ∧ Cond.selects yX6_addTrade.cls yX6_addTrade yX6_addTrade ∈ zT := ⟨zin_r26 _ (List.mem_of_getElem? (i := 15) rfl), zin_r26 _ (List.mem_of_getElem? (i := 16) rfl)⟩
theorem cl_X7_160 : zCl RX7 160 yX7_isTrade cX7_isTrade 2 (some .boolean) 1 := ⟨zin_r27 _ (List.mem_of_getElem? (i := 8) rfl), zin_r1 _ (List.mem_of_getElem? (i := 2) rfl), zin_r27 _ (List.mem_of_getElem? (i := 11) rfl), by decide +kernel, by decide +kernel, by decide +kernel⟩
theorem cv_X7_isTrade : Cond.instanceMethod yX7_isTrade ∈ zT ∧ Cond.selects yX7_isTrade.cls yX7_isTrade yX7_isTrade ∈ zT := ⟨zin_r27 _ (List.mem_of_getElem? (i := 9) rfl), zin_r27 _ (List.mem_of_getElem? (i := 10) rfl)⟩
theorem cl_X7_178 : zCl RX7 178 yX7_explaining cX7_explaining 5 (some .int) 1 := ⟨zin_r27 _ (List.mem_of_getElem? (i := 12) rfl), zin_r1 _ (List.mem_of_getElem? (i := 2) rfl), zin_r27 _ (List.mem_of_getElem? (i := 15) rfl), by decide +kernel, by decide +kernel, by decide +kernel⟩
theorem cv_X7_explaining : Cond.instanceMethod yX7_explaining ∈ zT ∧ Cond.selects yX7_explaining.cls yX7_explaining yX7_explaining ∈ zT := ⟨zin_r27 _ (List.mem_of_getElem? (i := 13) rfl), zin_r27 _ (List.mem_of_getElem? (i := 14) rfl)⟩
theorem cl_X7_181 : zCl RX7 181 yX7_knownAlone cX7_knownAlone 2 (some .boolean) 1 := ⟨zin_r28 _ (List.mem_of_getElem? (i := 21) rfl), zin_r1 _ (List.mem_of_getElem? (i := 2) rfl), zin_r28 _ (List.mem_of_getElem? (i := 23) rfl), by decide +kernel, by decide +kernel, by decide +kernel⟩
theorem cs_X7_knownAlone : Cond.static yX7_knownAlone ∈ zT := zin_r28 _ (List.mem_of_getElem? (i := 22) rfl)
theorem cl_X7_184 : zCl RX7 184 yX6_fridaysOf cX6_fridaysOf 4 (some .int) 1 := ⟨zin_r29 _ (List.mem_of_getElem? (i := 8) rfl), zin_r2 _ (List.mem_of_getElem? (i := 17) rfl), zin_r29 _ (List.mem_of_getElem? (i := 11) rfl), by decide +kernel, by decide +kernel, by decide +kernel⟩
theorem cv_X6_fridaysOf : Cond.instanceMethod yX6_fridaysOf ∈ zT ∧ Cond.selects yX6_fridaysOf.cls yX6_fridaysOf yX6_fridaysOf ∈ zT := ⟨zin_r29 _ (List.mem_of_getElem? (i := 9) rfl), zin_r29 _ (List.mem_of_getElem? (i := 10) rfl)⟩
theorem cl_X7_189 : zCl RX7 189 yX7_weighAgain cX7_weighAgain 4 none 2 := ⟨zin_r30 _ (List.mem_of_getElem? (i := 3) rfl), zin_r1 _ (List.mem_of_getElem? (i := 2) rfl), zin_r30 _ (List.mem_of_getElem? (i := 6) rfl), by decide +kernel, by decide +kernel, by decide +kernel⟩
theorem cv_X7_weighAgain : Cond.instanceMethod yX7_weighAgain ∈ zT ∧ Cond.selects yX7_weighAgain.cls yX7_weighAgain yX7_weighAgain ∈ zT := ⟨zin_r30 _ (List.mem_of_getElem? (i := 4) rfl), zin_r30 _ (List.mem_of_getElem? (i := 5) rfl)⟩
theorem cl_X7_193 : zCl RX7 193 yX2_multiply cX2_multiply 2 none 1 := ⟨zin_r31 _ (List.mem_of_getElem? (i := 3) rfl), zin_r2 _ (List.mem_of_getElem? (i := 3) rfl), zin_r31 _ (List.mem_of_getElem? (i := 6) rfl), by decide +kernel, by decide +kernel, by decide +kernel⟩
theorem cv_X2_multiply : Cond.instanceMethod yX2_multiply ∈ zT ∧ Cond.selects yX2_multiply.cls yX2_multiply yX2_multiply ∈ zT := ⟨zin_r31 _ (List.mem_of_getElem? (i := 4) rfl), zin_r31 _ (List.mem_of_getElem? (i := 5) rfl)⟩
theorem cl_X7_196 : zCl RX7 196 yX2_reduce cX2_reduce 8 none 0 := ⟨zin_r31 _ (List.mem_of_getElem? (i := 10) rfl), zin_r2 _ (List.mem_of_getElem? (i := 3) rfl), zin_r31 _ (List.mem_of_getElem? (i := 13) rfl), by decide +kernel, by decide +kernel, by decide +kernel⟩
theorem cv_X2_reduce : Cond.instanceMethod yX2_reduce ∈ zT ∧ Cond.selects yX2_reduce.cls yX2_reduce yX2_reduce ∈ zT := ⟨zin_r31 _ (List.mem_of_getElem? (i := 11) rfl), zin_r31 _ (List.mem_of_getElem? (i := 12) rfl)⟩
theorem cl_X7_206 : zCl RX7 206 yX7_alikePairs cX7_alikePairs 3 (some .int) 0 := ⟨zin_r32 _ (List.mem_of_getElem? (i := 16) rfl), zin_r1 _ (List.mem_of_getElem? (i := 2) rfl), zin_r32 _ (List.mem_of_getElem? (i := 19) rfl), by decide +kernel, by decide +kernel, by decide +kernel⟩
theorem cv_X7_alikePairs : Cond.instanceMethod yX7_alikePairs ∈ zT ∧ Cond.selects yX7_alikePairs.cls yX7_alikePairs yX7_alikePairs ∈ zT := ⟨zin_r32 _ (List.mem_of_getElem? (i := 17) rfl), zin_r32 _ (List.mem_of_getElem? (i := 18) rfl)⟩
theorem cl_X7_210 : zCl RX7 210 yX7_greatestRing cX7_greatestRing 6 (some .int) 0 := ⟨zin_r33 _ (List.mem_of_getElem? (i := 0) rfl), zin_r1 _ (List.mem_of_getElem? (i := 2) rfl), zin_r33 _ (List.mem_of_getElem? (i := 3) rfl), by decide +kernel, by decide +kernel, by decide +kernel⟩
theorem cv_X7_greatestRing : Cond.instanceMethod yX7_greatestRing ∈ zT ∧ Cond.selects yX7_greatestRing.cls yX7_greatestRing yX7_greatestRing ∈ zT := ⟨zin_r33 _ (List.mem_of_getElem? (i := 1) rfl), zin_r33 _ (List.mem_of_getElem? (i := 2) rfl)⟩
theorem cl_X7_213 : zCl RX7 213 yX1_lastOf cX1_lastOf 5 (some .int) 2 := ⟨zin_r27 _ (List.mem_of_getElem? (i := 16) rfl), zin_r2 _ (List.mem_of_getElem? (i := 12) rfl), zin_r22 _ (List.mem_of_getElem? (i := 0) rfl), by decide +kernel, by decide +kernel, by decide +kernel⟩
theorem cl_X7_216 : zCl RX7 216 yX6_hasFellow cX6_hasFellow 3 (some .boolean) 1 := ⟨zin_r27 _ (List.mem_of_getElem? (i := 17) rfl), zin_r2 _ (List.mem_of_getElem? (i := 17) rfl), zin_r27 _ (List.mem_of_getElem? (i := 20) rfl), by decide +kernel, by decide +kernel, by decide +kernel⟩
theorem cv_X6_hasFellow : Cond.instanceMethod yX6_hasFellow ∈ zT ∧ Cond.selects yX6_hasFellow.cls yX6_hasFellow yX6_hasFellow ∈ zT := ⟨zin_r27 _ (List.mem_of_getElem? (i := 18) rfl), zin_r27 _ (List.mem_of_getElem? (i := 19) rfl)⟩
theorem cl_X7_219 : zCl RX7 219 yX2_start cX2_start 1 none 0 := ⟨zin_r30 _ (List.mem_of_getElem? (i := 7) rfl), zin_r2 _ (List.mem_of_getElem? (i := 3) rfl), zin_r30 _ (List.mem_of_getElem? (i := 10) rfl), by decide +kernel, by decide +kernel, by decide +kernel⟩
theorem cv_X2_start : Cond.instanceMethod yX2_start ∈ zT ∧ Cond.selects yX2_start.cls yX2_start yX2_start ∈ zT := ⟨zin_r30 _ (List.mem_of_getElem? (i := 8) rfl), zin_r30 _ (List.mem_of_getElem? (i := 9) rfl)⟩
theorem cl_X7_222 : zCl RX7 222 yX2_addFriday cX2_addFriday 5 none 1 := ⟨zin_r30 _ (List.mem_of_getElem? (i := 16) rfl), zin_r2 _ (List.mem_of_getElem? (i := 3) rfl), zin_r30 _ (List.mem_of_getElem? (i := 19) rfl), by decide +kernel, by decide +kernel, by decide +kernel⟩
theorem cv_X2_addFriday : Cond.instanceMethod yX2_addFriday ∈ zT ∧ Cond.selects yX2_addFriday.cls yX2_addFriday yX2_addFriday ∈ zT := ⟨zin_r30 _ (List.mem_of_getElem? (i := 17) rfl), zin_r30 _ (List.mem_of_getElem? (i := 18) rfl)⟩
theorem cl_X7_225 : zCl RX7 225 yX2_atLeast cX2_atLeast 3 none 1 := ⟨zin_r30 _ (List.mem_of_getElem? (i := 21) rfl), zin_r2 _ (List.mem_of_getElem? (i := 3) rfl), zin_r31 _ (List.mem_of_getElem? (i := 0) rfl), by decide +kernel, by decide +kernel, by decide +kernel⟩
theorem cv_X2_atLeast : Cond.instanceMethod yX2_atLeast ∈ zT ∧ Cond.selects yX2_atLeast.cls yX2_atLeast yX2_atLeast ∈ zT := ⟨zin_r30 _ (List.mem_of_getElem? (i := 22) rfl), zin_r30 _ (List.mem_of_getElem? (i := 23) rfl)⟩
theorem cl_X7_228 : zCl RX7 228 yX7_alikeWith cX7_alikeWith 5 (some .int) 1 := ⟨zin_r32 _ (List.mem_of_getElem? (i := 20) rfl), zin_r1 _ (List.mem_of_getElem? (i := 2) rfl), zin_r32 _ (List.mem_of_getElem? (i := 23) rfl), by decide +kernel, by decide +kernel, by decide +kernel⟩
theorem cv_X7_alikeWith : Cond.instanceMethod yX7_alikeWith ∈ zT ∧ Cond.selects yX7_alikeWith.cls yX7_alikeWith yX7_alikeWith ∈ zT := ⟨zin_r32 _ (List.mem_of_getElem? (i := 21) rfl), zin_r32 _ (List.mem_of_getElem? (i := 22) rfl)⟩
theorem cl_X7_231 : zCl RX7 231 yX7_isParted cX7_isParted 1 (some .boolean) 1 := ⟨zin_r33 _ (List.mem_of_getElem? (i := 12) rfl), zin_r1 _ (List.mem_of_getElem? (i := 2) rfl), zin_r33 _ (List.mem_of_getElem? (i := 14) rfl), by decide +kernel, by decide +kernel, by decide +kernel⟩
theorem cs_X7_isParted : Cond.static yX7_isParted ∈ zT := zin_r33 _ (List.mem_of_getElem? (i := 13) rfl)
theorem cl_X7_234 : zCl RX7 234 yX7_knowers cX7_knowers 2 (some .int) 1 := ⟨zin_r33 _ (List.mem_of_getElem? (i := 15) rfl), zin_r1 _ (List.mem_of_getElem? (i := 2) rfl), zin_r33 _ (List.mem_of_getElem? (i := 18) rfl), by decide +kernel, by decide +kernel, by decide +kernel⟩
theorem cv_X7_knowers : Cond.instanceMethod yX7_knowers ∈ zT ∧ Cond.selects yX7_knowers.cls yX7_knowers yX7_knowers ∈ zT := ⟨zin_r33 _ (List.mem_of_getElem? (i := 16) rfl), zin_r33 _ (List.mem_of_getElem? (i := 17) rfl)⟩
theorem cl_X7_242 : zCl RX7 242 yX3_knownByAll cX3_knownByAll 4 (some .int) 1 := ⟨zin_r33 _ (List.mem_of_getElem? (i := 19) rfl), zin_r1 _ (List.mem_of_getElem? (i := 23) rfl), zin_r33 _ (List.mem_of_getElem? (i := 22) rfl), by decide +kernel, by decide +kernel, by decide +kernel⟩
theorem cv_X3_knownByAll : Cond.instanceMethod yX3_knownByAll ∈ zT ∧ Cond.selects yX3_knownByAll.cls yX3_knownByAll yX3_knownByAll ∈ zT := ⟨zin_r33 _ (List.mem_of_getElem? (i := 20) rfl), zin_r33 _ (List.mem_of_getElem? (i := 21) rfl)⟩
theorem cl_X7_251 : zCl RX7 251 yX7_waysToFill cX7_waysToFill 5 (some .int) 0 := ⟨zin_r35 _ (List.mem_of_getElem? (i := 19) rfl), zin_r1 _ (List.mem_of_getElem? (i := 2) rfl), zin_r35 _ (List.mem_of_getElem? (i := 22) rfl), by decide +kernel, by decide +kernel, by decide +kernel⟩
theorem cv_X7_waysToFill : Cond.instanceMethod yX7_waysToFill ∈ zT ∧ Cond.selects yX7_waysToFill.cls yX7_waysToFill yX7_waysToFill ∈ zT := ⟨zin_r35 _ (List.mem_of_getElem? (i := 20) rfl), zin_r35 _ (List.mem_of_getElem? (i := 21) rfl)⟩
theorem cl_X7_254 : zCl RX7 254 yX7_isBlank cX7_isBlank 2 (some .boolean) 1 := ⟨zin_r36 _ (List.mem_of_getElem? (i := 4) rfl), zin_r1 _ (List.mem_of_getElem? (i := 2) rfl), zin_r36 _ (List.mem_of_getElem? (i := 7) rfl), by decide +kernel, by decide +kernel, by decide +kernel⟩
theorem cv_X7_isBlank : Cond.instanceMethod yX7_isBlank ∈ zT ∧ Cond.selects yX7_isBlank.cls yX7_isBlank yX7_isBlank ∈ zT := ⟨zin_r36 _ (List.mem_of_getElem? (i := 5) rfl), zin_r36 _ (List.mem_of_getElem? (i := 6) rfl)⟩
theorem cl_X7_257 : zCl RX7 257 yX7_namesOfLetters cX7_namesOfLetters 4 (some .int) 1 := ⟨zin_r36 _ (List.mem_of_getElem? (i := 0) rfl), zin_r1 _ (List.mem_of_getElem? (i := 2) rfl), zin_r36 _ (List.mem_of_getElem? (i := 3) rfl), by decide +kernel, by decide +kernel, by decide +kernel⟩
theorem cv_X7_namesOfLetters : Cond.instanceMethod yX7_namesOfLetters ∈ zT ∧ Cond.selects yX7_namesOfLetters.cls yX7_namesOfLetters yX7_namesOfLetters ∈ zT := ⟨zin_r36 _ (List.mem_of_getElem? (i := 1) rfl), zin_r36 _ (List.mem_of_getElem? (i := 2) rfl)⟩
theorem cl_X7_260 : zCl RX7 260 yX7_leastOf cX7_leastOf 3 (some .int) 1 := ⟨zin_r36 _ (List.mem_of_getElem? (i := 20) rfl), zin_r1 _ (List.mem_of_getElem? (i := 2) rfl), zin_r36 _ (List.mem_of_getElem? (i := 23) rfl), by decide +kernel, by decide +kernel, by decide +kernel⟩
theorem cv_X7_leastOf : Cond.instanceMethod yX7_leastOf ∈ zT ∧ Cond.selects yX7_leastOf.cls yX7_leastOf yX7_leastOf ∈ zT := ⟨zin_r36 _ (List.mem_of_getElem? (i := 21) rfl), zin_r36 _ (List.mem_of_getElem? (i := 22) rfl)⟩
theorem cl_X7_266 : zCl RX7 266 yX7_tapeAt cX7_tapeAt 2 (some (.object "TuesdayKnew$Tape")) 1 := ⟨zin_r37 _ (List.mem_of_getElem? (i := 9) rfl), zin_r1 _ (List.mem_of_getElem? (i := 2) rfl), zin_r37 _ (List.mem_of_getElem? (i := 12) rfl), by decide +kernel, by decide +kernel, by decide +kernel⟩
theorem cv_X7_tapeAt : Cond.instanceMethod yX7_tapeAt ∈ zT ∧ Cond.selects yX7_tapeAt.cls yX7_tapeAt yX7_tapeAt ∈ zT := ⟨zin_r37 _ (List.mem_of_getElem? (i := 10) rfl), zin_r37 _ (List.mem_of_getElem? (i := 11) rfl)⟩
theorem cl_X7_273 : zCl RX7 273 yX4_hasPlace cX4_hasPlace 2 (some .boolean) 1 := ⟨zin_r37 _ (List.mem_of_getElem? (i := 13) rfl), zin_r2 _ (List.mem_of_getElem? (i := 14) rfl), zin_r37 _ (List.mem_of_getElem? (i := 16) rfl), by decide +kernel, by decide +kernel, by decide +kernel⟩
theorem cv_X4_hasPlace : Cond.instanceMethod yX4_hasPlace ∈ zT ∧ Cond.selects yX4_hasPlace.cls yX4_hasPlace yX4_hasPlace ∈ zT := ⟨zin_r37 _ (List.mem_of_getElem? (i := 14) rfl), zin_r37 _ (List.mem_of_getElem? (i := 15) rfl)⟩
theorem cl_X7_276 : zCl RX7 276 yX7_judgeRow cX7_judgeRow 11 (some .int) 3 := ⟨zin_r37 _ (List.mem_of_getElem? (i := 18) rfl), zin_r1 _ (List.mem_of_getElem? (i := 2) rfl), zin_r37 _ (List.mem_of_getElem? (i := 21) rfl), by decide +kernel, by decide +kernel, by decide +kernel⟩
theorem cv_X7_judgeRow : Cond.instanceMethod yX7_judgeRow ∈ zT ∧ Cond.selects yX7_judgeRow.cls yX7_judgeRow yX7_judgeRow ∈ zT := ⟨zin_r37 _ (List.mem_of_getElem? (i := 19) rfl), zin_r37 _ (List.mem_of_getElem? (i := 20) rfl)⟩
theorem cl_X7_280 : zCl RX7 280 yX6_become cX6_become 2 none 1 := ⟨zin_r38 _ (List.mem_of_getElem? (i := 14) rfl), zin_r2 _ (List.mem_of_getElem? (i := 17) rfl), zin_r38 _ (List.mem_of_getElem? (i := 17) rfl), by decide +kernel, by decide +kernel, by decide +kernel⟩
theorem cv_X6_become : Cond.instanceMethod yX6_become ∈ zT ∧ Cond.selects yX6_become.cls yX6_become yX6_become ∈ zT := ⟨zin_r38 _ (List.mem_of_getElem? (i := 15) rfl), zin_r38 _ (List.mem_of_getElem? (i := 16) rfl)⟩
theorem cl_X7_288 : zCl RX7 288 yX0_forget cX0_forget 1 none 0 := ⟨zin_r39 _ (List.mem_of_getElem? (i := 16) rfl), zin_r2 _ (List.mem_of_getElem? (i := 7) rfl), zin_r39 _ (List.mem_of_getElem? (i := 19) rfl), by decide +kernel, by decide +kernel, by decide +kernel⟩
theorem cv_X0_forget : Cond.instanceMethod yX0_forget ∈ zT ∧ Cond.selects yX0_forget.cls yX0_forget yX0_forget ∈ zT := ⟨zin_r39 _ (List.mem_of_getElem? (i := 17) rfl), zin_r39 _ (List.mem_of_getElem? (i := 18) rfl)⟩
theorem cl_X7_291 : zCl RX7 291 yX0_takeOn cX0_takeOn 4 none 3 := ⟨zin_r39 _ (List.mem_of_getElem? (i := 21) rfl), zin_r2 _ (List.mem_of_getElem? (i := 7) rfl), zin_r40 _ (List.mem_of_getElem? (i := 0) rfl), by decide +kernel, by decide +kernel, by decide +kernel⟩
theorem cv_X0_takeOn : Cond.instanceMethod yX0_takeOn ∈ zT ∧ Cond.selects yX0_takeOn.cls yX0_takeOn yX0_takeOn ∈ zT := ⟨zin_r39 _ (List.mem_of_getElem? (i := 22) rfl), zin_r39 _ (List.mem_of_getElem? (i := 23) rfl)⟩
theorem cl_X7_295 : zCl RX7 295 yX0_answer cX0_answer 3 (some .int) 2 := ⟨zin_r40 _ (List.mem_of_getElem? (i := 4) rfl), zin_r2 _ (List.mem_of_getElem? (i := 7) rfl), zin_r40 _ (List.mem_of_getElem? (i := 7) rfl), by decide +kernel, by decide +kernel, by decide +kernel⟩
theorem cv_X0_answer : Cond.instanceMethod yX0_answer ∈ zT ∧ Cond.selects yX0_answer.cls yX0_answer yX0_answer ∈ zT := ⟨zin_r40 _ (List.mem_of_getElem? (i := 5) rfl), zin_r40 _ (List.mem_of_getElem? (i := 6) rfl)⟩
theorem cl_X7_307 : zCl RX7 307 yX4_become cX4_become 3 none 2 := ⟨zin_r43 _ (List.mem_of_getElem? (i := 20) rfl), zin_r2 _ (List.mem_of_getElem? (i := 14) rfl), zin_r43 _ (List.mem_of_getElem? (i := 23) rfl), by decide +kernel, by decide +kernel, by decide +kernel⟩
theorem cv_X4_become : Cond.instanceMethod yX4_become ∈ zT ∧ Cond.selects yX4_become.cls yX4_become yX4_become ∈ zT := ⟨zin_r43 _ (List.mem_of_getElem? (i := 21) rfl), zin_r43 _ (List.mem_of_getElem? (i := 22) rfl)⟩
theorem cl_X7_313 : zCl RX7 313 yX4_cut cX4_cut 3 (some .long) 2 := ⟨zin_r44 _ (List.mem_of_getElem? (i := 9) rfl), zin_r2 _ (List.mem_of_getElem? (i := 14) rfl), zin_r44 _ (List.mem_of_getElem? (i := 11) rfl), by decide +kernel, by decide +kernel, by decide +kernel⟩
theorem cs_X4_cut : Cond.static yX4_cut ∈ zT := zin_r44 _ (List.mem_of_getElem? (i := 10) rfl)
theorem cl_X7_317 : zCl RX7 317 yX4_hasRun cX4_hasRun 3 (some .boolean) 2 := ⟨zin_r45 _ (List.mem_of_getElem? (i := 9) rfl), zin_r2 _ (List.mem_of_getElem? (i := 14) rfl), zin_r45 _ (List.mem_of_getElem? (i := 12) rfl), by decide +kernel, by decide +kernel, by decide +kernel⟩
theorem cv_X4_hasRun : Cond.instanceMethod yX4_hasRun ∈ zT ∧ Cond.selects yX4_hasRun.cls yX4_hasRun yX4_hasRun ∈ zT := ⟨zin_r45 _ (List.mem_of_getElem? (i := 10) rfl), zin_r45 _ (List.mem_of_getElem? (i := 11) rfl)⟩
theorem cl_X7_326 : zCl RX7 326 yX1_mostSteps cX1_mostSteps 1 (some .int) 0 := ⟨zin_r38 _ (List.mem_of_getElem? (i := 0) rfl), zin_r2 _ (List.mem_of_getElem? (i := 12) rfl), zin_r21 _ (List.mem_of_getElem? (i := 20) rfl), by decide +kernel, by decide +kernel, by decide +kernel⟩
theorem cl_X7_330 : zCl RX7 330 yX1_habitOf cX1_habitOf 6 (some .int) 3 := ⟨zin_r20 _ (List.mem_of_getElem? (i := 9) rfl), zin_r2 _ (List.mem_of_getElem? (i := 12) rfl), zin_r20 _ (List.mem_of_getElem? (i := 12) rfl), by decide +kernel, by decide +kernel, by decide +kernel⟩
theorem cv_X1_habitOf : Cond.instanceMethod yX1_habitOf ∈ zT ∧ Cond.selects yX1_habitOf.cls yX1_habitOf yX1_habitOf ∈ zT := ⟨zin_r20 _ (List.mem_of_getElem? (i := 10) rfl), zin_r20 _ (List.mem_of_getElem? (i := 11) rfl)⟩
theorem cl_X8_189 : zCl RX8 189 yX8_in cX8_in 4 (some .boolean) 3 := ⟨zin_r8 _ (List.mem_of_getElem? (i := 2) rfl), zin_r1 _ (List.mem_of_getElem? (i := 5) rfl), zin_r8 _ (List.mem_of_getElem? (i := 5) rfl), by decide +kernel, by decide +kernel, by decide +kernel⟩
theorem cv_X8_in : Cond.instanceMethod yX8_in ∈ zT ∧ Cond.selects yX8_in.cls yX8_in yX8_in ∈ zT := ⟨zin_r8 _ (List.mem_of_getElem? (i := 3) rfl), zin_r8 _ (List.mem_of_getElem? (i := 4) rfl)⟩
theorem cl_X8_193 : zCl RX8 193 yX8_isName cX8_isName 2 (some .boolean) 1 := ⟨zin_r8 _ (List.mem_of_getElem? (i := 22) rfl), zin_r1 _ (List.mem_of_getElem? (i := 5) rfl), zin_r9 _ (List.mem_of_getElem? (i := 1) rfl), by decide +kernel, by decide +kernel, by decide +kernel⟩
theorem cv_X8_isName : Cond.instanceMethod yX8_isName ∈ zT ∧ Cond.selects yX8_isName.cls yX8_isName yX8_isName ∈ zT := ⟨zin_r8 _ (List.mem_of_getElem? (i := 23) rfl), zin_r9 _ (List.mem_of_getElem? (i := 0) rfl)⟩
theorem cl_X8_197 : zCl RX8 197 yX8_next cX8_next 1 (some .int) 0 := ⟨zin_r16 _ (List.mem_of_getElem? (i := 0) rfl), zin_r1 _ (List.mem_of_getElem? (i := 5) rfl), zin_r16 _ (List.mem_of_getElem? (i := 3) rfl), by decide +kernel, by decide +kernel, by decide +kernel⟩
theorem cv_X8_next : Cond.instanceMethod yX8_next ∈ zT ∧ Cond.selects yX8_next.cls yX8_next yX8_next ∈ zT := ⟨zin_r16 _ (List.mem_of_getElem? (i := 1) rfl), zin_r16 _ (List.mem_of_getElem? (i := 2) rfl)⟩
theorem cl_X8_201 : zCl RX8 201 yX8_takes cX8_takes 2 (some .boolean) 1 := ⟨zin_r16 _ (List.mem_of_getElem? (i := 8) rfl), zin_r1 _ (List.mem_of_getElem? (i := 5) rfl), zin_r16 _ (List.mem_of_getElem? (i := 11) rfl), by decide +kernel, by decide +kernel, by decide +kernel⟩
theorem cv_X8_takes : Cond.instanceMethod yX8_takes ∈ zT ∧ Cond.selects yX8_takes.cls yX8_takes yX8_takes ∈ zT := ⟨zin_r16 _ (List.mem_of_getElem? (i := 9) rfl), zin_r16 _ (List.mem_of_getElem? (i := 10) rfl)⟩
theorem cl_X8_204 : zCl RX8 204 yX8_isDigit cX8_isDigit 1 (some .boolean) 0 := ⟨zin_r16 _ (List.mem_of_getElem? (i := 20) rfl), zin_r1 _ (List.mem_of_getElem? (i := 5) rfl), zin_r16 _ (List.mem_of_getElem? (i := 23) rfl), by decide +kernel, by decide +kernel, by decide +kernel⟩
theorem cv_X8_isDigit : Cond.instanceMethod yX8_isDigit ∈ zT ∧ Cond.selects yX8_isDigit.cls yX8_isDigit yX8_isDigit ∈ zT := ⟨zin_r16 _ (List.mem_of_getElem? (i := 21) rfl), zin_r16 _ (List.mem_of_getElem? (i := 22) rfl)⟩
theorem cl_X8_208 : zCl RX8 208 yX8_put cX8_put 2 none 1 := ⟨zin_r17 _ (List.mem_of_getElem? (i := 12) rfl), zin_r1 _ (List.mem_of_getElem? (i := 5) rfl), zin_r17 _ (List.mem_of_getElem? (i := 15) rfl), by decide +kernel, by decide +kernel, by decide +kernel⟩
theorem cv_X8_put : Cond.instanceMethod yX8_put ∈ zT ∧ Cond.selects yX8_put.cls yX8_put yX8_put ∈ zT := ⟨zin_r17 _ (List.mem_of_getElem? (i := 13) rfl), zin_r17 _ (List.mem_of_getElem? (i := 14) rfl)⟩
theorem cl_X8_212 : zCl RX8 212 yX8_place cX8_place 2 (some .int) 1 := ⟨zin_r17 _ (List.mem_of_getElem? (i := 8) rfl), zin_r1 _ (List.mem_of_getElem? (i := 5) rfl), zin_r17 _ (List.mem_of_getElem? (i := 11) rfl), by decide +kernel, by decide +kernel, by decide +kernel⟩
theorem cv_X8_place : Cond.instanceMethod yX8_place ∈ zT ∧ Cond.selects yX8_place.cls yX8_place yX8_place ∈ zT := ⟨zin_r17 _ (List.mem_of_getElem? (i := 9) rfl), zin_r17 _ (List.mem_of_getElem? (i := 10) rfl)⟩
theorem cl_X8_216 : zCl RX8 216 yX8_takesNumber cX8_takesNumber 3 (some .boolean) 1 := ⟨zin_r16 _ (List.mem_of_getElem? (i := 16) rfl), zin_r1 _ (List.mem_of_getElem? (i := 5) rfl), zin_r16 _ (List.mem_of_getElem? (i := 19) rfl), by decide +kernel, by decide +kernel, by decide +kernel⟩
theorem cv_X8_takesNumber : Cond.instanceMethod yX8_takesNumber ∈ zT ∧ Cond.selects yX8_takesNumber.cls yX8_takesNumber yX8_takesNumber ∈ zT := ⟨zin_r16 _ (List.mem_of_getElem? (i := 17) rfl), zin_r16 _ (List.mem_of_getElem? (i := 18) rfl)⟩
theorem cl_X8_219 : zCl RX8 219 yX8_whole cX8_whole 1 none 0 := ⟨zin_r17 _ (List.mem_of_getElem? (i := 16) rfl), zin_r1 _ (List.mem_of_getElem? (i := 5) rfl), zin_r17 _ (List.mem_of_getElem? (i := 19) rfl), by decide +kernel, by decide +kernel, by decide +kernel⟩
theorem cv_X8_whole : Cond.instanceMethod yX8_whole ∈ zT ∧ Cond.selects yX8_whole.cls yX8_whole yX8_whole ∈ zT := ⟨zin_r17 _ (List.mem_of_getElem? (i := 17) rfl), zin_r17 _ (List.mem_of_getElem? (i := 18) rfl)⟩
theorem cl_X8_222 : zCl RX8 222 yX8_takesTest cX8_takesTest 3 (some .boolean) 0 := ⟨zin_r17 _ (List.mem_of_getElem? (i := 4) rfl), zin_r1 _ (List.mem_of_getElem? (i := 5) rfl), zin_r17 _ (List.mem_of_getElem? (i := 7) rfl), by decide +kernel, by decide +kernel, by decide +kernel⟩
theorem cv_X8_takesTest : Cond.instanceMethod yX8_takesTest ∈ zT ∧ Cond.selects yX8_takesTest.cls yX8_takesTest yX8_takesTest ∈ zT := ⟨zin_r17 _ (List.mem_of_getElem? (i := 5) rfl), zin_r17 _ (List.mem_of_getElem? (i := 6) rfl)⟩
theorem cl_X8_225 : zCl RX8 225 yX8_settle cX8_settle 2 none 1 := ⟨zin_r17 _ (List.mem_of_getElem? (i := 20) rfl), zin_r1 _ (List.mem_of_getElem? (i := 5) rfl), zin_r17 _ (List.mem_of_getElem? (i := 23) rfl), by decide +kernel, by decide +kernel, by decide +kernel⟩
theorem cv_X8_settle : Cond.instanceMethod yX8_settle ∈ zT ∧ Cond.selects yX8_settle.cls yX8_settle yX8_settle ∈ zT := ⟨zin_r17 _ (List.mem_of_getElem? (i := 21) rfl), zin_r17 _ (List.mem_of_getElem? (i := 22) rfl)⟩
theorem cl_X8_229 : zCl RX8 229 yX8_takesWord cX8_takesWord 4 (some .boolean) 2 := ⟨zin_r16 _ (List.mem_of_getElem? (i := 4) rfl), zin_r1 _ (List.mem_of_getElem? (i := 5) rfl), zin_r16 _ (List.mem_of_getElem? (i := 7) rfl), by decide +kernel, by decide +kernel, by decide +kernel⟩
theorem cv_X8_takesWord : Cond.instanceMethod yX8_takesWord ∈ zT ∧ Cond.selects yX8_takesWord.cls yX8_takesWord yX8_takesWord ∈ zT := ⟨zin_r16 _ (List.mem_of_getElem? (i := 5) rfl), zin_r16 _ (List.mem_of_getElem? (i := 6) rfl)⟩
theorem cl_X8_235 : zCl RX8 235 yX8_third cX8_third 1 (some .int) 0 := ⟨zin_r16 _ (List.mem_of_getElem? (i := 12) rfl), zin_r1 _ (List.mem_of_getElem? (i := 5) rfl), zin_r16 _ (List.mem_of_getElem? (i := 15) rfl), by decide +kernel, by decide +kernel, by decide +kernel⟩
theorem cv_X8_third : Cond.instanceMethod yX8_third ∈ zT ∧ Cond.selects yX8_third.cls yX8_third yX8_third ∈ zT := ⟨zin_r16 _ (List.mem_of_getElem? (i := 13) rfl), zin_r16 _ (List.mem_of_getElem? (i := 14) rfl)⟩
theorem cl_X8_239 : zCl RX8 239 yX8_takesHead cX8_takesHead 2 (some .boolean) 1 := ⟨zin_r15 _ (List.mem_of_getElem? (i := 16) rfl), zin_r1 _ (List.mem_of_getElem? (i := 5) rfl), zin_r15 _ (List.mem_of_getElem? (i := 19) rfl), by decide +kernel, by decide +kernel, by decide +kernel⟩
theorem cv_X8_takesHead : Cond.instanceMethod yX8_takesHead ∈ zT ∧ Cond.selects yX8_takesHead.cls yX8_takesHead yX8_takesHead ∈ zT := ⟨zin_r15 _ (List.mem_of_getElem? (i := 17) rfl), zin_r15 _ (List.mem_of_getElem? (i := 18) rfl)⟩
theorem cl_X8_242 : zCl RX8 242 yX8_takesE cX8_takesE 4 (some .boolean) 1 := ⟨zin_r17 _ (List.mem_of_getElem? (i := 0) rfl), zin_r1 _ (List.mem_of_getElem? (i := 5) rfl), zin_r17 _ (List.mem_of_getElem? (i := 3) rfl), by decide +kernel, by decide +kernel, by decide +kernel⟩
theorem cv_X8_takesE : Cond.instanceMethod yX8_takesE ∈ zT ∧ Cond.selects yX8_takesE.cls yX8_takesE yX8_takesE ∈ zT := ⟨zin_r17 _ (List.mem_of_getElem? (i := 1) rfl), zin_r17 _ (List.mem_of_getElem? (i := 2) rfl)⟩
theorem cl_X8_245 : zCl RX8 245 yX8_takesClause cX8_takesClause 2 (some .boolean) 1 := ⟨zin_r15 _ (List.mem_of_getElem? (i := 12) rfl), zin_r1 _ (List.mem_of_getElem? (i := 5) rfl), zin_r15 _ (List.mem_of_getElem? (i := 15) rfl), by decide +kernel, by decide +kernel, by decide +kernel⟩
theorem cv_X8_takesClause : Cond.instanceMethod yX8_takesClause ∈ zT ∧ Cond.selects yX8_takesClause.cls yX8_takesClause yX8_takesClause ∈ zT := ⟨zin_r15 _ (List.mem_of_getElem? (i := 13) rfl), zin_r15 _ (List.mem_of_getElem? (i := 14) rfl)⟩
theorem cl_X8_248 : zCl RX8 248 yX8_goesText cX8_goesText 3 (some .boolean) 1 := ⟨zin_r15 _ (List.mem_of_getElem? (i := 8) rfl), zin_r1 _ (List.mem_of_getElem? (i := 5) rfl), zin_r15 _ (List.mem_of_getElem? (i := 11) rfl), by decide +kernel, by decide +kernel, by decide +kernel⟩
theorem cv_X8_goesText : Cond.instanceMethod yX8_goesText ∈ zT ∧ Cond.selects yX8_goesText.cls yX8_goesText yX8_goesText ∈ zT := ⟨zin_r15 _ (List.mem_of_getElem? (i := 9) rfl), zin_r15 _ (List.mem_of_getElem? (i := 10) rfl)⟩
theorem cl_X8_251 : zCl RX8 251 yX8_first cX8_first 1 (some .int) 0 := ⟨zin_r19 _ (List.mem_of_getElem? (i := 10) rfl), zin_r1 _ (List.mem_of_getElem? (i := 5) rfl), zin_r19 _ (List.mem_of_getElem? (i := 13) rfl), by decide +kernel, by decide +kernel, by decide +kernel⟩
theorem cv_X8_first : Cond.instanceMethod yX8_first ∈ zT ∧ Cond.selects yX8_first.cls yX8_first yX8_first ∈ zT := ⟨zin_r19 _ (List.mem_of_getElem? (i := 11) rfl), zin_r19 _ (List.mem_of_getElem? (i := 12) rfl)⟩
theorem cl_X8_254 : zCl RX8 254 yX8_behind cX8_behind 1 (some .int) 0 := ⟨zin_r19 _ (List.mem_of_getElem? (i := 14) rfl), zin_r1 _ (List.mem_of_getElem? (i := 5) rfl), zin_r19 _ (List.mem_of_getElem? (i := 17) rfl), by decide +kernel, by decide +kernel, by decide +kernel⟩
theorem cv_X8_behind : Cond.instanceMethod yX8_behind ∈ zT ∧ Cond.selects yX8_behind.cls yX8_behind yX8_behind ∈ zT := ⟨zin_r19 _ (List.mem_of_getElem? (i := 15) rfl), zin_r19 _ (List.mem_of_getElem? (i := 16) rfl)⟩
theorem cl_X8_257 : zCl RX8 257 yX8_ask cX8_ask 6 none 5 := ⟨zin_r19 _ (List.mem_of_getElem? (i := 6) rfl), zin_r1 _ (List.mem_of_getElem? (i := 5) rfl), zin_r19 _ (List.mem_of_getElem? (i := 9) rfl), by decide +kernel, by decide +kernel, by decide +kernel⟩
theorem cv_X8_ask : Cond.instanceMethod yX8_ask ∈ zT ∧ Cond.selects yX8_ask.cls yX8_ask yX8_ask ∈ zT := ⟨zin_r19 _ (List.mem_of_getElem? (i := 7) rfl), zin_r19 _ (List.mem_of_getElem? (i := 8) rfl)⟩
theorem cl_X8_261 : zCl RX8 261 yX8_holds cX8_holds 7 (some .boolean) 1 := ⟨zin_r19 _ (List.mem_of_getElem? (i := 18) rfl), zin_r1 _ (List.mem_of_getElem? (i := 5) rfl), zin_r19 _ (List.mem_of_getElem? (i := 21) rfl), by decide +kernel, by decide +kernel, by decide +kernel⟩
theorem cv_X8_holds : Cond.instanceMethod yX8_holds ∈ zT ∧ Cond.selects yX8_holds.cls yX8_holds yX8_holds ∈ zT := ⟨zin_r19 _ (List.mem_of_getElem? (i := 19) rfl), zin_r19 _ (List.mem_of_getElem? (i := 20) rfl)⟩
theorem cl_X8_264 : zCl RX8 264 yX8_goesIn cX8_goesIn 5 (some .int) 2 := ⟨zin_r19 _ (List.mem_of_getElem? (i := 2) rfl), zin_r1 _ (List.mem_of_getElem? (i := 5) rfl), zin_r19 _ (List.mem_of_getElem? (i := 5) rfl), by decide +kernel, by decide +kernel, by decide +kernel⟩
theorem cv_X8_goesIn : Cond.instanceMethod yX8_goesIn ∈ zT ∧ Cond.selects yX8_goesIn.cls yX8_goesIn yX8_goesIn ∈ zT := ⟨zin_r19 _ (List.mem_of_getElem? (i := 3) rfl), zin_r19 _ (List.mem_of_getElem? (i := 4) rfl)⟩
theorem cl_X8_268 : zCl RX8 268 yX8_habitOf cX8_habitOf 5 (some .int) 2 := ⟨zin_r20 _ (List.mem_of_getElem? (i := 20) rfl), zin_r1 _ (List.mem_of_getElem? (i := 5) rfl), zin_r20 _ (List.mem_of_getElem? (i := 23) rfl), by decide +kernel, by decide +kernel, by decide +kernel⟩
theorem cv_X8_habitOf : Cond.instanceMethod yX8_habitOf ∈ zT ∧ Cond.selects yX8_habitOf.cls yX8_habitOf yX8_habitOf ∈ zT := ⟨zin_r20 _ (List.mem_of_getElem? (i := 21) rfl), zin_r20 _ (List.mem_of_getElem? (i := 22) rfl)⟩
theorem cl_X8_271 : zCl RX8 271 yX8_last cX8_last 5 (some .int) 2 := ⟨zin_r23 _ (List.mem_of_getElem? (i := 3) rfl), zin_r1 _ (List.mem_of_getElem? (i := 5) rfl), zin_r23 _ (List.mem_of_getElem? (i := 6) rfl), by decide +kernel, by decide +kernel, by decide +kernel⟩
theorem cv_X8_last : Cond.instanceMethod yX8_last ∈ zT ∧ Cond.selects yX8_last.cls yX8_last yX8_last ∈ zT := ⟨zin_r23 _ (List.mem_of_getElem? (i := 4) rfl), zin_r23 _ (List.mem_of_getElem? (i := 5) rfl)⟩
theorem cl_X8_275 : zCl RX8 275 yX8_has cX8_has 3 (some .boolean) 2 := ⟨zin_r23 _ (List.mem_of_getElem? (i := 11) rfl), zin_r1 _ (List.mem_of_getElem? (i := 5) rfl), zin_r23 _ (List.mem_of_getElem? (i := 14) rfl), by decide +kernel, by decide +kernel, by decide +kernel⟩
theorem cv_X8_has : Cond.instanceMethod yX8_has ∈ zT ∧ Cond.selects yX8_has.cls yX8_has yX8_has ∈ zT := ⟨zin_r23 _ (List.mem_of_getElem? (i := 12) rfl), zin_r23 _ (List.mem_of_getElem? (i := 13) rfl)⟩
theorem cl_X8_278 : zCl RX8 278 yX8_layHours cX8_layHours 3 none 0 := ⟨zin_r22 _ (List.mem_of_getElem? (i := 23) rfl), zin_r1 _ (List.mem_of_getElem? (i := 5) rfl), zin_r23 _ (List.mem_of_getElem? (i := 2) rfl), by decide +kernel, by decide +kernel, by decide +kernel⟩
theorem cv_X8_layHours : Cond.instanceMethod yX8_layHours ∈ zT ∧ Cond.selects yX8_layHours.cls yX8_layHours yX8_layHours ∈ zT := ⟨zin_r23 _ (List.mem_of_getElem? (i := 0) rfl), zin_r23 _ (List.mem_of_getElem? (i := 1) rfl)⟩
theorem cl_X8_281 : zCl RX8 281 yX8_spread cX8_spread 7 none 1 := ⟨zin_r23 _ (List.mem_of_getElem? (i := 7) rfl), zin_r1 _ (List.mem_of_getElem? (i := 5) rfl), zin_r23 _ (List.mem_of_getElem? (i := 10) rfl), by decide +kernel, by decide +kernel, by decide +kernel⟩
theorem cv_X8_spread : Cond.instanceMethod yX8_spread ∈ zT ∧ Cond.selects yX8_spread.cls yX8_spread yX8_spread ∈ zT := ⟨zin_r23 _ (List.mem_of_getElem? (i := 8) rfl), zin_r23 _ (List.mem_of_getElem? (i := 9) rfl)⟩
theorem cl_X8_284 : zCl RX8 284 yX8_earliest cX8_earliest 4 (some .int) 1 := ⟨zin_r23 _ (List.mem_of_getElem? (i := 15) rfl), zin_r1 _ (List.mem_of_getElem? (i := 5) rfl), zin_r23 _ (List.mem_of_getElem? (i := 18) rfl), by decide +kernel, by decide +kernel, by decide +kernel⟩
theorem cv_X8_earliest : Cond.instanceMethod yX8_earliest ∈ zT ∧ Cond.selects yX8_earliest.cls yX8_earliest yX8_earliest ∈ zT := ⟨zin_r23 _ (List.mem_of_getElem? (i := 16) rfl), zin_r23 _ (List.mem_of_getElem? (i := 17) rfl)⟩
theorem cl_X8_287 : zCl RX8 287 yX8_findWay cX8_findWay 9 (some .int) 1 := ⟨zin_r24 _ (List.mem_of_getElem? (i := 19) rfl), zin_r1 _ (List.mem_of_getElem? (i := 5) rfl), zin_r24 _ (List.mem_of_getElem? (i := 22) rfl), by decide +kernel, by decide +kernel, by decide +kernel⟩
theorem cv_X8_findWay : Cond.instanceMethod yX8_findWay ∈ zT ∧ Cond.selects yX8_findWay.cls yX8_findWay yX8_findWay ∈ zT := ⟨zin_r24 _ (List.mem_of_getElem? (i := 20) rfl), zin_r24 _ (List.mem_of_getElem? (i := 21) rfl)⟩
theorem cl_X8_290 : zCl RX8 290 yX8_isHour cX8_isHour 2 (some .boolean) 1 := ⟨zin_r25 _ (List.mem_of_getElem? (i := 22) rfl), zin_r1 _ (List.mem_of_getElem? (i := 5) rfl), zin_r26 _ (List.mem_of_getElem? (i := 1) rfl), by decide +kernel, by decide +kernel, by decide +kernel⟩
theorem cv_X8_isHour : Cond.instanceMethod yX8_isHour ∈ zT ∧ Cond.selects yX8_isHour.cls yX8_isHour yX8_isHour ∈ zT := ⟨zin_r25 _ (List.mem_of_getElem? (i := 23) rfl), zin_r26 _ (List.mem_of_getElem? (i := 0) rfl)⟩
theorem cl_X8_293 : zCl RX8 293 yX8_ones cX8_ones 4 (some .int) 1 := ⟨zin_r26 _ (List.mem_of_getElem? (i := 2) rfl), zin_r1 _ (List.mem_of_getElem? (i := 5) rfl), zin_r26 _ (List.mem_of_getElem? (i := 5) rfl), by decide +kernel, by decide +kernel, by decide +kernel⟩
theorem cv_X8_ones : Cond.instanceMethod yX8_ones ∈ zT ∧ Cond.selects yX8_ones.cls yX8_ones yX8_ones ∈ zT := ⟨zin_r26 _ (List.mem_of_getElem? (i := 3) rfl), zin_r26 _ (List.mem_of_getElem? (i := 4) rfl)⟩
theorem cl_X8_296 : zCl RX8 296 yX8_hasOther cX8_hasOther 3 (some .boolean) 1 := ⟨zin_r28 _ (List.mem_of_getElem? (i := 13) rfl), zin_r1 _ (List.mem_of_getElem? (i := 5) rfl), zin_r28 _ (List.mem_of_getElem? (i := 16) rfl), by decide +kernel, by decide +kernel, by decide +kernel⟩
theorem cv_X8_hasOther : Cond.instanceMethod yX8_hasOther ∈ zT ∧ Cond.selects yX8_hasOther.cls yX8_hasOther yX8_hasOther ∈ zT := ⟨zin_r28 _ (List.mem_of_getElem? (i := 14) rfl), zin_r28 _ (List.mem_of_getElem? (i := 15) rfl)⟩
theorem cl_X8_299 : zCl RX8 299 yX8_explains cX8_explains 4 (some .boolean) 2 := ⟨zin_r28 _ (List.mem_of_getElem? (i := 9) rfl), zin_r1 _ (List.mem_of_getElem? (i := 5) rfl), zin_r28 _ (List.mem_of_getElem? (i := 12) rfl), by decide +kernel, by decide +kernel, by decide +kernel⟩
theorem cv_X8_explains : Cond.instanceMethod yX8_explains ∈ zT ∧ Cond.selects yX8_explains.cls yX8_explains yX8_explains ∈ zT := ⟨zin_r28 _ (List.mem_of_getElem? (i := 10) rfl), zin_r28 _ (List.mem_of_getElem? (i := 11) rfl)⟩
theorem cl_X8_302 : zCl RX8 302 yX8_isTrade cX8_isTrade 2 (some .boolean) 1 := ⟨zin_r28 _ (List.mem_of_getElem? (i := 1) rfl), zin_r1 _ (List.mem_of_getElem? (i := 5) rfl), zin_r28 _ (List.mem_of_getElem? (i := 4) rfl), by decide +kernel, by decide +kernel, by decide +kernel⟩
theorem cv_X8_isTrade : Cond.instanceMethod yX8_isTrade ∈ zT ∧ Cond.selects yX8_isTrade.cls yX8_isTrade yX8_isTrade ∈ zT := ⟨zin_r28 _ (List.mem_of_getElem? (i := 2) rfl), zin_r28 _ (List.mem_of_getElem? (i := 3) rfl)⟩
theorem cl_X8_305 : zCl RX8 305 yX8_allOf cX8_allOf 4 (some .int) 1 := ⟨zin_r28 _ (List.mem_of_getElem? (i := 5) rfl), zin_r1 _ (List.mem_of_getElem? (i := 5) rfl), zin_r28 _ (List.mem_of_getElem? (i := 8) rfl), by decide +kernel, by decide +kernel, by decide +kernel⟩
theorem cv_X8_allOf : Cond.instanceMethod yX8_allOf ∈ zT ∧ Cond.selects yX8_allOf.cls yX8_allOf yX8_allOf ∈ zT := ⟨zin_r28 _ (List.mem_of_getElem? (i := 6) rfl), zin_r28 _ (List.mem_of_getElem? (i := 7) rfl)⟩
theorem cl_X8_308 : zCl RX8 308 yX8_fridaysOf cX8_fridaysOf 4 (some .int) 1 := ⟨zin_r29 _ (List.mem_of_getElem? (i := 16) rfl), zin_r1 _ (List.mem_of_getElem? (i := 5) rfl), zin_r29 _ (List.mem_of_getElem? (i := 19) rfl), by decide +kernel, by decide +kernel, by decide +kernel⟩
theorem cv_X8_fridaysOf : Cond.instanceMethod yX8_fridaysOf ∈ zT ∧ Cond.selects yX8_fridaysOf.cls yX8_fridaysOf yX8_fridaysOf ∈ zT := ⟨zin_r29 _ (List.mem_of_getElem? (i := 17) rfl), zin_r29 _ (List.mem_of_getElem? (i := 18) rfl)⟩
theorem cl_X8_315 : zCl RX8 315 yX8_againOf cX8_againOf 6 (some .long) 2 := ⟨zin_r31 _ (List.mem_of_getElem? (i := 19) rfl), zin_r1 _ (List.mem_of_getElem? (i := 5) rfl), zin_r31 _ (List.mem_of_getElem? (i := 22) rfl), by decide +kernel, by decide +kernel, by decide +kernel⟩
theorem cv_X8_againOf : Cond.instanceMethod yX8_againOf ∈ zT ∧ Cond.selects yX8_againOf.cls yX8_againOf yX8_againOf ∈ zT := ⟨zin_r31 _ (List.mem_of_getElem? (i := 20) rfl), zin_r31 _ (List.mem_of_getElem? (i := 21) rfl)⟩
theorem cl_X8_319 : zCl RX8 319 yX8_divisor cX8_divisor 11 (some .long) 2 := ⟨zin_r32 _ (List.mem_of_getElem? (i := 0) rfl), zin_r1 _ (List.mem_of_getElem? (i := 5) rfl), zin_r32 _ (List.mem_of_getElem? (i := 3) rfl), by decide +kernel, by decide +kernel, by decide +kernel⟩
theorem cv_X8_divisor : Cond.instanceMethod yX8_divisor ∈ zT ∧ Cond.selects yX8_divisor.cls yX8_divisor yX8_divisor ∈ zT := ⟨zin_r32 _ (List.mem_of_getElem? (i := 1) rfl), zin_r32 _ (List.mem_of_getElem? (i := 2) rfl)⟩
theorem cl_X8_323 : zCl RX8 323 yX8_knowers cX8_knowers 4 (some .int) 1 := ⟨zin_r34 _ (List.mem_of_getElem? (i := 4) rfl), zin_r1 _ (List.mem_of_getElem? (i := 5) rfl), zin_r34 _ (List.mem_of_getElem? (i := 7) rfl), by decide +kernel, by decide +kernel, by decide +kernel⟩
theorem cv_X8_knowers : Cond.instanceMethod yX8_knowers ∈ zT ∧ Cond.selects yX8_knowers.cls yX8_knowers yX8_knowers ∈ zT := ⟨zin_r34 _ (List.mem_of_getElem? (i := 5) rfl), zin_r34 _ (List.mem_of_getElem? (i := 6) rfl)⟩
theorem cl_X8_326 : zCl RX8 326 yX8_fewest cX8_fewest 5 (some .int) 3 := ⟨zin_r34 _ (List.mem_of_getElem? (i := 8) rfl), zin_r1 _ (List.mem_of_getElem? (i := 5) rfl), zin_r34 _ (List.mem_of_getElem? (i := 11) rfl), by decide +kernel, by decide +kernel, by decide +kernel⟩
theorem cv_X8_fewest : Cond.instanceMethod yX8_fewest ∈ zT ∧ Cond.selects yX8_fewest.cls yX8_fewest yX8_fewest ∈ zT := ⟨zin_r34 _ (List.mem_of_getElem? (i := 9) rfl), zin_r34 _ (List.mem_of_getElem? (i := 10) rfl)⟩
theorem cl_X8_330 : zCl RX8 330 yX8_fillAll cX8_fillAll 4 (some .int) 0 := ⟨zin_r36 _ (List.mem_of_getElem? (i := 12) rfl), zin_r1 _ (List.mem_of_getElem? (i := 5) rfl), zin_r36 _ (List.mem_of_getElem? (i := 15) rfl), by decide +kernel, by decide +kernel, by decide +kernel⟩
theorem cv_X8_fillAll : Cond.instanceMethod yX8_fillAll ∈ zT ∧ Cond.selects yX8_fillAll.cls yX8_fillAll yX8_fillAll ∈ zT := ⟨zin_r36 _ (List.mem_of_getElem? (i := 13) rfl), zin_r36 _ (List.mem_of_getElem? (i := 14) rfl)⟩
theorem cl_X8_333 : zCl RX8 333 yX8_isTape cX8_isTape 2 (some .boolean) 1 := ⟨zin_r38 _ (List.mem_of_getElem? (i := 5) rfl), zin_r1 _ (List.mem_of_getElem? (i := 5) rfl), zin_r38 _ (List.mem_of_getElem? (i := 8) rfl), by decide +kernel, by decide +kernel, by decide +kernel⟩
theorem cv_X8_isTape : Cond.instanceMethod yX8_isTape ∈ zT ∧ Cond.selects yX8_isTape.cls yX8_isTape yX8_isTape ∈ zT := ⟨zin_r38 _ (List.mem_of_getElem? (i := 6) rfl), zin_r38 _ (List.mem_of_getElem? (i := 7) rfl)⟩
theorem cl_X8_336 : zCl RX8 336 yX8_copy cX8_copy 4 none 2 := ⟨zin_r39 _ (List.mem_of_getElem? (i := 0) rfl), zin_r1 _ (List.mem_of_getElem? (i := 5) rfl), zin_r39 _ (List.mem_of_getElem? (i := 3) rfl), by decide +kernel, by decide +kernel, by decide +kernel⟩
theorem cv_X8_copy : Cond.instanceMethod yX8_copy ∈ zT ∧ Cond.selects yX8_copy.cls yX8_copy yX8_copy ∈ zT := ⟨zin_r39 _ (List.mem_of_getElem? (i := 1) rfl), zin_r39 _ (List.mem_of_getElem? (i := 2) rfl)⟩
theorem cl_X8_340 : zCl RX8 340 yX8_body cX8_body 2 none 1 := ⟨zin_r41 _ (List.mem_of_getElem? (i := 5) rfl), zin_r1 _ (List.mem_of_getElem? (i := 5) rfl), zin_r41 _ (List.mem_of_getElem? (i := 8) rfl), by decide +kernel, by decide +kernel, by decide +kernel⟩
theorem cv_X8_body : Cond.instanceMethod yX8_body ∈ zT ∧ Cond.selects yX8_body.cls yX8_body yX8_body ∈ zT := ⟨zin_r41 _ (List.mem_of_getElem? (i := 6) rfl), zin_r41 _ (List.mem_of_getElem? (i := 7) rfl)⟩
theorem cl_X8_343 : zCl RX8 343 yX8_plainBuys cX8_plainBuys 3 (some .int) 2 := ⟨zin_r41 _ (List.mem_of_getElem? (i := 9) rfl), zin_r1 _ (List.mem_of_getElem? (i := 5) rfl), zin_r41 _ (List.mem_of_getElem? (i := 12) rfl), by decide +kernel, by decide +kernel, by decide +kernel⟩
theorem cv_X8_plainBuys : Cond.instanceMethod yX8_plainBuys ∈ zT ∧ Cond.selects yX8_plainBuys.cls yX8_plainBuys yX8_plainBuys ∈ zT := ⟨zin_r41 _ (List.mem_of_getElem? (i := 10) rfl), zin_r41 _ (List.mem_of_getElem? (i := 11) rfl)⟩
theorem cl_X8_346 : zCl RX8 346 yX8_buys cX8_buys 3 (some .int) 2 := ⟨zin_r41 _ (List.mem_of_getElem? (i := 1) rfl), zin_r1 _ (List.mem_of_getElem? (i := 5) rfl), zin_r41 _ (List.mem_of_getElem? (i := 4) rfl), by decide +kernel, by decide +kernel, by decide +kernel⟩
theorem cv_X8_buys : Cond.instanceMethod yX8_buys ∈ zT ∧ Cond.selects yX8_buys.cls yX8_buys yX8_buys ∈ zT := ⟨zin_r41 _ (List.mem_of_getElem? (i := 2) rfl), zin_r41 _ (List.mem_of_getElem? (i := 3) rfl)⟩
theorem cl_X8_349 : zCl RX8 349 yX8_plainKnows cX8_plainKnows 3 (some .int) 2 := ⟨zin_r41 _ (List.mem_of_getElem? (i := 21) rfl), zin_r1 _ (List.mem_of_getElem? (i := 5) rfl), zin_r42 _ (List.mem_of_getElem? (i := 0) rfl), by decide +kernel, by decide +kernel, by decide +kernel⟩
theorem cv_X8_plainKnows : Cond.instanceMethod yX8_plainKnows ∈ zT ∧ Cond.selects yX8_plainKnows.cls yX8_plainKnows yX8_plainKnows ∈ zT := ⟨zin_r41 _ (List.mem_of_getElem? (i := 22) rfl), zin_r41 _ (List.mem_of_getElem? (i := 23) rfl)⟩
theorem cl_X8_352 : zCl RX8 352 yX8_usualKnows cX8_usualKnows 3 (some .int) 2 := ⟨zin_r41 _ (List.mem_of_getElem? (i := 17) rfl), zin_r1 _ (List.mem_of_getElem? (i := 5) rfl), zin_r41 _ (List.mem_of_getElem? (i := 20) rfl), by decide +kernel, by decide +kernel, by decide +kernel⟩
theorem cv_X8_usualKnows : Cond.instanceMethod yX8_usualKnows ∈ zT ∧ Cond.selects yX8_usualKnows.cls yX8_usualKnows yX8_usualKnows ∈ zT := ⟨zin_r41 _ (List.mem_of_getElem? (i := 18) rfl), zin_r41 _ (List.mem_of_getElem? (i := 19) rfl)⟩
theorem cl_X8_355 : zCl RX8 355 yX8_knowsAct cX8_knowsAct 4 (some .int) 2 := ⟨zin_r41 _ (List.mem_of_getElem? (i := 13) rfl), zin_r1 _ (List.mem_of_getElem? (i := 5) rfl), zin_r41 _ (List.mem_of_getElem? (i := 16) rfl), by decide +kernel, by decide +kernel, by decide +kernel⟩
theorem cv_X8_knowsAct : Cond.instanceMethod yX8_knowsAct ∈ zT ∧ Cond.selects yX8_knowsAct.cls yX8_knowsAct yX8_knowsAct ∈ zT := ⟨zin_r41 _ (List.mem_of_getElem? (i := 14) rfl), zin_r41 _ (List.mem_of_getElem? (i := 15) rfl)⟩
theorem cl_X8_358 : zCl RX8 358 yX8_plainTells cX8_plainTells 3 (some .int) 2 := ⟨zin_r42 _ (List.mem_of_getElem? (i := 9) rfl), zin_r1 _ (List.mem_of_getElem? (i := 5) rfl), zin_r42 _ (List.mem_of_getElem? (i := 12) rfl), by decide +kernel, by decide +kernel, by decide +kernel⟩
theorem cv_X8_plainTells : Cond.instanceMethod yX8_plainTells ∈ zT ∧ Cond.selects yX8_plainTells.cls yX8_plainTells yX8_plainTells ∈ zT := ⟨zin_r42 _ (List.mem_of_getElem? (i := 10) rfl), zin_r42 _ (List.mem_of_getElem? (i := 11) rfl)⟩
theorem cl_X8_361 : zCl RX8 361 yX8_knownTells cX8_knownTells 4 (some .int) 2 := ⟨zin_r42 _ (List.mem_of_getElem? (i := 5) rfl), zin_r1 _ (List.mem_of_getElem? (i := 5) rfl), zin_r42 _ (List.mem_of_getElem? (i := 8) rfl), by decide +kernel, by decide +kernel, by decide +kernel⟩
theorem cv_X8_knownTells : Cond.instanceMethod yX8_knownTells ∈ zT ∧ Cond.selects yX8_knownTells.cls yX8_knownTells yX8_knownTells ∈ zT := ⟨zin_r42 _ (List.mem_of_getElem? (i := 6) rfl), zin_r42 _ (List.mem_of_getElem? (i := 7) rfl)⟩
theorem cl_X8_364 : zCl RX8 364 yX8_tells cX8_tells 3 (some .int) 2 := ⟨zin_r42 _ (List.mem_of_getElem? (i := 1) rfl), zin_r1 _ (List.mem_of_getElem? (i := 5) rfl), zin_r42 _ (List.mem_of_getElem? (i := 4) rfl), by decide +kernel, by decide +kernel, by decide +kernel⟩
theorem cv_X8_tells : Cond.instanceMethod yX8_tells ∈ zT ∧ Cond.selects yX8_tells.cls yX8_tells yX8_tells ∈ zT := ⟨zin_r42 _ (List.mem_of_getElem? (i := 2) rfl), zin_r42 _ (List.mem_of_getElem? (i := 3) rfl)⟩
theorem cl_X8_367 : zCl RX8 367 yX8_narrow cX8_narrow 4 (some .long) 2 := ⟨zin_r44 _ (List.mem_of_getElem? (i := 16) rfl), zin_r1 _ (List.mem_of_getElem? (i := 5) rfl), zin_r44 _ (List.mem_of_getElem? (i := 19) rfl), by decide +kernel, by decide +kernel, by decide +kernel⟩
theorem cv_X8_narrow : Cond.instanceMethod yX8_narrow ∈ zT ∧ Cond.selects yX8_narrow.cls yX8_narrow yX8_narrow ∈ zT := ⟨zin_r44 _ (List.mem_of_getElem? (i := 17) rfl), zin_r44 _ (List.mem_of_getElem? (i := 18) rfl)⟩
theorem kc_J6_265 : Cond.constant RJ6 265 (1431655765) ∈ zT := zin_r25 _ (List.mem_of_getElem? (i := 11) rfl)
theorem kc_J6_266 : Cond.constant RJ6 266 (858993459) ∈ zT := zin_r25 _ (List.mem_of_getElem? (i := 12) rfl)
theorem kc_J6_267 : Cond.constant RJ6 267 (252645135) ∈ zT := zin_r25 _ (List.mem_of_getElem? (i := 13) rfl)
theorem kc_X3_50 : Cond.constant RX3 50 (1000000) ∈ zT := zin_r21 _ (List.mem_of_getElem? (i := 16) rfl)
theorem kc_X8_228 : Cond.constant RX8 228 (8423732) ∈ zT := zin_r15 _ (List.mem_of_getElem? (i := 20) rfl)
theorem kc_X8_233 : Cond.constant RX8 233 (16826546) ∈ zT := zin_r15 _ (List.mem_of_getElem? (i := 21) rfl)
theorem kc_X8_234 : Cond.constant RX8 234 (20583955) ∈ zT := zin_r15 _ (List.mem_of_getElem? (i := 22) rfl)
theorem kc_X8_238 : Cond.constant RX8 238 (24170600) ∈ zT := zin_r15 _ (List.mem_of_getElem? (i := 23) rfl)
theorem kc_X8_274 : Cond.constant RX8 274 (1000000) ∈ zT := zin_r22 _ (List.mem_of_getElem? (i := 22) rfl)
theorem kl_L_143 : Cond.constantLong RL 143 (4294967295) ∈ zT := zin_r1 _ (List.mem_of_getElem? (i := 6) rfl)
theorem kl_X2_29 : Cond.constantLong RX2 29 (100) ∈ zT := zin_r30 _ (List.mem_of_getElem? (i := 20) rfl)
theorem kl_X7_187 : Cond.constantLong RX7 187 (-9223372036854775808) ∈ zT := zin_r30 _ (List.mem_of_getElem? (i := 0) rfl)
theorem kl_X8_311 : Cond.constantLong RX8 311 (100) ∈ zT := zin_r31 _ (List.mem_of_getElem? (i := 23) rfl)
theorem kl_X8_313 : Cond.constantLong RX8 313 (-9223372036854775808) ∈ zT := zin_r31 _ (List.mem_of_getElem? (i := 18) rfl)
theorem ml_X5_73 : Cond.methodLink RX5 73 Lib.Math.max.name ∈ zT := zin_r11 _ (List.mem_of_getElem? (i := 5) rfl)
theorem st_max : Cond.static Lib.Math.max.name ∈ zT := zin_r11 _ (List.mem_of_getElem? (i := 6) rfl)
theorem in_math : Cond.initialized "java/lang/Math" ∈ zT := zin_r11 _ (List.mem_of_getElem? (i := 7) rfl)
theorem co_max : Cond.code Lib.Math.max.name Lib.Math.max.code 2 (some .int) ∈ zT := zin_r11 _ (List.mem_of_getElem? (i := 8) rfl)
theorem fl_J0_9 : Cond.fieldLink RJ0 9 "java/lang/String" "value" "[B" ∈ zT := zin_r11 _ (List.mem_of_getElem? (i := 17) rfl)
theorem fl_J0_38 : Cond.fieldLink RJ0 38 "java/lang/String" "COMPACT_STRINGS" "Z" ∈ zT := zin_r11 _ (List.mem_of_getElem? (i := 22) rfl)
theorem fl_J0_15 : Cond.fieldLink RJ0 15 "java/lang/String" "coder" "B" ∈ zT := zin_r11 _ (List.mem_of_getElem? (i := 23) rfl)
theorem fl_J0_1053 : Cond.fieldLink RJ0 1053 "jdk/internal/util/Preconditions" "SIOOBE_FORMATTER" "Ljava/util/function/BiFunction;" ∈ zT := zin_r12 _ (List.mem_of_getElem? (i := 15) rfl)
theorem fl_J2_44 : Cond.fieldLink RJ2 44 "java/lang/StringUTF16" "$assertionsDisabled" "Z" ∈ zT := zin_r13 _ (List.mem_of_getElem? (i := 10) rfl)
theorem fl_J2_59 : Cond.fieldLink RJ2 59 "java/lang/StringUTF16" "HI_BYTE_SHIFT" "I" ∈ zT := zin_r13 _ (List.mem_of_getElem? (i := 11) rfl)
theorem fl_J2_63 : Cond.fieldLink RJ2 63 "java/lang/StringUTF16" "LO_BYTE_SHIFT" "I" ∈ zT := zin_r13 _ (List.mem_of_getElem? (i := 12) rfl)
theorem ml_X1_35 : Cond.methodLink RX1 35 Lib.Math.min.name ∈ zT := zin_r20 _ (List.mem_of_getElem? (i := 13) rfl)
theorem st_min : Cond.static Lib.Math.min.name ∈ zT := zin_r20 _ (List.mem_of_getElem? (i := 14) rfl)
theorem co_min : Cond.code Lib.Math.min.name Lib.Math.min.code 2 (some .int) ∈ zT := zin_r20 _ (List.mem_of_getElem? (i := 15) rfl)
theorem ml_X3_55 : Cond.methodLink RX3 55 arraycopyName ∈ zT := zin_r22 _ (List.mem_of_getElem? (i := 6) rfl)
theorem na_copy : Cond.native arraycopyName ∈ zT := zin_r22 _ (List.mem_of_getElem? (i := 7) rfl)
theorem st_copy : Cond.static arraycopyName ∈ zT := zin_r22 _ (List.mem_of_getElem? (i := 8) rfl)
theorem in_sys : Cond.initialized "java/lang/System" ∈ zT := zin_r22 _ (List.mem_of_getElem? (i := 9) rfl)
theorem ml_X3_86 : Cond.methodLink RX3 86 Lib.Math.min.name ∈ zT := zin_r24 _ (List.mem_of_getElem? (i := 9) rfl)
theorem ml_X2_34 : Cond.methodLink RX2 34 Lib.Math.max.name ∈ zT := zin_r31 _ (List.mem_of_getElem? (i := 2) rfl)
theorem ml_X2_40 : Cond.methodLink RX2 40 Lib.MathLoose.min_long.x ∈ zT := zin_r31 _ (List.mem_of_getElem? (i := 7) rfl)
theorem st_minl : Cond.static Lib.MathLoose.min_long.x ∈ zT := zin_r31 _ (List.mem_of_getElem? (i := 8) rfl)
theorem co_minl : Cond.code Lib.MathLoose.min_long.x Lib.MathLoose.min_long.code 4 (some .long) ∈ zT := zin_r31 _ (List.mem_of_getElem? (i := 9) rfl)
theorem ml_X7_237 : Cond.methodLink RX7 237 Lib.Math.min.name ∈ zT := zin_r34 _ (List.mem_of_getElem? (i := 16) rfl)
theorem ml_X7_263 : Cond.methodLink RX7 263 Lib.Math.max.name ∈ zT := zin_r35 _ (List.mem_of_getElem? (i := 23) rfl)
theorem ml_X6_46 : Cond.methodLink RX6 46 arraycopyName ∈ zT := zin_r38 _ (List.mem_of_getElem? (i := 18) rfl)
theorem ml_X0_39 : Cond.methodLink RX0 39 Lib.Math.max.name ∈ zT := zin_r40 _ (List.mem_of_getElem? (i := 12) rfl)
theorem fl_X0_44 : Cond.fieldLink RX0 44 "TuesdayKnew$Actor" "BODIES" "[I" ∈ zT := zin_r40 _ (List.mem_of_getElem? (i := 13) rfl)
theorem fl_X7_304 : Cond.fieldLink RX7 304 "TuesdayKnew" "ABOVE" "[I" ∈ zT := zin_r43 _ (List.mem_of_getElem? (i := 3) rfl)
theorem ml_X7_320 : Cond.methodLink RX7 320 arraycopyName ∈ zT := zin_r45 _ (List.mem_of_getElem? (i := 8) rfl)
