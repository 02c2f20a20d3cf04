/-! the law's cases: answers that are told by what they are, are one -/
theorem nI_one {a b M : Nat} {x : Int32} (hM : M ≤ 1000) (ha : a < M) (hb : b < M) (h1 : x = nI a) (h2 : x = nI b) : a = b := (nI_eq (by omega) (by omega)).mp (h1.symm.trans h2)
def wayV (n st : Nat) (G : Nat → Nat → Nat) (T : Nat → Nat) (x i v : Int32) : Prop := (¬ zin x n ∧ v = -1) ∨ ∃ a, a < n ∧ x = nI a ∧ ∃ len row, wayR n st G T a len row ∧ ((i = -1 ∧ v = nI len) ∨ (i ≠ -1 ∧ ∃ k, k < len ∧ i = nI k ∧ v = nI (row k)) ∨ (i ≠ -1 ∧ ¬ zin i len ∧ v = -1))
theorem wayV_u {n st : Nat} {G : Nat → Nat → Nat} {T : Nat → Nat} {x i v1 v2 : Int32} (hn : n ≤ 8) (hst : st ≤ 9) (h1 : wayV n st G T x i v1) (h2 : wayV n st G T x i v2) : v1 = v2 := by
  rcases h1 with ⟨p, e⟩ | ⟨a, ha, hx, l1, r1, w1, q1⟩
  · rcases h2 with ⟨_, e2⟩ | ⟨a, ha, hx, _⟩
    · rw [e, e2]
    · exact absurd ⟨a, ha, hx⟩ p
  · rcases h2 with ⟨p, _⟩ | ⟨a2, ha2, hx2, l2, r2, w2, q2⟩
    · exact absurd ⟨a, ha, hx⟩ p
    · have ea : a = a2 := nI_one (M := n) (by omega) ha ha2 hx hx2
      rw [← ea] at w2
      obtain ⟨el, er⟩ := wayR_u w1 w2
      rw [← el] at q2
      have hl : l1 ≤ 10 := wayR_len hst w1
      rcases q1 with ⟨i1, z1⟩ | ⟨i1, k, hk, ik, z1⟩ | ⟨i1, y1, z1⟩
      · rcases q2 with ⟨_, z2⟩ | ⟨i2, _⟩ | ⟨i2, _⟩
        · rw [z1, z2]
        · exact absurd i1 i2
        · exact absurd i1 i2
      · rcases q2 with ⟨i2, _⟩ | ⟨_, k2, hk2, ik2, z2⟩ | ⟨_, y2, _⟩
        · exact absurd i2 i1
        · have ek : k = k2 := nI_one (M := l1) (by omega) hk hk2 ik ik2
          rw [z1, z2, er k hk, ek]
        · exact absurd ⟨k, hk, ik⟩ y2
      · rcases q2 with ⟨i2, _⟩ | ⟨_, k2, hk2, ik2, _⟩ | ⟨_, _, z2⟩
        · exact absurd i2 i1
        · exact absurd ⟨k2, hk2, ik2⟩ y1
        · rw [z1, z2]
theorem silR_u {n : Nat} {OK : Nat → Prop} {v1 v2 : Int32} (h1 : silR n OK v1) (h2 : silR n OK v2) : v1 = v2 := by
  rcases h1 with ⟨s, s1, s2, s3, s4⟩ | ⟨p, e⟩
  · rcases h2 with ⟨s', t1, t2, t3, t4⟩ | ⟨p, e⟩
    · have a := s4 s' t1 t2
      have b := t4 s s1 s2
      have c : s = s' := by omega
      rw [s3, t3, c]
    · exact absurd s2 (p s s1)
  · rcases h2 with ⟨s', t1, t2, t3, t4⟩ | ⟨p2, e2⟩
    · exact absurd t2 (p s' t1)
    · rw [e, e2]
def silV (n : Nat) (hd : Nat → Option Nat) (OK : Nat → Nat → Nat → Prop) (x y v : Int32) : Prop := (¬ zin x n ∧ v = -1) ∨ (∃ a, a < n ∧ x = nI a ∧ ((¬ zin y 100 ∧ v = -2) ∨ ∃ hr9, hr9 < 100 ∧ y = nI hr9 ∧ (((∃ k, hd a = some k ∧ k ≤ hr9) ∧ v = -5) ∨ ((∀ k, hd a = some k → hr9 < k) ∧ silR n (OK a hr9) v))))
theorem silV_u {n : Nat} {hd : Nat → Option Nat} {OK : Nat → Nat → Nat → Prop} {x y v1 v2 : Int32} (hn : n ≤ 8) (h1 : silV n hd OK x y v1) (h2 : silV n hd OK x y v2) : v1 = v2 := by
  rcases h1 with ⟨p, e⟩ | ⟨a, ha, hx, q1⟩
  · rcases h2 with ⟨_, e2⟩ | ⟨a, ha, hx, _⟩
    · rw [e, e2]
    · exact absurd ⟨a, ha, hx⟩ p
  · rcases h2 with ⟨p, _⟩ | ⟨a2, ha2, hx2, q2⟩
    · exact absurd ⟨a, ha, hx⟩ p
    · have ea : a = a2 := nI_one (M := n) (by omega) ha ha2 hx hx2
      rw [← ea] at q2
      rcases q1 with ⟨p1, e1⟩ | ⟨r, hr, hy, q1⟩
      · rcases q2 with ⟨_, e2⟩ | ⟨r, hr, hy, _⟩
        · rw [e1, e2]
        · exact absurd ⟨r, hr, hy⟩ p1
      · rcases q2 with ⟨p, _⟩ | ⟨r2, hr2, hy2, q2⟩
        · exact absurd ⟨r, hr, hy⟩ p
        · have er : r = r2 := nI_one (M := 100) (by omega) hr hr2 hy hy2
          rw [← er] at q2
          rcases q1 with ⟨⟨k, k1, k2⟩, e1⟩ | ⟨p1, s1⟩
          · rcases q2 with ⟨_, e2⟩ | ⟨p2, _⟩
            · rw [e1, e2]
            · exact absurd (p2 k k1) (by omega)
          · rcases q2 with ⟨⟨k, k1, k2⟩, _⟩ | ⟨_, s2⟩
            · exact absurd (p1 k k1) (by omega)
            · exact silR_u s1 s2
def bestV (n m : Nat) (Q : Nat → Nat → Prop) (y v : Int32) : Prop := (n = 0 ∧ v = -1) ∨ (n ≠ 0 ∧ ¬ zin y m ∧ v = -2) ∨ (n ≠ 0 ∧ ∃ k, k < m ∧ y = nI k ∧ ∃ fb, fb < n ∧ v = nI fb ∧ Q k fb)
theorem bestV_u {n m : Nat} {Q : Nat → Nat → Prop} {y v1 v2 : Int32} (hm : m ≤ 100) (hQ : ∀ k f g, f < n → g < n → Q k f → Q k g → f = g) (h1 : bestV n m Q y v1) (h2 : bestV n m Q y v2) : v1 = v2 := by
  rcases h1 with ⟨p, e1⟩ | ⟨p, z1, e1⟩ | ⟨p, k, hk, hy, f, hf, e1, q1⟩
  · rcases h2 with ⟨_, e2⟩ | ⟨p2, _⟩ | ⟨p2, _⟩
    · rw [e1, e2]
    · exact absurd p p2
    · exact absurd p p2
  · rcases h2 with ⟨p2, _⟩ | ⟨_, _, e2⟩ | ⟨_, k, hk, hy, _⟩
    · exact absurd p2 p
    · rw [e1, e2]
    · exact absurd ⟨k, hk, hy⟩ z1
  · rcases h2 with ⟨p2, _⟩ | ⟨_, z2, _⟩ | ⟨_, k2, hk2, hy2, f2, hf2, e2, q2⟩
    · exact absurd p2 p
    · exact absurd ⟨k, hk, hy⟩ z2
    · have ek : k = k2 := nI_one (M := m) (by omega) hk hk2 hy hy2
      rw [← ek] at q2
      rw [e1, e2, hQ k f f2 hf hf2 q1 q2]
theorem least_u {n f g : Nat} {F : Nat → Nat} (hf : f < n) (hg : g < n) (h1 : ∀ b, b < n → F f ≤ F b ∧ (b < f → F f < F b)) (h2 : ∀ b, b < n → F g ≤ F b ∧ (b < g → F g < F b)) : f = g := by
  obtain ⟨a1, a2⟩ := h1 g hg
  obtain ⟨b1, b2⟩ := h2 f hf
  omega
theorem most_u {n f g : Nat} {F : Nat → Nat} (hf : f < n) (hg : g < n) (h1 : ∀ b, b < n → F b ≤ F f ∧ (b < f → F b < F f)) (h2 : ∀ b, b < n → F b ≤ F g ∧ (b < g → F b < F g)) : f = g := by
  obtain ⟨a1, a2⟩ := h1 g hg
  obtain ⟨b1, b2⟩ := h2 f hf
  omega
theorem pB_c {p q : Prop} (h : p ↔ q) : pB p = pB q := by
  by_cases c : p
  · rw [pB_t c, pB_t (h.mp c)]
  · rw [pB_f c, pB_f (fun z => c (h.mpr z))]
/-- what explains, on both sides -/
theorem xp_ks {I : zI} {n tr : Nat} {A : List zCla} {hd : Nat → Option Nat} {bu ho lo fr : Nat → Nat} {E : Nat → Nat} {t : Nat} (ht : t < tr) (hd7 : ∀ a, a < n → I 7 a = oI (hd a)) (hd99 : ∀ a k, hd a = some k → k ≤ 99) (hn : n ≤ 8) (hB : ∀ t, t < tr → I 9 t = nI (bu t) ∧ bu t < n) (hF : ∀ t, t < tr → I 10 t = nI (fr t) ∧ fr t < 9) : zXp I A tr bu ho lo E t = nI (zset (zKs A tr (I 1) hd bu ho lo fr E t) 7) := by
  unfold zXp zExp zKs
  rw [xK_V, (hF t ht).1, pB_c (p := I 7 (bu t) < 0) (q := hd (bu t) = none), pB_c (p := lo t < aLast 3 A 999 ∧ ∃ o, o < tr ∧ o ≠ t ∧ I 9 o = I 9 t ∧ I 10 o = nI (fr t)) (q := lo t < aLast 3 A 999 ∧ ∃ o, o < tr ∧ o ≠ t ∧ bu o = bu t ∧ fr o = fr t)]
  · constructor
    · intro ⟨h1, o, h2, h3, h4, h5⟩
      refine ⟨h1, o, h2, h3, ?_, ?_⟩
      · exact nI_one (M := n) (by omega) (hB o h2).2 (hB t ht).2 (hB o h2).1 (h4.trans (hB t ht).1)
      · exact nI_one (M := 9) (by omega) (hF o h2).2 (hF t ht).2 (hF o h2).1 h5
    · intro ⟨h1, o, h2, h3, h4, h5⟩
      exact ⟨h1, o, h2, h3, by rw [(hB o h2).1, (hB t ht).1, h4], by rw [(hF o h2).1, h5]⟩
  · rw [hd7 (bu t) (hB t ht).2]
    cases e : hd (bu t) with
    | none => exact ⟨fun _ => rfl, fun _ => by show (-5 : Int32) < 0; decide⟩
    | some k =>
      have := hd99 _ _ e
      exact ⟨fun h => absurd h (nI_pos (by omega)), fun h => by simp at h⟩
theorem zOf_no {w k b f h l e : Int32} (hw : ¬ zin w 6) : zOf w k b f h l e = -1 := by
  unfold zOf
  rw [if_neg (show ¬ w = 0 from fun q => hw ⟨0, by decide, q⟩), if_neg (show ¬ w = 1 from fun q => hw ⟨1, by decide, q⟩), if_neg (show ¬ w = 2 from fun q => hw ⟨2, by decide, q⟩), if_neg (show ¬ w = 3 from fun q => hw ⟨3, by decide, q⟩), if_neg (show ¬ w = 4 from fun q => hw ⟨4, by decide, q⟩), if_neg (show ¬ w = 5 from fun q => hw ⟨5, by decide, q⟩)]
theorem zCe_g {f g : Nat → Int32} {i : Nat} : ∀ j, (∀ k, k < j → f k = g k) → f i = g i → zCe f i j = zCe g i j
  | 0, _, _ => rfl
  | j + 1, h, e => by rw [zCe, zCe, zCe_g j (fun k hk => h k (by omega)) e, h j (by omega), e]
theorem zWf_g {N : Int32 → Nat} {f g : Nat → Int32} : ∀ i, (∀ k, k < i → f k = g k) → zWf N f i = zWf N g i
  | 0, _ => rfl
  | i + 1, h => by rw [zWf, zWf, zWf_g i (fun k hk => h k (by omega)), h i (by omega), zCe_g i (fun k hk => h k (by omega)) (h i (by omega))]
