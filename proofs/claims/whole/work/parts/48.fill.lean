/-! filling the blanks: all ways, one after another -/
def updN (f : Nat → Nat) (k x : Nat) : Nat → Nat := fun j => if j = k then x else f j
theorem updN_s {f : Nat → Nat} {k x : Nat} : updN f k x k = x := if_pos rfl
theorem updN_n {f : Nat → Nat} {k x j : Nat} (h : j ≠ k) : updN f k x j = f j := if_neg h
def fa (n bk : Nat) (F : Nat → Nat → Bool) : Nat → Nat → (Nat → Nat) → (Nat → Nat) → Nat → (Nat → Nat) → Option (Nat × (Nat → Nat))
  | 0, _, _, _, _, _ => none
  | _ + 1, 0, _, _, N, S => some (N, S)
  | f + 1, k + 1, g, u, N, S => if k = bk then fa n bk F f k g u (N + 1) (fun b => if b < bk then S b &&& (u (b + 1) ^^^ (u (b + 1) &&& u b)) else S b)
    else if g k = n then fa n bk F f k g u N S
    else if F k (g k) = true ∧ zb (u k) (g k) = false then fa n bk F f (k + 2) (updN (updN g k (g k + 1)) (k + 1) 0) (updN u (k + 1) (u k ||| 2 ^ g k)) N S
    else fa n bk F f (k + 1) (updN g k (g k + 1)) u N S
def uS (P : Nat → Nat) : Nat → Nat
  | 0 => 0
  | j + 1 => uS P j ||| 2 ^ P j
theorem uS_bit {P : Nat → Nat} {x : Nat} : ∀ j, (uS P j).testBit x = true ↔ ∃ i, i < j ∧ P i = x
  | 0 => by
    rw [uS, Nat.zero_testBit]
    exact ⟨fun h => Bool.noConfusion h, fun ⟨i, h, _⟩ => absurd h (Nat.not_lt_zero _)⟩
  | j + 1 => by
    rw [uS, Nat.testBit_or, Bool.or_eq_true, uS_bit j, Nat.testBit_two_pow]
    constructor
    · intro h
      rcases h with ⟨i, h1, h2⟩ | h
      · exact ⟨i, by omega, h2⟩
      · exact ⟨j, by omega, of_decide_eq_true h⟩
    · intro ⟨i, h1, h2⟩
      by_cases q : i = j
      · right; rw [← q]; exact decide_eq_true h2
      · left; exact ⟨i, by omega, h2⟩
theorem uS_congr {P Q : Nat → Nat} : ∀ j, (∀ i, i < j → P i = Q i) → uS P j = uS Q j
  | 0, _ => rfl
  | j + 1, h => by rw [uS, uS, uS_congr j (fun i hi => h i (by omega)), h j (by omega)]
theorem zb_tb {m a : Nat} : zb m a = m.testBit a := by unfold zb; rw [Nat.testBit_eq_decide_div_mod_eq]
/-- an assignment that is sound as far as k -/
def vA (n : Nat) (F : Nat → Nat → Bool) (k : Nat) (G : Nat → Nat) : Prop := ∀ i, i < k → G i < n ∧ F i (G i) = true ∧ ∀ j, j < i → G j ≠ G i
def eX (n bk : Nat) (F : Nat → Nat → Bool) (k : Nat) (P : Nat → Nat) (a : Nat) (G : Nat → Nat) : Prop := vA n F bk G ∧ (∀ j, j < k → G j = P j) ∧ (k < bk → a ≤ G k)
def cz (Q : Nat → Bool) (n : Nat) : Nat → Nat
  | 0 => 0
  | e + 1 => (if Q (n - (e + 1)) = true then 1 else 0) + cz Q n e
def ct (Q : Nat → Bool) : Nat → Nat
  | 0 => 0
  | a + 1 => ct Q a + (if Q a = true then 1 else 0)
theorem cz_ct {Q : Nat → Bool} {n : Nat} : ∀ e, e ≤ n → cz Q n e + ct Q (n - e) = ct Q n
  | 0, _ => by rw [cz, Nat.zero_add, Nat.sub_zero]
  | e + 1, h => by
    have ih := cz_ct (Q := Q) (n := n) e (by omega)
    rw [show n - e = n - (e + 1) + 1 by omega, ct] at ih
    rw [cz]; omega
theorem cz_n {Q : Nat → Bool} {n : Nat} : cz Q n n = ct Q n := by
  have := cz_ct (Q := Q) (n := n) n (Nat.le_refl _)
  rw [Nat.sub_self, ct] at this
  omega
def pw (w : Nat → Nat) (bk : Nat) : Nat → Nat
  | 0 => 1
  | d + 1 => w (bk - (d + 1)) * pw w bk d
def fit (F : Nat → Nat → Bool) (k : Nat) (P : Nat → Nat) (a : Nat) : Bool := F k a && !(uS P k).testBit a
theorem fa_lev {n bk : Nat} {F : Nat → Nat → Bool} {w : Nat → Nat} (hw : ∀ k, k < bk → ∀ P, vA n F k P → cz (fit F k P) n n = w k) : ∀ d k, k + d = bk → ∀ P, vA n F k P → ∀ e a, a + e = n → ∀ g u N S, g k = a → (∀ j, j ≤ k → u j = uS P j) →
    ∃ f0 g' u' S' c, (∀ f, fa n bk F (f + f0) (k + 1) g u N S = fa n bk F f k g' u' (N + c) S') ∧ (∀ j, j < k → g' j = g j) ∧ (∀ j, j ≤ k → u' j = u j) ∧ (∀ b, b < bk → ∀ x, (S' b).testBit x = true ↔ ((S b).testBit x = true ∧ ∀ G, eX n bk F k P a G → G b = x)) ∧ c = (if d = 0 then 1 else cz (fit F k P) n e * pw w bk (d - 1)) ∧ (c ≠ 0 → ∃ G, eX n bk F k P a G)
  | 0, k, hk, P, hP, e, a, ha, g, u, N, S, hg, hu => by
    have hk2 : k = bk := by omega
    refine ⟨1, g, u, fun b => if b < bk then S b &&& (u (b + 1) ^^^ (u (b + 1) &&& u b)) else S b, 1, fun f => ?_, fun _ _ => rfl, fun _ _ => rfl, ?_, rfl, fun _ => ⟨P, by rw [← hk2]; exact hP, fun _ _ => rfl, fun h => by omega⟩⟩
    · show fa n bk F (f + 1) (k + 1) g u N S = _
      rw [fa, if_pos hk2]
    · intro b hb x
      have hPb : ∀ G, eX n bk F k P a G → G b = P b := fun G hG => hG.2.1 b (by omega)
      have hPP : eX n bk F k P a P := ⟨by rw [← hk2]; exact hP, fun _ _ => rfl, fun h => by omega⟩
      simp only [if_pos hb]
      rw [Nat.testBit_and, Nat.testBit_xor, Nat.testBit_and, Bool.and_eq_true, hu (b + 1) (by omega), hu b (by omega)]
      have h1 : ((uS P (b + 1)).testBit x ^^ ((uS P (b + 1)).testBit x && (uS P b).testBit x)) = true ↔ P b = x := by
        have e1 := uS_bit (P := P) (x := x) (b + 1)
        have e2 := uS_bit (P := P) (x := x) b
        have hinj := (hP b (by omega)).2.2
        by_cases q : P b = x
        · have t1 : (uS P (b + 1)).testBit x = true := e1.mpr ⟨b, by omega, q⟩
          have t2 : (uS P b).testBit x = false := eq_false_of_ne_true (fun z => by
            obtain ⟨i, z1, z2⟩ := e2.mp z
            exact hinj i z1 (z2.trans q.symm))
          rw [t1, t2]; exact ⟨fun _ => q, fun _ => rfl⟩
        · refine ⟨fun h => ?_, fun h => absurd h q⟩
          cases t1 : (uS P (b + 1)).testBit x with
          | false => rw [t1] at h; simp at h
          | true =>
            obtain ⟨i, z1, z2⟩ := e1.mp t1
            have z3 : i ≠ b := fun z => q (by rw [← z]; exact z2)
            rw [t1, e2.mpr ⟨i, by omega, z2⟩] at h; simp at h
      rw [h1]
      constructor
      · intro ⟨h2, h3⟩; exact ⟨h2, fun G hG => (hPb G hG).trans h3⟩
      · intro ⟨h2, h3⟩; exact ⟨h2, h3 P hPP⟩
  | d + 1, k, hk, P, hP, 0, a, ha, g, u, N, S, hg, hu => by
    refine ⟨1, g, u, S, 0, fun f => ?_, fun _ _ => rfl, fun _ _ => rfl, ?_, ?_, fun h => absurd rfl h⟩
    · show fa n bk F (f + 1) (k + 1) g u N S = _
      rw [fa, if_neg (by omega), if_pos (by omega), Nat.add_zero]
    · intro b hb x
      refine ⟨fun h => ⟨h, fun G hG => ?_⟩, fun h => h.1⟩
      have h1 := hG.2.2 (by omega)
      have h2 := (hG.1 k (by omega)).1
      omega
    · rw [if_neg (by omega), cz, Nat.zero_mul]
  | d + 1, k, hk, P, hP, e + 1, a, ha, g, u, N, S, hg, hu => by
    have hkb : k < bk := by omega
    have hne : n - (e + 1) = a := by omega
    have hfit : fit F k P a = true ↔ (F k (g k) = true ∧ zb (u k) (g k) = false) := by
      unfold fit; rw [hg, zb_tb, hu k (Nat.le_refl _), Bool.and_eq_true, Bool.not_eq_true']
    by_cases hf : fit F k P a = true
    · have hf2 := hf
      unfold fit at hf2
      rw [Bool.and_eq_true, Bool.not_eq_true'] at hf2
      have hP' : vA n F (k + 1) (updN P k a) := by
        intro i hi
        by_cases q : i = k
        · subst q
          rw [updN_s]
          refine ⟨by omega, hf2.1, fun j hj => ?_⟩
          rw [updN_n (by omega)]
          intro z
          have := (uS_bit (P := P) (x := a) i).mpr ⟨j, hj, z⟩
          rw [this] at hf2; exact Bool.noConfusion hf2.2
        · rw [updN_n q]
          obtain ⟨h1, h2, h3⟩ := hP i (by omega)
          exact ⟨h1, h2, fun j hj => by rw [updN_n (by omega)]; exact h3 j hj⟩
      obtain ⟨f1, g2, u2, S2, c2, i1, i2, i3, i4, i5, i6⟩ := fa_lev hw d (k + 1) (by omega) (updN P k a) hP' n 0 (by omega) (updN (updN g k (g k + 1)) (k + 1) 0) (updN u (k + 1) (u k ||| 2 ^ g k)) N S updN_s (fun j hj => by
        by_cases q : j = k + 1
        · subst q
          rw [updN_s, uS, updN_s, hg, hu k (Nat.le_refl _), uS_congr (P := updN P k a) (Q := P) k (fun i hi => updN_n (by omega))]
        · rw [updN_n q, hu j (by omega), uS_congr (P := updN P k a) (Q := P) j (fun i hi => updN_n (by omega))])
      have hg2 : g2 k = a + 1 := by rw [i2 k (by omega), updN_n (by omega), updN_s, hg]
      have hu2 : ∀ j, j ≤ k → u2 j = u j := fun j hj => by rw [i3 j (by omega), updN_n (by omega)]
      obtain ⟨f2, g3, u3, S3, c3, j1, j2, j3, j4, j5, j6⟩ := fa_lev hw (d + 1) k hk P hP e (a + 1) (by omega) g2 u2 (N + c2) S2 hg2 (fun j hj => by rw [hu2 j hj]; exact hu j hj)
      have hc2 : c2 = pw w bk d := by
        rw [i5]
        cases d with
        | zero => rw [if_pos rfl, pw]
        | succ d => rw [if_neg (by omega), hw (k + 1) (by omega) _ hP', pw, Nat.add_sub_cancel, show bk - (d + 1) = k + 1 by omega]
      have hor : ∀ G, eX n bk F k P a G ↔ (eX n bk F (k + 1) (updN P k a) 0 G ∨ eX n bk F k P (a + 1) G) := fun G => by
        constructor
        · intro ⟨h1, h2, h3⟩
          by_cases q : G k = a
          · left
            refine ⟨h1, fun j hj => ?_, fun _ => Nat.zero_le _⟩
            by_cases z : j = k
            · rw [z, updN_s]; exact q
            · rw [updN_n z]; exact h2 j (by omega)
          · right; exact ⟨h1, h2, fun h => by have := h3 h; omega⟩
        · intro h
          rcases h with ⟨h1, h2, _⟩ | ⟨h1, h2, h3⟩
          · refine ⟨h1, fun j hj => ?_, fun _ => ?_⟩
            · have := h2 j (by omega); rw [updN_n (by omega)] at this; exact this
            · have := h2 k (by omega); rw [updN_s] at this; omega
          · exact ⟨h1, h2, fun h => by have := h3 h; omega⟩
      refine ⟨f2 + f1 + 1, g3, u3, S3, c2 + c3, fun f => ?_, fun j hj => ?_, fun j hj => ?_, fun b hb x => ?_, ?_, fun hc => ?_⟩
      · rw [show f + (f2 + f1 + 1) = f + f2 + f1 + 1 by omega, fa, if_neg (by omega), if_neg (by omega), if_pos (hfit.mp hf), i1 (f + f2), j1 f, Nat.add_assoc]
      · rw [j2 j hj, i2 j (by omega), updN_n (by omega), updN_n (by omega)]
      · rw [j3 j hj, hu2 j hj]
      · rw [j4 b hb x, i4 b hb x]
        constructor
        · intro ⟨⟨h1, h2⟩, h3⟩; exact ⟨h1, fun G hG => ((hor G).mp hG).elim (h2 G) (h3 G)⟩
        · intro ⟨h1, h2⟩; exact ⟨⟨h1, fun G hG => h2 G ((hor G).mpr (Or.inl hG))⟩, fun G hG => h2 G ((hor G).mpr (Or.inr hG))⟩
      · rw [hc2, j5, if_neg (by omega), if_neg (by omega), Nat.add_sub_cancel, cz, hne, if_pos hf, Nat.add_mul, Nat.one_mul]
      · by_cases q : c2 = 0
        · obtain ⟨G, hG⟩ := j6 (by omega); exact ⟨G, (hor G).mpr (Or.inr hG)⟩
        · obtain ⟨G, hG⟩ := i6 q; exact ⟨G, (hor G).mpr (Or.inl hG)⟩
    · have hg2 : updN g k (g k + 1) k = a + 1 := by rw [updN_s, hg]
      obtain ⟨f2, g3, u3, S3, c3, j1, j2, j3, j4, j5, j6⟩ := fa_lev hw (d + 1) k hk P hP e (a + 1) (by omega) (updN g k (g k + 1)) u N S hg2 hu
      have hor : ∀ G, eX n bk F k P a G ↔ eX n bk F k P (a + 1) G := fun G => by
        constructor
        · intro ⟨h1, h2, h3⟩
          refine ⟨h1, h2, fun h => ?_⟩
          have h4 := h3 h
          rcases Nat.lt_or_ge a (G k) with q | q
          · exact q
          · exfalso
            have h5 : G k = a := by omega
            obtain ⟨g1, g2, g3⟩ := h1 k hkb
            apply hf
            unfold fit
            rw [Bool.and_eq_true, Bool.not_eq_true', ← h5]
            refine ⟨g2, eq_false_of_ne_true (fun z => ?_)⟩
            obtain ⟨i, z1, z2⟩ := (uS_bit (P := P) (x := G k) k).mp z
            exact g3 i z1 ((h2 i z1).trans z2)
        · intro ⟨h1, h2, h3⟩; exact ⟨h1, h2, fun h => by have := h3 h; omega⟩
      refine ⟨f2 + 1, g3, u3, S3, c3, fun f => ?_, fun j hj => ?_, j3, fun b hb x => ?_, ?_, fun hc => ?_⟩
      · rw [show f + (f2 + 1) = f + f2 + 1 by omega, fa, if_neg (by omega), if_neg (by omega), if_neg (fun q => hf (hfit.mpr q)), j1 f]
      · rw [j2 j hj, updN_n (by omega)]
      · rw [j4 b hb x]
        exact ⟨fun ⟨h1, h2⟩ => ⟨h1, fun G hG => h2 G ((hor G).mp hG)⟩, fun ⟨h1, h2⟩ => ⟨h1, fun G hG => h2 G ((hor G).mpr hG)⟩⟩
      · rw [j5, if_neg (by omega), if_neg (by omega), cz, hne, if_neg hf, Nat.zero_add]
      · obtain ⟨G, hG⟩ := j6 hc; exact ⟨G, (hor G).mpr hG⟩
theorem fa_all {n bk : Nat} {F : Nat → Nat → Bool} {w : Nat → Nat} (hw : ∀ k, k < bk → ∀ P, vA n F k P → cz (fit F k P) n n = w k) {g u S : Nat → Nat} (hg : g 0 = 0) (hu : u 0 = 0) : ∃ f S', fa n bk F f 1 g u 0 S = some (pw w bk bk, S') ∧ (∀ b, b < bk → ∀ x, (S' b).testBit x = true ↔ ((S b).testBit x = true ∧ ∀ G, vA n F bk G → G b = x)) ∧ (pw w bk bk ≠ 0 → ∃ G, vA n F bk G) := by
  have hv : vA n F 0 (fun _ => 0) := fun i hi => absurd hi (Nat.not_lt_zero _)
  obtain ⟨f0, g', u', S', c, h1, _, _, h4, h5, h6⟩ := fa_lev hw bk 0 (Nat.zero_add _) (fun _ => 0) hv n 0 (Nat.zero_add _) g u 0 S hg (fun j hj => by rw [show j = 0 by omega, hu]; rfl)
  have hc : c = pw w bk bk := by
    rw [h5]
    cases bk with
    | zero => rfl
    | succ b => rw [if_neg (by omega), hw 0 (by omega) _ hv, Nat.add_sub_cancel, pw, Nat.sub_self]
  refine ⟨1 + f0, S', ?_, fun b hb x => ?_, fun h => ?_⟩
  · rw [h1 1, Nat.zero_add, hc, fa]
  · rw [h4 b hb x]
    exact ⟨fun ⟨a1, a2⟩ => ⟨a1, fun G hG => a2 G ⟨hG, fun j hj => absurd hj (Nat.not_lt_zero _), fun _ => Nat.zero_le _⟩⟩, fun ⟨a1, a2⟩ => ⟨a1, fun G hG => a2 G hG.1⟩⟩
  · obtain ⟨G, hG⟩ := h6 (by rw [hc]; exact h)
    exact ⟨G, hG.1⟩
