/-! the law's steps: tapes -/
/-- the tapes change alike -/
theorem zRel_tk {I K : zI} {J M : zJ} (H : zRel I J) (fr : ∀ k, (k < 35 ∨ 46 < k) → k ≠ 119 → k ≠ 120 → K k = I k) (ht : rTapes K M) : zRel K M := by
  obtain ⟨n, lc, hn, a1, a2, a3, a4, a5, a6, a7, a8, a9⟩ := H
  have g : ∀ k, (k < 35 ∨ 46 < k) ∧ k ≠ 119 ∧ k ≠ 120 → K k = I k := fun k q => fr k q.1 q.2.1 q.2.2
  refine ⟨n, lc, hn, by rw [g 0 (by omega)]; exact a1, by rw [g 82 (by omega)]; exact a2, fun k hk => by rw [g 1 (by omega), g 83 (by omega)]; exact a3 k hk, rLaws_c (I := I) (by rw [g 0 (by omega)]) (by rw [g 82 (by omega)]) (fun k hk => g k (by omega)) a4, rText_c (I := I) (by rw [g 2 (by omega)]) (by rw [g 82 (by omega)]) (g 3 (by omega)) (g 86 (by omega)) a5, ht, rActor_c (I := I) (by rw [g 32 (by omega)]) (by rw [g 82 (by omega)]) (g 33 (by omega)) (g 118 (by omega)) a7, rW_c (I := I) (Nat.le_refl _) (Nat.le_refl _) (fun k q1 q2 => g k (by omega)) (by rw [g 82 (by omega)]) (by rw [g 82 (by omega)]) (by rw [g 82 (by omega)]) (g 84 (by omega)) (g 85 (by omega)) (fun k q1 q2 => g k (by omega)) (g 106 (by omega)) a8, ?_⟩
  rcases a9 with ⟨b1, b2⟩ | ⟨b1, b2, b3⟩
  · exact Or.inl ⟨by rw [g 0 (by omega)]; exact b1, by rw [g 82 (by omega)]; exact b2⟩
  · exact Or.inr ⟨by rw [g 0 (by omega)]; exact b1, by rw [g 82 (by omega)]; exact b2, rW_c (I := I) (Nat.le_refl _) (Nat.le_refl _) (fun k q1 q2 => g k (by omega)) (by rw [g 82 (by omega)]) (by rw [g 82 (by omega)]) (by rw [g 82 (by omega)]) (g 110 (by omega)) (g 111 (by omega)) (fun k q1 q2 => g k (by omega)) (g 117 (by omega)) b3⟩
theorem zRel_t {I : zI} {J : zJ} (H : zRel I J) : rTapes I J := by
  obtain ⟨n, lc, hn, a1, a2, a3, a4, a5, a6, a7, a8, a9⟩ := H
  exact a6
def tpO (I : zI) (ln : Nat → Nat) (so : Nat → Int32) : Prop := ∀ t, t < 6 → I 119 t = so t ∧ I 120 t = nI (ln t) ∧ ln t ≤ 60 ∧ (so t = -1 ∨ zin (so t) 5) ∧ (so t = -1 → ln t = 0)
theorem rTapes_p {I : zI} {J : zJ} (h : rTapes I J) : ∃ ln : Nat → Nat, (∀ t, t < 6 → I (35 + 2 * t) 1 = nI (ln t) ∧ ln t ≤ 60) ∧ tpO I ln (fun t => I (35 + 2 * t) 0) ∧ ∀ t i, t < 6 → i < 60 → J 121 (60 * t + i) = J (35 + 2 * t + 1) i := by
  obtain ⟨so, ln, it, g⟩ := h
  refine ⟨ln, fun t ht => ?_, fun t ht => ?_, fun t i ht hi => ?_⟩
  · obtain ⟨g1, g2, g3, g4, g5, g6, g7, g8⟩ := g t ht
    exact ⟨g2, g5⟩
  · obtain ⟨g1, g2, g3, g4, g5, g6, g7, g8⟩ := g t ht
    show I 119 t = I (35 + 2 * t) 0 ∧ I 120 t = nI (ln t) ∧ ln t ≤ 60 ∧ (I (35 + 2 * t) 0 = -1 ∨ zin (I (35 + 2 * t) 0) 5) ∧ (I (35 + 2 * t) 0 = -1 → ln t = 0)
    rw [g1]
    exact ⟨g3, g4, g5, g6, g7⟩
  · obtain ⟨g1, g2, g3, g4, g5, g6, g7, g8⟩ := g t ht
    obtain ⟨q1, q2⟩ := g8 i hi
    rw [q1, q2]
theorem rTapes_set {I K : zI} {J M : zJ} {t L : Nat} {sr z : Int32} (h : rTapes I J) (ht : t < 6) (hL : L ≤ 60) (hz : z = nI L) (hs : sr = -1 ∨ zin sr 5) (h0 : sr = -1 → L = 0) (k1 : ∀ s, s < 6 → s ≠ t → K (35 + 2 * s) = I (35 + 2 * s)) (k2 : K (35 + 2 * t) 0 = sr) (k3 : K (35 + 2 * t) 1 = z) (k4 : K 119 = upd (I 119) t sr) (k5 : K 120 = upd (I 120) t z) (m1 : ∀ s, s < 6 → s ≠ t → M (35 + 2 * s + 1) = J (35 + 2 * s + 1)) (m2 : ∀ i, i < 60 → M (35 + 2 * t + 1) i = 0) (m3 : M 121 = zfp (J 121) t 60) : rTapes K M := by
  obtain ⟨so, ln, it, g⟩ := h
  refine ⟨fun s => if s = t then sr else so s, fun s => if s = t then L else ln s, fun s i => if s = t then 0 else it s i, fun s hs6 => ?_⟩
  by_cases e : s = t
  · simp only [if_pos e]
    rw [e]
    refine ⟨k2, k3.trans hz, by rw [k4, upd_s], by rw [k5, upd_s]; exact hz, hL, hs, h0, fun i hi => ⟨m2 i hi, ?_⟩⟩
    rw [m3]
    exact if_pos ⟨by omega, by omega⟩
  · simp only [if_neg e]
    obtain ⟨g1, g2, g3, g4, g5, g6, g7, g8⟩ := g s hs6
    refine ⟨by rw [k1 s hs6 e]; exact g1, by rw [k1 s hs6 e]; exact g2, by rw [k4, upd_n e]; exact g3, by rw [k5, upd_n e]; exact g4, g5, g6, g7, fun i hi => ⟨by rw [m1 s hs6 e]; exact (g8 i hi).1, ?_⟩⟩
    rw [m3]
    exact (if_neg (by omega)).trans (g8 i hi).2
theorem rTapes_J {I : zI} {J M : zJ} {o : Nat} {new : Nat → Int64} (h : rTapes I J) (m1 : ∀ s, s < 6 → s ≠ o → M (35 + 2 * s + 1) = J (35 + 2 * s + 1)) (m2 : ∀ i, i < 60 → M (35 + 2 * o + 1) i = new i) (m3 : ∀ i, i < 60 → M 121 (60 * o + i) = new i) (m4 : ∀ s i, s < 6 → s ≠ o → i < 60 → M 121 (60 * s + i) = J 121 (60 * s + i)) : rTapes I M := by
  obtain ⟨so, ln, it, g⟩ := h
  refine ⟨so, ln, fun s i => if s = o then new i else it s i, fun s hs6 => ?_⟩
  obtain ⟨g1, g2, g3, g4, g5, g6, g7, g8⟩ := g s hs6
  refine ⟨g1, g2, g3, g4, g5, g6, g7, fun i hi => ?_⟩
  by_cases e : s = o
  · simp only [if_pos e]
    rw [e]
    exact ⟨m2 i hi, m3 i hi⟩
  · simp only [if_neg e]
    rw [m1 s hs6 e, m4 s i hs6 e hi]
    exact g8 i hi
/-- ends by shape: a tape -/
def tapV (S0 : Prop) (S1 S2 : Nat → Prop) (x sr z v : Int32) : Prop := (¬ zin x 6 ∧ v = -1 ∧ S0) ∨ ∃ t, t < 6 ∧ x = nI t ∧ (((sr < -1 ∨ 4 < sr) ∧ v = -2 ∧ S0) ∨ (sr = -1 ∧ v = 1 ∧ S1 t) ∨ (zin sr 5 ∧ ((60 < z ∧ v = -2 ∧ S0) ∨ (z < 0 ∧ v = -14 ∧ S0) ∨ ((∃ k, k ≤ 60 ∧ z = nI k) ∧ v = 1 ∧ S2 t))))
theorem tapV_u {S0 T0 : Prop} {S1 S2 T1 T2 : Nat → Prop} {x sr z v1 v2 : Int32} (h1 : tapV S0 S1 S2 x sr z v1) (h2 : tapV T0 T1 T2 x sr z v2) : v1 = v2 ∧ ((S0 ∧ T0) ∨ (∃ t, t < 6 ∧ sr = -1 ∧ S1 t ∧ T1 t) ∨ ∃ t, t < 6 ∧ zin sr 5 ∧ (∃ k, k ≤ 60 ∧ z = nI k) ∧ S2 t ∧ T2 t) := by
  have n1 : (sr < -1 ∨ 4 < sr) → ¬ sr = -1 := fun p q => by
    rw [q] at p
    exact absurd p (by decide)
  have n2 : (sr < -1 ∨ 4 < sr) → ¬ zin sr 5 := fun p => p.elim (fun q => zin_neg (Int32.lt_trans q (by decide)) (by decide)) (fun q => zin_gt (m := 4) q (by decide))
  have n3 : sr = -1 → ¬ zin sr 5 := fun p => zin_neg (by rw [p]; decide) (by decide)
  have n4 : (60 : Int32) < z → ¬ z < 0 := fun p q => absurd (Int32.lt_trans p q) (by decide)
  have n5 : (60 : Int32) < z → ¬ ∃ k, k ≤ 60 ∧ z = nI k := fun p ⟨k, k1, k2⟩ => zin_gt (m := 60) p (by decide) ⟨k, by omega, k2⟩
  have n6 : z < 0 → ¬ ∃ k, k ≤ 60 ∧ z = nI k := fun p ⟨k, k1, k2⟩ => nI_pos (show k < 2 ^ 31 by omega) (k2 ▸ p)
  rcases h1 with ⟨p, e1, s1⟩ | ⟨t, ht, hx, q1⟩
  · rcases h2 with ⟨_, e2, s2⟩ | ⟨t, ht, hx, _⟩
    · exact ⟨by rw [e1, e2], Or.inl ⟨s1, s2⟩⟩
    · exact absurd ⟨t, ht, hx⟩ p
  · rcases h2 with ⟨p, _⟩ | ⟨t2, ht2, hx2, q2⟩
    · exact absurd ⟨t, ht, hx⟩ p
    · have et : t = t2 := nI_one (M := 6) (by omega) ht ht2 hx hx2
      rw [← et] at q2
      rcases q1 with ⟨p1, e1, s1⟩ | ⟨p1, e1, s1⟩ | ⟨p1, q1⟩
      · rcases q2 with ⟨p2, e2, s2⟩ | ⟨p2, e2, s2⟩ | ⟨p2, _⟩
        · exact ⟨by rw [e1, e2], Or.inl ⟨s1, s2⟩⟩
        · exact absurd p2 (n1 p1)
        · exact absurd p2 (n2 p1)
      · rcases q2 with ⟨p2, e2, s2⟩ | ⟨p2, e2, s2⟩ | ⟨p2, _⟩
        · exact absurd p1 (n1 p2)
        · exact ⟨by rw [e1, e2], Or.inr (Or.inl ⟨t, ht, p1, s1, s2⟩)⟩
        · exact absurd p2 (n3 p1)
      · rcases q2 with ⟨p2, e2, s2⟩ | ⟨p2, e2, s2⟩ | ⟨p2, q2⟩
        · exact absurd p1 (n2 p2)
        · exact absurd p1 (n3 p2)
        · rcases q1 with ⟨z1, e1, s1⟩ | ⟨z1, e1, s1⟩ | ⟨z1, e1, s1⟩
          · rcases q2 with ⟨z2, e2, s2⟩ | ⟨z2, e2, s2⟩ | ⟨z2, e2, s2⟩
            · exact ⟨by rw [e1, e2], Or.inl ⟨s1, s2⟩⟩
            · exact absurd z2 (n4 z1)
            · exact absurd z2 (n5 z1)
          · rcases q2 with ⟨z2, e2, s2⟩ | ⟨z2, e2, s2⟩ | ⟨z2, e2, s2⟩
            · exact absurd z1 (n4 z2)
            · exact ⟨by rw [e1, e2], Or.inl ⟨s1, s2⟩⟩
            · exact absurd z2 (n6 z1)
          · rcases q2 with ⟨z2, e2, s2⟩ | ⟨z2, e2, s2⟩ | ⟨z2, e2, s2⟩
            · exact absurd z1 (n5 z2)
            · exact absurd z1 (n6 z2)
            · exact ⟨by rw [e1, e2], Or.inr (Or.inr ⟨t, ht, p1, z1, s1, s2⟩)⟩
def itmV (so : Nat → Int32) (ln : Nat → Nat) (S0 : Prop) (S1 : Nat → Nat → Prop) (x y v : Int32) : Prop := (¬ zin x 6 ∧ v = -1 ∧ S0) ∨ ∃ t, t < 6 ∧ x = nI t ∧ ((so t = -1 ∧ v = -11 ∧ S0) ∨ (so t ≠ -1 ∧ ((¬ zin y (ln t) ∧ v = -13 ∧ S0) ∨ ∃ i, i < ln t ∧ y = nI i ∧ v = 1 ∧ S1 t i)))
theorem itmV_u {so : Nat → Int32} {ln : Nat → Nat} {S0 T0 : Prop} {S1 T1 : Nat → Nat → Prop} {x y v1 v2 : Int32} (hl : ∀ t, t < 6 → ln t ≤ 60) (h1 : itmV so ln S0 S1 x y v1) (h2 : itmV so ln T0 T1 x y v2) : v1 = v2 ∧ ((S0 ∧ T0) ∨ ∃ t i, t < 6 ∧ i < ln t ∧ S1 t i ∧ T1 t i) := by
  rcases h1 with ⟨p, e1, s1⟩ | ⟨t, ht, hx, q1⟩
  · rcases h2 with ⟨_, e2, s2⟩ | ⟨t, ht, hx, _⟩
    · exact ⟨by rw [e1, e2], Or.inl ⟨s1, s2⟩⟩
    · exact absurd ⟨t, ht, hx⟩ p
  · rcases h2 with ⟨p, _⟩ | ⟨t2, ht2, hx2, q2⟩
    · exact absurd ⟨t, ht, hx⟩ p
    · have et : t = t2 := nI_one (M := 6) (by omega) ht ht2 hx hx2
      rw [← et] at q2
      have h60 := hl t ht
      rcases q1 with ⟨p1, e1, s1⟩ | ⟨p1, q1⟩
      · rcases q2 with ⟨p2, e2, s2⟩ | ⟨p2, _⟩
        · exact ⟨by rw [e1, e2], Or.inl ⟨s1, s2⟩⟩
        · exact absurd p1 p2
      · rcases q2 with ⟨p2, _⟩ | ⟨p2, q2⟩
        · exact absurd p2 p1
        · rcases q1 with ⟨z1, e1, s1⟩ | ⟨i, hi, hy, e1, s1⟩
          · rcases q2 with ⟨z2, e2, s2⟩ | ⟨i, hi, hy, _⟩
            · exact ⟨by rw [e1, e2], Or.inl ⟨s1, s2⟩⟩
            · exact absurd ⟨i, hi, hy⟩ z1
          · rcases q2 with ⟨z2, _⟩ | ⟨i2, hi2, hy2, e2, s2⟩
            · exact absurd ⟨i, hi, hy⟩ z2
            · have ei : i = i2 := nI_one (M := ln t) (by omega) hi hi2 hy hy2
              rw [← ei] at s2
              exact ⟨by rw [e1, e2], Or.inr ⟨t, i, ht, hi, s1, s2⟩⟩
def reaV (ln : Nat → Nat) (it : Nat → Nat → Int64) (x y : Int32) (v : Int64) : Prop := (¬ zin x 6 ∧ v = -9223372036854775808) ∨ ∃ t, t < 6 ∧ x = nI t ∧ ((¬ zin y (ln t) ∧ v = -9223372036854775808) ∨ ∃ i, i < ln t ∧ y = nI i ∧ v = it t i)
theorem reaV_u {ln : Nat → Nat} {it : Nat → Nat → Int64} {x y : Int32} {v1 v2 : Int64} (hl : ∀ t, t < 6 → ln t ≤ 60) (h1 : reaV ln it x y v1) (h2 : reaV ln it x y v2) : v1 = v2 := by
  rcases h1 with ⟨p, e1⟩ | ⟨t, ht, hx, q1⟩
  · rcases h2 with ⟨_, e2⟩ | ⟨t, ht, hx, _⟩
    · rw [e1, e2]
    · exact absurd ⟨t, ht, hx⟩ p
  · rcases h2 with ⟨p, _⟩ | ⟨t2, ht2, hx2, q2⟩
    · exact absurd ⟨t, ht, hx⟩ p
    · have et : t = t2 := nI_one (M := 6) (by omega) ht ht2 hx hx2
      rw [← et] at q2
      have h60 := hl t ht
      rcases q1 with ⟨z1, e1⟩ | ⟨i, hi, hy, e1⟩
      · rcases q2 with ⟨z2, e2⟩ | ⟨i, hi, hy, _⟩
        · rw [e1, e2]
        · exact absurd ⟨i, hi, hy⟩ z1
      · rcases q2 with ⟨z2, _⟩ | ⟨i2, hi2, hy2, e2⟩
        · exact absurd ⟨i, hi, hy⟩ z2
        · have ei : i = i2 := nI_one (M := ln t) (by omega) hi hi2 hy hy2
          rw [e1, e2, ei]
def judV (n : Nat) (so : Nat → Int32) (ln : Nat → Nat) (V : Nat → Nat → Nat → Int32) (x y z v : Int32) : Prop := ((¬ zin x 6 ∨ ¬ zin z n) ∧ v = -1) ∨ (∃ t, t < 6 ∧ x = nI t ∧ ∃ b, b < n ∧ z = nI b ∧ ((so t ≠ -1 ∧ so t ≠ 0 ∧ v = -12) ∨ ((so t = -1 ∨ so t = 0) ∧ ((¬ zin y (ln t) ∧ v = 1000) ∨ (∃ i, i < ln t ∧ y = nI i ∧ v = V t i b)))))
theorem judV_u {n : Nat} {so : Nat → Int32} {ln : Nat → Nat} {V : Nat → Nat → Nat → Int32} {x y z v1 v2 : Int32} (hn : n ≤ 8) (hl : ∀ t, t < 6 → ln t ≤ 60) (h1 : judV n so ln V x y z v1) (h2 : judV n so ln V x y z v2) : v1 = v2 := by
  rcases h1 with ⟨p, e1⟩ | ⟨t, ht, hx, b, hb, hz, q1⟩
  · rcases h2 with ⟨_, e2⟩ | ⟨t, ht, hx, b, hb, hz, _⟩
    · rw [e1, e2]
    · exact absurd p (fun c => c.elim (fun c => c ⟨t, ht, hx⟩) (fun c => c ⟨b, hb, hz⟩))
  · rcases h2 with ⟨p, _⟩ | ⟨t2, ht2, hx2, b2, hb2, hz2, q2⟩
    · exact absurd p (fun c => c.elim (fun c => c ⟨t, ht, hx⟩) (fun c => c ⟨b, hb, hz⟩))
    · have et : t = t2 := nI_one (M := 6) (by omega) ht ht2 hx hx2
      have eb : b = b2 := nI_one (M := n) (by omega) hb hb2 hz hz2
      rw [← et, ← eb] at q2
      have h60 := hl t ht
      rcases q1 with ⟨p1, p2, e1⟩ | ⟨p1, q1⟩
      · rcases q2 with ⟨_, _, e2⟩ | ⟨p3, _⟩
        · rw [e1, e2]
        · exact absurd p3 (fun c => c.elim p1 p2)
      · rcases q2 with ⟨p3, p4, _⟩ | ⟨_, q2⟩
        · exact absurd p1 (fun c => c.elim p3 p4)
        · rcases q1 with ⟨z1, e1⟩ | ⟨i, hi, hy, e1⟩
          · rcases q2 with ⟨z2, e2⟩ | ⟨i, hi, hy, _⟩
            · rw [e1, e2]
            · exact absurd ⟨i, hi, hy⟩ z1
          · rcases q2 with ⟨z2, _⟩ | ⟨i2, hi2, hy2, e2⟩
            · exact absurd ⟨i, hi, hy⟩ z2
            · have ei : i = i2 := nI_one (M := ln t) (by omega) hi hi2 hy hy2
              rw [e1, e2, ei]
def shfV (so : Nat → Int32) (ln : Nat → Nat) (S0 : Prop) (S1 : Nat → Nat → Nat → Nat → Nat → Prop) (x y z u q v : Int32) : Prop := ((¬ zin x 6 ∨ ¬ zin z 6) ∧ v = -1 ∧ S0) ∨ ∃ t, t < 6 ∧ x = nI t ∧ ∃ o, o < 6 ∧ z = nI o ∧ (((so t = -1 ∨ so o = -1) ∧ v = -11 ∧ S0) ∨ (so t ≠ -1 ∧ so o ≠ -1 ∧ ((so t ≠ so o ∧ v = -12 ∧ S0) ∨ (so t = so o ∧ ((¬ ((∃ k m : Nat, y = nI k ∧ q = nI m ∧ k + m ≤ ln t) ∧ (∃ k m : Nat, u = nI k ∧ q = nI m ∧ k + m ≤ ln o)) ∧ v = -13 ∧ S0) ∨ ∃ k k2 m : Nat, y = nI k ∧ u = nI k2 ∧ q = nI m ∧ k + m ≤ ln t ∧ k2 + m ≤ ln o ∧ v = nI m ∧ S1 t o k k2 m)))))
theorem shfV_u {so : Nat → Int32} {ln : Nat → Nat} {S0 T0 : Prop} {S1 T1 : Nat → Nat → Nat → Nat → Nat → Prop} {x y z u q v1 v2 : Int32} (hl : ∀ t, t < 6 → ln t ≤ 60) (h1 : shfV so ln S0 S1 x y z u q v1) (h2 : shfV so ln T0 T1 x y z u q v2) : v1 = v2 ∧ ((S0 ∧ T0) ∨ ∃ t o k k2 m, t < 6 ∧ o < 6 ∧ k + m ≤ ln t ∧ k2 + m ≤ ln o ∧ S1 t o k k2 m ∧ T1 t o k k2 m) := by
  rcases h1 with ⟨p, e1, s1⟩ | ⟨t, ht, hx, b, hb, hz, q1⟩
  · rcases h2 with ⟨_, e2, s2⟩ | ⟨t, ht, hx, b, hb, hz, _⟩
    · exact ⟨by rw [e1, e2], Or.inl ⟨s1, s2⟩⟩
    · exact absurd p (fun c => c.elim (fun c => c ⟨t, ht, hx⟩) (fun c => c ⟨b, hb, hz⟩))
  · rcases h2 with ⟨p, _⟩ | ⟨t2, ht2, hx2, b2, hb2, hz2, q2⟩
    · exact absurd p (fun c => c.elim (fun c => c ⟨t, ht, hx⟩) (fun c => c ⟨b, hb, hz⟩))
    · have et : t = t2 := nI_one (M := 6) (by omega) ht ht2 hx hx2
      have eb : b = b2 := nI_one (M := 6) (by omega) hb hb2 hz hz2
      rw [← et, ← eb] at q2
      have ht60 := hl t ht
      have hb60 := hl b hb
      rcases q1 with ⟨p1, e1, s1⟩ | ⟨p1, p2, q1⟩
      · rcases q2 with ⟨_, e2, s2⟩ | ⟨p3, p4, _⟩
        · exact ⟨by rw [e1, e2], Or.inl ⟨s1, s2⟩⟩
        · exact absurd p1 (fun c => c.elim p3 p4)
      · rcases q2 with ⟨p3, _⟩ | ⟨_, _, q2⟩
        · exact absurd p3 (fun c => c.elim p1 p2)
        · rcases q1 with ⟨p5, e1, s1⟩ | ⟨p5, q1⟩
          · rcases q2 with ⟨_, e2, s2⟩ | ⟨p6, _⟩
            · exact ⟨by rw [e1, e2], Or.inl ⟨s1, s2⟩⟩
            · exact absurd p6 p5
          · rcases q2 with ⟨p6, _⟩ | ⟨_, q2⟩
            · exact absurd p5 p6
            · rcases q1 with ⟨z1, e1, s1⟩ | ⟨k, k2, m, y1, y2, y3, y4, y5, e1, s1⟩
              · rcases q2 with ⟨_, e2, s2⟩ | ⟨k, k2, m, y1, y2, y3, y4, y5, _⟩
                · exact ⟨by rw [e1, e2], Or.inl ⟨s1, s2⟩⟩
                · exact absurd ⟨⟨k, m, y1, y3, y4⟩, ⟨k2, m, y2, y3, y5⟩⟩ z1
              · rcases q2 with ⟨z2, _⟩ | ⟨j, j2, m2, w1, w2, w3, w4, w5, e2, s2⟩
                · exact absurd ⟨⟨k, m, y1, y3, y4⟩, ⟨k2, m, y2, y3, y5⟩⟩ z2
                · have a1 : k = j := nI_one (M := 61) (by omega) (by omega) (by omega) y1 w1
                  have a2 : k2 = j2 := nI_one (M := 61) (by omega) (by omega) (by omega) y2 w2
                  have a3 : m = m2 := nI_one (M := 61) (by omega) (by omega) (by omega) y3 w3
                  rw [← a1, ← a2, ← a3] at s2
                  exact ⟨by rw [e1, e2, a3], Or.inr ⟨t, b, k, k2, m, ht, hb, y4, y5, s1, s2⟩⟩
