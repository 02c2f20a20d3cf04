/-! the law's steps: a trade -/
theorem tr_s {g : Nat → Int32} {p : Nat → Nat} {tr c : Nat} {v : Int32} (h : ∀ t, t < tr → g t = nI (p t)) (hv : v = nI c) : ∀ t, t < tr + 1 → upd g tr v t = nI (if t = tr then c else p t) := fun t ht => by
  by_cases e : t = tr
  · rw [e, upd_s, if_pos rfl]; exact hv
  · rw [upd_n e, if_neg e]; exact h t (by omega)
set_option maxHeartbeats 1000000 in
theorem st_trade {I : zI} {J : zJ} (H : zRel I J) : ∃ n tr : Nat, n ≤ 8 ∧ tr ≤ 16 ∧ I 0 1 = nI n ∧ I 5 8 = nI tr ∧ ∀ (k x f y l v : Int32) (I1 : zI) (J1 : zJ), (v = cif (zin k 7 ∧ zin x n ∧ zin f 9) (cif (zin y 100 ∧ zi1 l 99) (cif (tr < 16) (nI tr) (-4)) (-2)) (-1) ∧ I1 = cif ((zin k 7 ∧ zin x n ∧ zin f 9) ∧ (zin y 100 ∧ zi1 l 99) ∧ tr < 16) (zup (zup (zup (zup (zup (zup I 8 (upd (I 8) tr k)) 9 (upd (I 9) tr x)) 10 (upd (I 10) tr f)) 11 (upd (I 11) tr y)) 12 (upd (I 12) tr l)) 5 (upd (I 5) 8 (nI (tr + 1)))) I ∧ J1 = J) → I1 82 0 = nI n ∧ I1 82 27 = nI tr ∧ ∀ (v2 : Int32) (I2 : zI) (J2 : zJ), (v2 = cif (zin k 7 ∧ zin x n ∧ zin f 9) (cif (zin y 100 ∧ zi1 l 99) (cif (tr < 16) (nI tr) (-4)) (-2)) (-1) ∧ I2 = cif ((zin k 7 ∧ zin x n ∧ zin f 9) ∧ (zin y 100 ∧ zi1 l 99) ∧ tr < 16) (zup (zup (zup (zup (zup (zup I1 100 (upd (I1 100) tr k)) 101 (upd (I1 101) tr x)) 102 (upd (I1 102) tr f)) 103 (upd (I1 103) tr y)) 104 (upd (I1 104) tr l)) 82 (upd (I1 82) 27 (nI (tr + 1)))) I1 ∧ J2 = J1) → v = v2 ∧ zRel I2 J2 := by
  obtain ⟨n, lc, hn, a1, a2, a3, a4, a5, a6, a7, ⟨tr, bk, h, jn, hd, kd, bu, fri, ho, lo, bl, g1, g2, ⟨c1, c2, c3, c4, c5, c6, c7⟩, ⟨d1, d2, d3, d4, d5, d6, d7⟩⟩, a9⟩ := id H
  refine ⟨n, tr, hn, g2.2.1, a1, c2, fun k x f y l v I1 J1 h1 => ?_⟩
  obtain ⟨e1, e2, e3⟩ := h1
  replace e3 := e3.symm; subst e3
  by_cases P : (zin k 7 ∧ zin x n ∧ zin f 9) ∧ (zin y 100 ∧ zi1 l 99) ∧ tr < 16
  · rw [cif_t P] at e2
    subst e2
    refine ⟨a2, d2, fun v2 I2 J2 h2 => ?_⟩
    obtain ⟨f1, f2, f3⟩ := h2
    replace f3 := f3.symm; subst f3
    rw [cif_t P] at f2
    obtain ⟨⟨⟨k', k1, k2⟩, ⟨x', x1, x2⟩, ⟨f', y1, y2⟩⟩, ⟨⟨y', w1, w2⟩, ⟨l', l0, l1, l2⟩⟩, htr⟩ := P
    have fr : ∀ q, (q < 5 ∨ (5 < q ∧ q < 8) ∨ (12 < q ∧ q < 82) ∨ (82 < q ∧ q < 100) ∨ 104 < q) → I2 q = I q := fun q hq => by
      rw [f2, zup_n (by omega), zup_n (by omega), zup_n (by omega), zup_n (by omega), zup_n (by omega), zup_n (by omega), zup_n (by omega), zup_n (by omega), zup_n (by omega), zup_n (by omega), zup_n (by omega), zup_n (by omega)]
    have t82 : I2 82 = upd (I 82) 27 (nI (tr + 1)) := by rw [f2]; rfl
    have t5 : I2 5 = upd (I 5) 8 (nI (tr + 1)) := by rw [f2]; rfl
    have r8 : I2 8 = upd (I 8) tr k := by rw [f2]; rfl
    have r9 : I2 9 = upd (I 9) tr x := by rw [f2]; rfl
    have r10 : I2 10 = upd (I 10) tr f := by rw [f2]; rfl
    have r11 : I2 11 = upd (I 11) tr y := by rw [f2]; rfl
    have r12 : I2 12 = upd (I 12) tr l := by rw [f2]; rfl
    have m0 : I2 100 = upd (I 100) tr k := by rw [f2]; rfl
    have m1 : I2 101 = upd (I 101) tr x := by rw [f2]; rfl
    have m2 : I2 102 = upd (I 102) tr f := by rw [f2]; rfl
    have m3 : I2 103 = upd (I 103) tr y := by rw [f2]; rfl
    have m4 : I2 104 = upd (I 104) tr l := by rw [f2]; rfl
    clear f2
    obtain ⟨s1, s2, s3, s4, s5, s6⟩ := g2
    refine ⟨e1.trans f1.symm, n, lc, hn, by rw [fr 0 (by omega)]; exact a1, by rw [t82, upd_n (by decide)]; exact a2, fun q hq => by rw [fr 1 (by omega), fr 83 (by omega)]; exact a3 q hq, rLaws_c (I := I) (by rw [fr 0 (by omega)]) (by rw [t82, upd_n (by decide)]) (fun q hq => fr q (by omega)) a4, rText_c (I := I) (by rw [fr 2 (by omega)]) (by rw [t82, upd_n (by decide)]) (fr 3 (by omega)) (fr 86 (by omega)) a5, rTapes_c (I := I) (fun q hq => fr q (by omega)) (fun _ _ => rfl) a6, rActor_c (I := I) (by rw [fr 32 (by omega)]) (by rw [t82, upd_n (by decide)]) (fr 33 (by omega)) (fr 118 (by omega)) a7, ?_, ?_⟩
    · refine ⟨tr + 1, bk, h, jn, hd, fun t => if t = tr then k' else kd t, fun t => if t = tr then x' else bu t, fun t => if t = tr then f' else fri t, fun t => if t = tr then y' else ho t, fun t => if t = tr then l' else lo t, bl, g1, ⟨s1, htr, s3, s4, s5, fun t ht => ?_⟩, ⟨by rw [t5, upd_n (by decide)]; exact c1, by rw [t5, upd_s], by rw [t5, upd_n (by decide)]; exact c3, fun q hq => by rw [fr 6 (by omega)]; exact c4 q hq, fun q hq => by rw [fr 7 (by omega)]; exact c5 q hq, fun t ht => ?_, fun q hq => by rw [fr 13 (by omega)]; exact c7 q hq⟩, ⟨by rw [t82, upd_n (by decide)]; exact d1, by rw [t82, upd_s], by rw [t82, upd_n (by decide)]; exact d3, fun q hq => by rw [fr 84 (by omega)]; exact d4 q hq, fun q hq => by rw [fr 85 (by omega)]; exact d5 q hq, fun t ht => ?_, fun q hq => by rw [fr 106 (by omega)]; exact d7 q hq⟩⟩
      · by_cases e : t = tr
        · simp only [if_pos e]
          exact ⟨k1, x1, y1, by omega, l1⟩
        · simp only [if_neg e]
          exact s6 t (by omega)
      · rw [r8, r9, r10, r11, r12]
        exact ⟨tr_s (fun t q => (c6 t q).1) k2 t ht, tr_s (fun t q => (c6 t q).2.1) x2 t ht, tr_s (fun t q => (c6 t q).2.2.1) y2 t ht, tr_s (fun t q => (c6 t q).2.2.2.1) w2 t ht, tr_s (fun t q => (c6 t q).2.2.2.2) l2 t ht⟩
      · rw [m0, m1, m2, m3, m4]
        exact ⟨tr_s (fun t q => (d6 t q).1) k2 t ht, tr_s (fun t q => (d6 t q).2.1) x2 t ht, tr_s (fun t q => (d6 t q).2.2.1) y2 t ht, tr_s (fun t q => (d6 t q).2.2.2.1) w2 t ht, tr_s (fun t q => (d6 t q).2.2.2.2) l2 t ht⟩
    · rcases a9 with ⟨b1, b2⟩ | ⟨b1, b2, b3⟩
      · exact Or.inl ⟨by rw [fr 0 (by omega)]; exact b1, by rw [t82, upd_n (by decide)]; exact b2⟩
      · exact Or.inr ⟨by rw [fr 0 (by omega)]; exact b1, by rw [t82, upd_n (by decide)]; exact b2, rW_c (I := I) (Nat.le_refl _) (Nat.le_refl _) (fun q q1 q2 => fr q (by omega)) (by rw [t82, upd_n (by decide)]) (by rw [t82, upd_n (by decide)]) (by rw [t82, upd_n (by decide)]) (fr 110 (by omega)) (fr 111 (by omega)) (fun q q1 q2 => fr q (by omega)) (fr 117 (by omega)) b3⟩
  · rw [cif_f P] at e2
    subst e2
    refine ⟨a2, d2, fun v2 I2 J2 h2 => ?_⟩
    obtain ⟨f1, f2, f3⟩ := h2
    replace f3 := f3.symm; subst f3
    rw [cif_f P] at f2
    subst f2
    exact ⟨e1.trans f1.symm, H⟩
