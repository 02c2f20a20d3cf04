/-! the law's steps: joining -/
theorem st_join {I : zI} {J : zJ} (H : zRel I J) : ∃ n : Nat, n ≤ 8 ∧ I 0 1 = nI n ∧ ∀ (x y s v : Int32) (I1 : zI) (J1 : zJ), (v = cif (zin x n ∧ zin y n) (cif (x ≠ y ∧ zin s 6) (I 6 (zn x * 8 + zn y)) (-2)) (-1) ∧ I1 = cif (zin x n ∧ zin y n ∧ x ≠ y ∧ zin s 6) (zup I 6 (upd (upd (I 6) (zn x * 8 + zn y) s) (zn y * 8 + zn x) s)) I ∧ J1 = J) → I1 82 0 = nI n ∧ ∀ (v2 : Int32) (I2 : zI) (J2 : zJ), (v2 = cif (zin x n ∧ zin y n) (cif (x ≠ y ∧ zin s 6) (I1 84 (8 * zn x + zn y)) (-2)) (-1) ∧ I2 = cif (zin x n ∧ zin y n ∧ x ≠ y ∧ zin s 6) (zup I1 84 (upd (upd (I1 84) (8 * zn x + zn y) s) (8 * zn y + zn x) s)) I1 ∧ J2 = J1) → v = v2 ∧ zRel I2 J2 := by
  obtain ⟨n, jn, hd, hn, a1, a2, h6, h84, hdg, h7, h85, h99⟩ := zRel_d H
  refine ⟨n, hn, a1, fun x y s v I1 J1 h1 => ?_⟩
  obtain ⟨e1, e2, e3⟩ := h1
  replace e3 := e3.symm; subst e3
  have i84 : I1 84 = I 84 := by
    rw [e2]
    by_cases P : zin x n ∧ zin y n ∧ x ≠ y ∧ zin s 6
    · rw [cif_t P, zup_n (by decide)]
    · rw [cif_f P]
  have i82 : I1 82 = I 82 := by
    rw [e2]
    by_cases P : zin x n ∧ zin y n ∧ x ≠ y ∧ zin s 6
    · rw [cif_t P, zup_n (by decide)]
    · rw [cif_f P]
  refine ⟨by rw [i82]; exact a2, fun v2 I2 J2 h2 => ?_⟩
  obtain ⟨f1, f2, f3⟩ := h2
  replace f3 := f3.symm; subst f3
  have hv : v = v2 := by
    rw [e1, f1, i84]
    by_cases Q : zin x n ∧ zin y n
    · rw [cif_t Q, cif_t Q]
      obtain ⟨⟨x', x1, x2⟩, ⟨y', y1, y2⟩⟩ := Q
      rw [x2, y2, zn_n (by omega), zn_n (by omega), h6 (x' * 8 + y') (by omega), h84 (8 * x' + y') (by omega), Nat.mul_comm 8 x']
    · rw [cif_f Q, cif_f Q]
  refine ⟨hv, ?_⟩
  by_cases P : zin x n ∧ zin y n ∧ x ≠ y ∧ zin s 6
  · rw [cif_t P] at e2 f2
    subst e2
    subst f2
    obtain ⟨⟨x', x1, x2⟩, ⟨y', y1, y2⟩, hxy, hs⟩ := P
    have nx : zn x = x' := by rw [x2, zn_n (by omega)]
    have ny : zn y = y' := by rw [y2, zn_n (by omega)]
    have hne : x' ≠ y' := fun z => hxy (by rw [x2, y2, z])
    rw [nx, ny]
    refine zRel_w H (fun k q1 q2 q3 q4 => by rw [zup_n q3, zup_n q1]) (upd (upd jn (x' * 8 + y') s) (y' * 8 + x') s) hd (fun k hk => ?_) (fun k hk => ?_) (fun a ha => ?_) h7 h85 h99
    · rw [zup_n (by decide), zup_s]
      by_cases z1 : k = y' * 8 + x'
      · rw [z1, upd_s, upd_s]
      · rw [upd_n z1, upd_n z1]
        by_cases z2 : k = x' * 8 + y'
        · rw [z2, upd_s, upd_s]
        · rw [upd_n z2, upd_n z2]; exact h6 k hk
    · rw [zup_s, zup_n (by decide), Nat.mul_comm 8 x', Nat.mul_comm 8 y']
      by_cases z1 : k = y' * 8 + x'
      · rw [z1, upd_s, upd_s]
      · rw [upd_n z1, upd_n z1]
        by_cases z2 : k = x' * 8 + y'
        · rw [z2, upd_s, upd_s]
        · rw [upd_n z2, upd_n z2]; exact h84 k hk
    · rw [upd_n (by omega), upd_n (by omega)]; exact hdg a ha
  · rw [cif_f P] at e2 f2
    subst e2
    subst f2
    exact H
