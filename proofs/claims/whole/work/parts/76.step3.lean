/-! the law's steps -/
theorem st_blank {I : zI} {J : zJ} (H : zRel I J) : ∃ bk : Nat, bk ≤ 6 ∧ I 5 10 = nI bk ∧ ∀ (x v : Int32) (I1 : zI) (J1 : zJ), (v = cif (x = -1) 0 (cif (zi1 x 12) (cif (bk < 6) (nI (bk + 1)) (-4)) (-2)) ∧ I1 = cif (x = -1) (zup I 5 (upd (I 5) 10 0)) (cif (zi1 x 12 ∧ bk < 6) (zup (zup I 13 (upd (I 13) bk x)) 5 (upd (I 5) 10 (nI (bk + 1)))) I) ∧ J1 = J) → I1 82 35 = nI bk ∧ ∀ (v2 : Int32) (I2 : zI) (J2 : zJ), (v2 = cif (x = -1) 0 (cif (zi1 x 12) (cif (bk < 6) (nI (bk + 1)) (-4)) (-2)) ∧ I2 = cif (x = -1) (zup I1 82 (upd (I1 82) 35 0)) (cif (zi1 x 12 ∧ bk < 6) (zup (zup I1 106 (upd (I1 106) bk x)) 82 (upd (I1 82) 35 (nI (bk + 1)))) I1) ∧ J2 = J1) → v = v2 ∧ zRel I2 J2 := by
  obtain ⟨n, lc, hn, a1, a2, a3, a4, a5, a6, a7, ⟨tr, bk, h, jn, hd, kd, bu, fri, ho, lo, bl, g1, g2, ⟨c1, c2, c3, c4, c5, c6, c7⟩, ⟨d1, d2, d3, d4, d5, d6, d7⟩⟩, a9⟩ := id H
  refine ⟨bk, g2.2.2.1, c3, fun x v I1 J1 h1 => ?_⟩
  obtain ⟨e1, e2, e3⟩ := h1
  replace e3 := e3.symm; subst e3
  by_cases Q : x = -1
  · rw [cif_t Q] at e2
    subst e2
    refine ⟨d3, fun v2 I2 J2 h2 => ?_⟩
    obtain ⟨f1, f2, f3⟩ := h2
    replace f3 := f3.symm; subst f3
    rw [cif_t Q] at f2
    subst f2
    refine ⟨e1.trans f1.symm, zRel_b (bk' := 0) H (fun k q1 q2 q3 q4 => by rw [zup_n q3, zup_n q1]) (fun k q => ?_) (fun k q => ?_) (Nat.zero_le _) rfl rfl (fun k q => absurd q (Nat.not_lt_zero _))⟩
    · rw [zup_n (by decide), zup_s, upd_n q]
    · rw [zup_s, upd_n q, zup_n (by decide)]
  · by_cases P : zi1 x 12 ∧ bk < 6
    · rw [cif_f Q, cif_t P] at e2
      subst e2
      refine ⟨d3, fun v2 I2 J2 h2 => ?_⟩
      obtain ⟨f1, f2, f3⟩ := h2
      replace f3 := f3.symm; subst f3
      rw [cif_f Q, cif_t P] at f2
      subst f2
      refine ⟨e1.trans f1.symm, zRel_b (bk' := bk + 1) H (fun k q1 q2 q3 q4 => by rw [zup_n q3, zup_n q4, zup_n q1, zup_n q2]) (fun k q => ?_) (fun k q => ?_) P.2 rfl rfl (fun k q => ?_)⟩
      · rw [zup_n (by decide), zup_n (by decide), zup_s, upd_n q]
      · rw [zup_s, upd_n q, zup_n (by decide), zup_n (by decide)]
      · show upd (I 13) bk x k = upd (I 106) bk x k
        by_cases z : k = bk
        · rw [z, upd_s, upd_s]
        · rw [upd_n z, upd_n z]
          exact (c7 k (by omega)).trans (d7 k (by omega)).symm
    · rw [cif_f Q, cif_f P] at e2
      subst e2
      refine ⟨d3, fun v2 I2 J2 h2 => ?_⟩
      obtain ⟨f1, f2, f3⟩ := h2
      replace f3 := f3.symm; subst f3
      rw [cif_f Q, cif_f P] at f2
      subst f2
      exact ⟨e1.trans f1.symm, H⟩
theorem st_count {I : zI} {J : zJ} (H : zRel I J) (x : Int32) : zCt x (I 0 1) (I 5 8) (I 0 4) (I 5 10) (I 2 1) (I 32 1) = zCt x (I 82 0) (I 82 27) (I 82 4) (I 82 35) (I 82 6) (I 82 52) := by
  obtain ⟨n, lc, hn, a1, a2, a3, ⟨a41, a42, a43, a44⟩, ⟨L, c, a51, a52, a53, a54⟩, a6, ⟨bg, a71, a72, a73, a74⟩, ⟨tr, bk, h, jn, hd, kd, bu, fri, ho, lo, bl, g1, g2, ⟨c1, c2, c3, c4, c5, c6, c7⟩, ⟨d1, d2, d3, d4, d5, d6, d7⟩⟩, a9⟩ := H
  rw [a1, a2, c2, d2, a42, a43, c3, d3, a52, a53, a72, a73]
theorem st_kinds {I : zI} {J : zJ} (H : zRel I J) : ∃ (tr : Nat) (kd : Nat → Nat), tr ≤ 16 ∧ I 5 8 = nI tr ∧ I 82 27 = nI tr ∧ (∀ t, t < tr → I 8 t = nI (kd t) ∧ kd t < 7) ∧ ∀ t, t < tr → I 100 t = nI (kd t) ∧ kd t < 7 := by
  obtain ⟨n, lc, hn, a1, a2, a3, a4, a5, a6, a7, ⟨tr, bk, h, jn, hd, kd, bu, fri, ho, lo, bl, g1, g2, ⟨c1, c2, c3, c4, c5, c6, c7⟩, ⟨d1, d2, d3, d4, d5, d6, d7⟩⟩, a9⟩ := H
  exact ⟨tr, kd, g2.2.1, c2, d2, fun t ht => ⟨(c6 t ht).1, (g2.2.2.2.2.2 t ht).1⟩, fun t ht => ⟨(d6 t ht).1, (g2.2.2.2.2.2 t ht).1⟩⟩
