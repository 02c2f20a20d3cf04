/-! the law's steps -/
theorem st_name {I : zI} {J : zJ} (H : zRel I J) : ∃ n : Nat, n ≤ 8 ∧ I 0 1 = nI n ∧ ∀ (x v : Int32) (I1 : zI) (J1 : zJ), (v = cif (zi1 x 12) (cif (n < 8) (nI n) (-4)) (-2) ∧ I1 = cif (zi1 x 12 ∧ n < 8) (zup (zup I 1 (upd (I 1) n x)) 0 (upd (I 0) 1 (nI (n + 1)))) I ∧ J1 = J) → I1 82 0 = nI n ∧ ∀ (v2 : Int32) (I2 : zI) (J2 : zJ), (v2 = cif (zi1 x 12) (cif (n < 8) (nI n) (-4)) (-2) ∧ I2 = cif (zi1 x 12 ∧ n < 8) (zup (zup I1 83 (upd (I1 83) n x)) 82 (upd (I1 82) 0 (nI (n + 1)))) I1 ∧ J2 = J1) → v = v2 ∧ zRel I2 J2 := by
  obtain ⟨n, lc, hn, a1, a2, a3, a4, a5, a6, a7, a8, a9⟩ := id H
  refine ⟨n, hn, a1, fun x v I1 J1 h1 => ?_⟩
  obtain ⟨e1, e2, e3⟩ := h1
  replace e3 := e3.symm; subst e3
  by_cases P : zi1 x 12 ∧ n < 8
  · rw [cif_t P] at e2
    subst e2
    refine ⟨a2, fun v2 I2 J2 h2 => ?_⟩
    obtain ⟨f1, f2, f3⟩ := h2
    replace f3 := f3.symm; subst f3
    rw [cif_t P] at f2
    subst f2
    have fr : ∀ k, k ≠ 0 → k ≠ 1 → k ≠ 82 → k ≠ 83 → zup (zup (zup (zup I 1 (upd (I 1) n x)) 0 (upd (I 0) 1 (nI (n + 1)))) 83 (upd (zup (zup I 1 (upd (I 1) n x)) 0 (upd (I 0) 1 (nI (n + 1))) 83) n x)) 82 (upd (zup (zup I 1 (upd (I 1) n x)) 0 (upd (I 0) 1 (nI (n + 1))) 82) 0 (nI (n + 1))) k = I k := fun k q1 q2 q3 q4 => by
      rw [zup_n q3, zup_n q4, zup_n q1, zup_n q2]
    refine ⟨e1.trans f1.symm, n + 1, lc, P.2, rfl, rfl, fun k hk => ?_, rLaws_c (I := I) rfl rfl (fun k hk => fr k (by omega) (by omega) (by omega) (by omega)) a4, rText_c (I := I) (congrFun (fr 2 (by decide) (by decide) (by decide) (by decide)) 1) rfl (fr 3 (by decide) (by decide) (by decide) (by decide)) (fr 86 (by decide) (by decide) (by decide) (by decide)) a5, rTapes_c (I := I) (fun k hk => fr k (by omega) (by omega) (by omega) (by omega)) (fun _ _ => rfl) a6, rActor_c (I := I) (congrFun (fr 32 (by decide) (by decide) (by decide) (by decide)) 1) rfl (fr 33 (by decide) (by decide) (by decide) (by decide)) (fr 118 (by decide) (by decide) (by decide) (by decide)) a7, ?_, ?_⟩
    · show upd (I 1) n x k = upd (I 83) n x k
      by_cases q : k = n
      · rw [q, upd_s, upd_s]
      · rw [upd_n q, upd_n q]; exact a3 k hk
    · exact rW_c (I := I) (Nat.le_succ n) (Nat.le_refl _) (fun k q1 q2 => fr k (by omega) (by omega) (by omega) (by omega)) rfl rfl rfl (fr 84 (by decide) (by decide) (by decide) (by decide)) (fr 85 (by decide) (by decide) (by decide) (by decide)) (fun k q1 q2 => fr k (by omega) (by omega) (by omega) (by omega)) (fr 106 (by decide) (by decide) (by decide) (by decide)) a8
    · rcases a9 with ⟨b1, b2⟩ | ⟨b1, b2, b3⟩
      · exact Or.inl ⟨b1, b2⟩
      · exact Or.inr ⟨b1, b2, rW_c (I := I) (Nat.le_succ n) (Nat.le_refl _) (fun k q1 q2 => fr k (by omega) (by omega) (by omega) (by omega)) rfl rfl rfl (fr 110 (by decide) (by decide) (by decide) (by decide)) (fr 111 (by decide) (by decide) (by decide) (by decide)) (fun k q1 q2 => fr k (by omega) (by omega) (by omega) (by omega)) (fr 117 (by decide) (by decide) (by decide) (by decide)) b3⟩
  · rw [cif_f P] at e2
    subst e2
    refine ⟨a2, fun v2 I2 J2 h2 => ?_⟩
    obtain ⟨f1, f2, f3⟩ := h2
    replace f3 := f3.symm; subst f3
    rw [cif_f P] at f2
    subst f2
    exact ⟨e1.trans f1.symm, H⟩
