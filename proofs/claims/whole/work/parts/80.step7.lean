/-! the law's steps: news -/
theorem oMI (o : Option Nat) (h : ∀ k, o = some k → k ≤ 99) : (if oM o < 0 then (-5 : Int32) else oM o) = oI o := by
  rcases o with _ | k
  · rfl
  · have hk := h k rfl
    show (if nI k < 0 then (-5 : Int32) else nI k) = nI k
    rw [if_neg (nI_pos (by omega))]
theorem st_news {I : zI} {J : zJ} (H : zRel I J) : ∃ n : Nat, n ≤ 8 ∧ I 0 1 = nI n ∧ ∀ (x y v : Int32) (I1 : zI) (J1 : zJ), (v = cif (zin x n) (cif (y = -1 ∨ zin y 100) (I 7 (zn x)) (-2)) (-1) ∧ I1 = cif (zin x n ∧ (y = -1 ∨ zin y 100)) (zup I 7 (upd (I 7) (zn x) (cif (y = -1) (-5) y))) I ∧ J1 = J) → I1 82 0 = nI n ∧ ∀ (v2 : Int32) (I2 : zI) (J2 : zJ), (v2 = cif (zin x n) (cif (y = -1 ∨ zin y 100) (if I1 85 (zn x) < 0 then -5 else I1 85 (zn x)) (-2)) (-1) ∧ I2 = cif (zin x n ∧ (y = -1 ∨ zin y 100)) (zup I1 85 (upd (I1 85) (zn x) y)) I1 ∧ J2 = J1) → v = v2 ∧ zRel I2 J2 := by
  obtain ⟨n, jn, hd, hn, a1, a2, h6, h84, hdg, h7, h85, h99⟩ := zRel_d H
  refine ⟨n, hn, a1, fun x y v I1 J1 h1 => ?_⟩
  obtain ⟨e1, e2, e3⟩ := h1
  replace e3 := e3.symm; subst e3
  have i85 : I1 85 = I 85 := by
    rw [e2]
    by_cases P : zin x n ∧ (y = -1 ∨ zin y 100)
    · rw [cif_t P, zup_n (by decide)]
    · rw [cif_f P]
  have i82 : I1 82 = I 82 := by
    rw [e2]
    by_cases P : zin x n ∧ (y = -1 ∨ zin y 100)
    · rw [cif_t P, zup_n (by decide)]
    · rw [cif_f P]
  refine ⟨by rw [i82]; exact a2, fun v2 I2 J2 h2 => ?_⟩
  obtain ⟨f1, f2, f3⟩ := h2
  replace f3 := f3.symm; subst f3
  have hv : v = v2 := by
    rw [e1, f1, i85]
    by_cases Q : zin x n
    · rw [cif_t Q, cif_t Q]
      obtain ⟨x', x1, x2⟩ := Q
      rw [x2, zn_n (by omega), h7 x' (by omega), h85 x' (by omega), oMI (hd x') (fun k hk => h99 x' k hk)]
    · rw [cif_f Q, cif_f Q]
  refine ⟨hv, ?_⟩
  by_cases P : zin x n ∧ (y = -1 ∨ zin y 100)
  · rw [cif_t P] at e2 f2
    subst e2
    subst f2
    obtain ⟨⟨x', x1, x2⟩, hy⟩ := P
    have nx : zn x = x' := by rw [x2, zn_n (by omega)]
    rw [nx]
    obtain ⟨o, o1, o2, o3⟩ : ∃ o : Option Nat, cif (y = -1) (-5) y = oI o ∧ y = oM o ∧ ∀ k, o = some k → k ≤ 99 := by
      by_cases Q : y = -1
      · exact ⟨none, by rw [cif_t Q]; rfl, Q, fun k z => by simp at z⟩
      · obtain ⟨y', y1, y2⟩ := hy.resolve_left Q
        exact ⟨some y', by rw [cif_f Q]; exact y2, y2, fun k z => by
          have := Option.some.inj z
          omega⟩
    refine zRel_w H (fun k q1 q2 q3 q4 => by rw [zup_n q4, zup_n q2]) jn (fun a => if a = x' then o else hd a) h6 h84 hdg (fun a ha => ?_) (fun a ha => ?_) (fun a k hk => ?_)
    · rw [zup_n (by decide), zup_s]
      by_cases z : a = x'
      · rw [z, upd_s, if_pos rfl]; exact o1
      · rw [upd_n z, if_neg z]; exact h7 a ha
    · rw [zup_s, zup_n (by decide)]
      by_cases z : a = x'
      · rw [z, upd_s, if_pos rfl]; exact o2
      · rw [upd_n z, if_neg z]; exact h85 a ha
    · by_cases z : a = x'
      · rw [if_pos z] at hk; exact o3 k hk
      · rw [if_neg z] at hk; exact h99 a k hk
  · rw [cif_f P] at e2 f2
    subst e2
    subst f2
    exact H
