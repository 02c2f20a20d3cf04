/-! the law's steps: fridays -/
theorem aDays_c {b f b' f' : Nat → Int32} {x : Int32} : ∀ k, (∀ t, t < k → b t = b' t ∧ f t = f' t) → aDays b f x k = aDays b' f' x k
  | 0, _ => rfl
  | k + 1, h => by
    rw [aDays, aDays, aDays_c k (fun t ht => h t (by omega)), (h k (Nat.lt_succ_self k)).1, (h k (Nat.lt_succ_self k)).2]
theorem st_fridays {I : zI} {J : zJ} (H : zRel I J) : ∃ n tr : Nat, n ≤ 8 ∧ tr ≤ 16 ∧ I 0 1 = nI n ∧ I 82 0 = nI n ∧ I 5 8 = nI tr ∧ I 82 27 = nI tr ∧ ∀ x : Int32, cif (zin x n) (aDays (I 9) (I 10) x tr) (-1) = cif (zin x n) (aDays (I 101) (I 102) x tr) (-1) := by
  obtain ⟨n, lc, hn, a1, a2, a3, a4, a5, a6, a7, ⟨tr, bk, h, jn, hd, kd, bu, fri, ho, lo, bl, g1, ⟨s1, s2, s3, s4, s5, s6⟩, ⟨c1, c2, c3, c4, c5, c6, c7⟩, ⟨d1, d2, d3, d4, d5, d6, d7⟩⟩, a9⟩ := H
  refine ⟨n, tr, hn, s2, a1, a2, c2, d2, fun x => ?_⟩
  rw [aDays_c (b' := I 101) (f' := I 102) tr (fun t ht => ⟨(c6 t ht).2.1.trans (d6 t ht).2.1.symm, (c6 t ht).2.2.1.trans (d6 t ht).2.2.1.symm⟩)]
