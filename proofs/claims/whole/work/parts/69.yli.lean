/-! the kinds and their rows at the start -/
theorem k_prim {args : Array Value} {s : State} {ty : FieldType} (h : (Cond.arrayClass ty).before args s = true) : ∃ c : ClassId, ArrOfT s c ty ∧ s.vm.findClass ("[" ++ ty.toString) = some c := by
  obtain ⟨c, k, comp, h1, h2, h3⟩ := Cond.arrayClass_spec h
  exact ⟨c, fun n z => ⟨fun k h => (by cases h), k, h2, comp, h3⟩, h1⟩
theorem k_obj {s : State} {C : String} (h : va_AO C s) : ∃ c : ClassId, ArrOfT s c (.object C) ∧ va_RA s c (.object C) := by
  obtain ⟨comp, c, k, h1, _, h2, h3, h4⟩ := Cond.arrayOver_spec (va_AO.use (A := #[]) h)
  exact ⟨c, fun n z => ⟨fun k h => (by cases h), k, h2, comp, h3⟩, k, comp, h2, h3, h1, h4⟩
set_option maxHeartbeats 1000000 in
theorem k_start {args : Array Value} {s : State} (hts : ∀ t ∈ zT, t.before args s = true) (hAO : kAO s) : ∃ (D : va_G) (ct : Nat → ClassId), va_K D vwCl (kTy ct) s := by
  obtain ⟨c0, i0, k0⟩ := u_known (C := RX0) (T := TX0) (N := 5) (n := 5) hts inlX0 (hts _ (zin_r2 _ (List.mem_of_getElem? (i := 6) rfl)))
  obtain ⟨c1, i1, k1⟩ := u_known (C := RX1) (T := TX1) (N := 6) (n := 6) hts inlX1 (hts _ (zin_r2 _ (List.mem_of_getElem? (i := 11) rfl)))
  obtain ⟨c2, i2, k2⟩ := u_known (C := RX2) (T := TX2) (N := 4) (n := 4) hts inlX2 (hts _ (zin_r2 _ (List.mem_of_getElem? (i := 2) rfl)))
  obtain ⟨c3, i3, k3⟩ := u_known (C := RX3) (T := TX3) (N := 8) (n := 8) hts inlX3 (hts _ (zin_r1 _ (List.mem_of_getElem? (i := 22) rfl)))
  obtain ⟨c4, i4, k4⟩ := u_known (C := RX4) (T := TX4) (N := 3) (n := 3) hts inlX4 (hts _ (zin_r2 _ (List.mem_of_getElem? (i := 13) rfl)))
  obtain ⟨c5, i5, k5⟩ := u_known (C := RX5) (T := TX5) (N := 3) (n := 3) hts inlX5 (hts _ (zin_r1 _ (List.mem_of_getElem? (i := 16) rfl)))
  obtain ⟨c6, i6, k6⟩ := u_known (C := RX6) (T := TX6) (N := 11) (n := 11) hts inlX6 (hts _ (zin_r2 _ (List.mem_of_getElem? (i := 16) rfl)))
  obtain ⟨c7, i7, k7⟩ := u_known (C := RX7) (T := TX7) (N := 12) (n := 12) hts inlX7 (hts _ (zin_r1 _ (List.mem_of_getElem? (i := 1) rfl)))
  obtain ⟨c8, i8, k8⟩ := u_known (C := RX8) (T := TX8) (N := 58) (n := 58) hts inlX8 (hts _ (zin_r1 _ (List.mem_of_getElem? (i := 4) rfl)))
  obtain ⟨t0, a0, f0⟩ := k_prim (hts (Cond.arrayClass .int) (zin_r1 _ (List.mem_of_getElem? (i := 13) rfl)))
  obtain ⟨t1, a1, f1⟩ := k_prim (hts (Cond.arrayClass .long) (zin_r3 _ (List.mem_of_getElem? (i := 12) rfl)))
  obtain ⟨t2, a2, f2⟩ := k_prim (hts (Cond.arrayClass .boolean) (zin_r6 _ (List.mem_of_getElem? (i := 0) rfl)))
  obtain ⟨t3, a3, f3⟩ := k_obj hAO.1
  obtain ⟨t4, a4, f4⟩ := k_obj hAO.2
  refine ⟨(fun k => match k with | 0 => c0 | 1 => c1 | 2 => c2 | 3 => c3 | 4 => c4 | 5 => c5 | 6 => c6 | 7 => c7 | _ => c8, fun k => match k with | 0 => i0 | 1 => i1 | 2 => i2 | 3 => i3 | 4 => i4 | 5 => i5 | 6 => i6 | 7 => i7 | _ => i8), fun k => match k with | 0 => t0 | 1 => t1 | 2 => t2 | 3 => t3 | _ => t4, ?_, ?_⟩
  · intro k q hq
    match k, hq with
    | 0, hq => cases hq; exact k0
    | 1, hq => cases hq; exact k1
    | 2, hq => cases hq; exact k2
    | 3, hq => cases hq; exact k3
    | 4, hq => cases hq; exact k4
    | 5, hq => cases hq; exact k5
    | 6, hq => cases hq; exact k6
    | 7, hq => cases hq; exact k7
    | 8, hq => cases hq; exact k8
    | k + 9, hq => exact absurd hq (by simp [vwCl])
  · intro k q hq
    match k, hq with
    | 0, hq => cases hq; exact ⟨a0, f0⟩
    | 1, hq => cases hq; exact ⟨a1, f1⟩
    | 2, hq => cases hq; exact ⟨a2, f2⟩
    | 3, hq => cases hq; exact ⟨a3, f3⟩
    | 4, hq => cases hq; exact ⟨a4, f4⟩
    | k + 5, hq => exact absurd hq (by simp [kTy])
