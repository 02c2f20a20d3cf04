/-! the law's start: what the Statement gives -/
abbrev gvN : Cond := Cond.and given_1 narrow_1
theorem gv_A1 : Cond.arrayOf (.static "TuesdayKnew" "ABOVE" "[I") .int ∈ flatC gvN ∧ Cond.eq (.length (.static "TuesdayKnew" "ABOVE" "[I")) (.int (Int32.ofNat 7)) ∈ flatC gvN := by decide +kernel
theorem gv_A2 : ∀ j, j < 7 → Cond.eq (.elem (.static "TuesdayKnew" "ABOVE" "[I") (.int (Int32.ofNat j))) (.int (zAbove j)) ∈ flatC gvN := by decide +kernel
theorem gv_B1 : Cond.arrayOf (.static "TuesdayKnew$Actor" "BODIES" "[I") .int ∈ flatC gvN ∧ Cond.eq (.length (.static "TuesdayKnew$Actor" "BODIES" "[I")) (.int (Int32.ofNat 21)) ∈ flatC gvN := by decide +kernel
theorem gv_B2 : ∀ j, j < 21 → Cond.eq (.elem (.static "TuesdayKnew$Actor" "BODIES" "[I") (.int (Int32.ofNat j))) (.int (zBodies j)) ∈ flatC gvN := by decide +kernel
theorem gv_C : Cond.eq (.static "java/lang/String" "COMPACT_STRINGS" "Z") (.int 1) ∈ flatC gvN ∧ Cond.isRef (.static "jdk/internal/util/Preconditions" "SIOOBE_FORMATTER" "Ljava/util/function/BiFunction;") ∈ flatC gvN := by decide +kernel
def zTm (i : Nat) : Term := .string "TuesdayKnew$Text" (zTk.getD i 0)
theorem gv_S1 : ∀ i, i < 7 → Cond.exactly (zTm i) "java/lang/String" ∈ flatC gvN := by decide +kernel
theorem gv_S2 : ∀ i, i < 7 → Cond.eq (.field (zTm i) "java/lang/String" "coder" "B") (.int 0) ∈ flatC gvN := by decide +kernel
theorem gv_S3 : ∀ i, i < 7 → Cond.arrayOf (.field (zTm i) "java/lang/String" "value" "[B") .byte ∈ flatC gvN := by decide +kernel
theorem gv_S4 : ∀ i, i < 7 → Cond.eq (.length (.field (zTm i) "java/lang/String" "value" "[B")) (.int (Int32.ofNat (zLen.getD i 0))) ∈ flatC gvN := by decide +kernel
theorem gv_S5 : ∀ i, i < 7 → ∀ j, j < zLen.getD i 0 → Cond.eq (.elem (.field (zTm i) "java/lang/String" "value" "[B") (.int (Int32.ofNat j))) (.int ((zByt.getD i []).getD j 0)) ∈ flatC gvN := by decide +kernel
theorem gv_S6 : ∀ i, i < 7 → ∀ j, j < 7 → i ≠ j → Cond.not (Cond.eq (zTm i) (zTm j)) ∈ flatC gvN ∨ Cond.not (Cond.eq (zTm j) (zTm i)) ∈ flatC gvN := by decide +kernel
theorem tb_S : ∀ i, i < 7 → Cond.stringRef "TuesdayKnew$Text" (zTk.getD i 0) (List.getD zTx i "") ∈ lw_tbl := by decide +kernel
theorem tb_Z : (Cond.laysStatic "TuesdayKnew" "ABOVE" "[I" ∈ lw_tbl ∧ Cond.initialized "TuesdayKnew" ∈ lw_tbl) ∧ (Cond.laysStatic "TuesdayKnew$Actor" "BODIES" "[I" ∈ lw_tbl ∧ Cond.initialized "TuesdayKnew$Actor" ∈ lw_tbl) ∧ (Cond.laysStatic "java/lang/String" "COMPACT_STRINGS" "Z" ∈ lw_tbl ∧ Cond.initialized "java/lang/String" ∈ lw_tbl) ∧ Cond.laysStatic "jdk/internal/util/Preconditions" "SIOOBE_FORMATTER" "Ljava/util/function/BiFunction;" ∈ lw_tbl ∧ Cond.initialized "jdk/internal/util/Preconditions" ∈ lw_tbl := by decide +kernel
theorem tb_N : Cond.methodLinkNest RX7 17 yX5_init RX7 ∈ lw_tbl ∧ Cond.methodLinkNest RX7 30 yX3_init RX7 ∈ lw_tbl ∧ Cond.methodLinkNest RX7 37 yX2_init RX7 ∈ lw_tbl ∧ Cond.methodLinkNest RX7 44 yX0_init RX7 ∈ lw_tbl ∧ Cond.methodLinkNest RX7 55 yX1_init RX7 ∈ lw_tbl ∧ Cond.methodLinkNest RX7 56 yX4_init RX7 ∈ lw_tbl := by decide +kernel
theorem tb_A : Cond.arrayOver (.object "TuesdayKnew$Law") ∈ lw_tbl ∧ Cond.arrayOver (.object "TuesdayKnew$Tape") ∈ lw_tbl ∧ Cond.fieldLinkNest "TuesdayKnew$Actor" 36 "TuesdayKnew" "ABOVE" "[I" "TuesdayKnew" ∈ lw_tbl := by decide +kernel
theorem wst_N {s : State} {args : Array Value} (hts : ∀ w ∈ lw_tbl, w.before args s = true) : kNest s := by
  obtain ⟨n1, n2, n3, n4, n5, n6⟩ := tb_N
  exact ⟨va_Nw.of rfl (hts _ n1), va_Nw.of rfl (hts _ n2), va_Nw.of rfl (hts _ n3), va_Nw.of rfl (hts _ n4), va_Nw.of rfl (hts _ n5), va_Nw.of rfl (hts _ n6)⟩
theorem wst_A {s : State} {b : Nat} (hts : ∀ w ∈ lw_tbl, w.before #[Value.ref b] s = true) : kAO s := ⟨va_AO.of (hts _ tb_A.1), va_AO.of (hts _ tb_A.2.1)⟩
theorem wst_G {s : State} {b : Nat} {A : Nat → Prop} (hts : ∀ w ∈ lw_tbl, w.before #[Value.ref b] s = true) (hgv : Cond.before gvN #[Value.ref b] s = true) (hA : ∀ a : Nat, a < s.heap.size → ¬ A a) : ∃ tx tr sts : Nat → Nat, ∀ (D : va_G) (ct : Nat → ClassId) (ad : Nat → Nat), zGG (D, ct, ad, tx, tr, sts) A s s.heap := by
  have hs := flat_of_before _ hgv
  obtain ⟨⟨z1, z2⟩, ⟨z3, z4⟩, ⟨z5, z6⟩, z7, z8⟩ := tb_Z
  obtain ⟨t0, v0, T0⟩ := va_Tof (tm := .static "TuesdayKnew" "ABOVE" "[I") (ty := .int) (N := 7) (f := fun j => .int (zAbove j)) (by decide) (hs _ gv_A1.1) (va_eqt (hs _ gv_A1.2)) (fun j hj => va_eqt (hs _ (gv_A2 j hj))) hA
  obtain ⟨t1, v1, T1⟩ := va_Tof (tm := .static "TuesdayKnew$Actor" "BODIES" "[I") (ty := .int) (N := 21) (f := fun j => .int (zBodies j)) (by decide) (hs _ gv_B1.1) (va_eqt (hs _ gv_B1.2)) (fun j hj => va_eqt (hs _ (gv_B2 j hj))) hA
  obtain ⟨tx, tr, S, hS⟩ := vk_Sof (N := 7) (tm := zTm) (len := zLen) (byt := zByt) (by decide) (fun i hi => hs _ (gv_S1 i hi)) (fun i hi => hs _ (gv_S2 i hi)) (fun i hi => hs _ (gv_S3 i hi)) (fun i hi => hs _ (gv_S4 i hi)) (fun i hi j hj => hs _ (gv_S5 i hi j hj)) (fun i j hi hj ne => (gv_S6 i hi j hj ne).imp (hs _) (hs _)) hA
  exact ⟨tx, tr, fun k => if k = 0 then t0 else t1, fun D ct ad => ⟨va_Zref (hts _ z1) (hts _ z2) v0 hA, T0, va_Zref (hts _ z3) (hts _ z4) v1 hA, T1, va_Nw.of rfl (hts _ tb_A.2.2), S, fun i hi => vk_R.of (hts _ (tb_S i hi)) (hS i hi), va_Zof (hts _ z5) (hts _ z6) (va_eqi (hs _ gv_C.1)) hA, va_Zqof (hts _ z7) (hts _ z8) (hs _ gv_C.2) hA⟩⟩
