/-! explaining, silence -/
noncomputable abbrev zXp (I : zI) (A : List zCla) (tr : Nat) (bu ho lo : Nat → Nat) (E : Nat → Nat) (t : Nat) : Int32 := zExp (aHab (nI (bu t)) (I 1 (bu t)) (I 10 t) A) (aLast 2 A 999) (aLast 3 A 999) (ho t) (lo t) (E (bu t)) (I 7 (bu t) < 0) (∃ o, o < tr ∧ o ≠ t ∧ I 9 o = I 9 t ∧ I 10 o = I 10 t)
theorem zExp_n {oft la2 la3 hr lo E : Nat} {hdn fel : Prop} (h : ¬ E ≤ hr) : exA3 (pB (0 < oft)) (pB (50 ≤ oft)) (pB (la2 ≤ hr)) = zExp oft la2 la3 hr lo E hdn fel := by
  unfold zExp exV; rw [pB_f h]; rfl
theorem zExp_s {oft la2 la3 hr lo E : Nat} {hdn fel : Prop} (h : E ≤ hr) (h2 : ¬ (lo < la3 ∧ fel)) : exA5 (pB (0 < oft)) (pB (50 ≤ oft)) (pB (la2 ≤ hr)) (pB hdn) = zExp oft la2 la3 hr lo E hdn fel := by
  unfold zExp exV; rw [pB_t h, pB_f h2]; rfl
theorem zExp_f {oft la2 la3 hr lo E : Nat} {hdn fel : Prop} (h : E ≤ hr) (h2 : lo < la3 ∧ fel) : exA5 (pB (0 < oft)) (pB (50 ≤ oft)) (pB (la2 ≤ hr)) (pB hdn) ||| 64 = zExp oft la2 la3 hr lo E hdn fel := by
  unfold zExp exV; rw [pB_t h, pB_t h2]; rfl
theorem aHab_le {a l f : Int32} {A : List zCla} : aHab a l f A ≤ 100 := Nat.min_le_right _ _
theorem aLast_9 {w : Nat} {A : List zCla} (h : aOk A) : aLast w A 999 ≤ 999 := aLast_le (m := 999) (fun q hq => (h.2 q hq).2.1) (by decide)
theorem p2_8 {n : Nat} (h : n ≤ 8) : 2 ^ n ≤ 256 := Nat.le_trans (Nat.pow_le_pow_right (by decide) h) (by decide)
theorem nI_0eq {k : Nat} (hk : k < 2 ^ 31) : nI k = 0 ↔ k = 0 := nI_eq (b := 0) hk (by decide)
abbrev rm_X7_explaining : Room := { frames := 8, cells := 0, slots := 0, locals := 303 }
set_option maxRecDepth 100000 in
set_option maxHeartbeats 4000000 in
theorem k_X7_explaining (w : zW) (I : zI) (J : zJ) (n tr : Nat) (h : Nat) (A : List zCla) (bu ho lo : Nat → Nat) (E : Nat → Nat) (t : Nat) (hN : I 0 1 = nI n) (hn : n ≤ 8) (hT : I 5 8 = nI tr) (htr : tr ≤ 16) (hh : h < 7) (hH : I 5 2 = nI h) (hL : cLaw I h A) (hB : ∀ t, t < tr → I 9 t = nI (bu t) ∧ bu t < n) (hO : ∀ t, t < tr → I 11 t = nI (ho t) ∧ ho t ≤ 99) (hLo : ∀ t, t < tr → I 12 t = nI (lo t) ∧ lo t ≤ 99) (hE : ∀ a, a < n → I 26 a = nI (E a)) (hEf : ∀ a, E a ≤ zFar) (ht : t < tr) : zMet yX7_explaining cX7_explaining 5 (some .int) rm_X7_explaining w [.ref (zad w 0), .int (nI t)] I J (zpi (fun v I' J' => v = zXp I A tr bu ho lo E t ∧ I' = I ∧ J' = J)) := by
  refine zMet_of (by decide) (Nat.le_of_ble_eq_true rfl) (fun X C hm hr => ?_)
  refine z_sub (lv' := [(0, .ref (zad w 0)), (1, .int (nI t))]) [0, 1] rfl ?_
  have hbu := (hB t ht).2
  have hho := (hO t ht).2
  have hlo := (hLo t ht).2
  have hoft : aHab (nI (bu t)) (I 1 (bu t)) (I 10 t) A ≤ 100 := aHab_le
  have hl2 : aLast 2 A 999 ≤ 999 := aLast_9 hL.1
  have hl3 : aLast 3 A 999 ≤ 999 := aLast_9 hL.1
  have L132 : ∀ (v132_2 : Int32) (v132_3 : Int32) (v132_4 : Int32), (E (bu t) ≤ ho t) → v132_2 = nI (bu t) → v132_3 = nI (aHab (nI (bu t)) (I 1 (bu t)) (I 10 t) A) → v132_4 = exA5 (pB (0 < aHab (nI (bu t)) (I 1 (bu t)) (I 10 t) A)) (pB (50 ≤ aHab (nI (bu t)) (I 1 (bu t)) (I 10 t) A)) (pB (aLast 2 A 999 ≤ ho t)) (pB (I 7 (bu t) < 0)) → Z X w I J 132 [(0, .ref (zad w 0)), (1, .int (nI t)), (2, .int v132_2), (3, .int v132_3), (4, .int v132_4)] [] := by
    intro  v132_2 v132_3 v132_4 hk e_v132_2 e_v132_3 e_v132_4
    replace e_v132_2 := e_v132_2.symm; subst e_v132_2
    replace e_v132_3 := e_v132_3.symm; subst e_v132_3
    replace e_v132_4 := e_v132_4.symm; subst e_v132_4
    refine z_aload_n C dX7_explaining_132 rfl 0 rfl ?_
    refine z_getr C ff_X7_62 0 (by decide) sh0 rfl dX7_explaining_133 ?_
    refine z_getr C ff_X7_175 5 (by decide) sh5 rfl dX7_explaining_136 ?_
    refine z_iload_n C dX7_explaining_139 rfl 1 rfl ?_
    refine z_iald C 12 (by decide) sh12 t (by omega) (by decide) rfl (v := nI (lo t)) (hLo t ht).1 dX7_explaining_140 ?_
    refine z_aload_n C dX7_explaining_141 rfl 0 rfl ?_
    refine z_getr C ff_X7_62 0 (by decide) sh0 rfl dX7_explaining_142 ?_
    refine z_geth C ff_X7_104 5 (by decide) sh5 rfl (q := 47 + 5 * h) (zhd_h hH hh) dX7_explaining_145 ?_
    refine z_iconst C (v := 3) dX7_explaining_148 (by decide) ?_
    refine z_sipush C (v := 999) dX7_explaining_149 (by decide) ?_
    refine z_callVi C hm cl_X7_213 cv_X1_lastOf (47 + 5 * h) (shLn0 hh) (shL0 hh) ⟨_, _, rfl⟩ [.int 3, .int 999] rfl (rest := [.int (nI (lo t))]) rfl (k_X1_lastOf w _ _ h A 3 999 (3) (999) hh hL rfl rfl (by decide)) ⟨rfl, rfl, Nat.le_of_ble_eq_true rfl, Nat.le_of_ble_eq_true rfl⟩ (Nat.le_of_ble_eq_true rfl) dX7_explaining_152 (fun v_1 I_1 J_1 h_1 => ?_)
    obtain ⟨ev_1, ei_1, ej_1⟩ := h_1
    replace ev_1 := ev_1.symm; subst ev_1
    replace ei_1 := ei_1.symm; subst ei_1
    replace ej_1 := ej_1.symm; subst ej_1
    refine z_icmp_ge_n (lo t) (aLast 3 A 999) (tgt := 176) C rfl rfl (by omega) (by omega) dX7_explaining_155 (by decide) (fun c155 => ?_) (fun c155 => ?_)
    · skip
      refine z_iload C dX7_explaining_176 4 rfl ?_
      refine z_iret C hr rfl dX7_explaining_178 ?_
      refine ⟨_, rfl, ?_⟩
      exact ⟨zExp_s hk (fun q => by omega), rfl, rfl⟩
    · skip
      refine z_aload_n C dX7_explaining_158 rfl 0 rfl ?_
      refine z_getr C ff_X7_62 0 (by decide) sh0 rfl dX7_explaining_159 ?_
      refine z_iload_n C dX7_explaining_162 rfl 1 rfl ?_
      refine z_callVi C hm cl_X7_216 cv_X6_hasFellow 5 (by decide) sh5 ⟨_, _, rfl⟩ [.int (nI t)] rfl (rest := []) rfl (k_X6_hasFellow w _ _ tr t htr hT ht) ⟨rfl, rfl, Nat.le_of_ble_eq_true rfl, Nat.le_of_ble_eq_true rfl⟩ (Nat.le_of_ble_eq_true rfl) dX7_explaining_163 (fun v_2 I_2 J_2 h_2 => ?_)
      obtain ⟨ev_2, ei_2, ej_2⟩ := h_2
      replace ev_2 := ev_2.symm; subst ev_2
      replace ei_2 := ei_2.symm; subst ei_2
      replace ej_2 := ej_2.symm; subst ej_2
      refine z_ifeq_b (tgt := 176) C dX7_explaining_166 (by decide) (fun c166 => ?_) (fun c166 => ?_)
      · skip
        refine z_iload C dX7_explaining_176 4 rfl ?_
        refine z_iret C hr rfl dX7_explaining_178 ?_
        refine ⟨_, rfl, ?_⟩
        exact ⟨zExp_s hk (fun q => c166 q.2), rfl, rfl⟩
      · skip
        refine z_iload C dX7_explaining_169 4 rfl ?_
        refine z_bipush C (v := 64) dX7_explaining_171 (by decide) ?_
        refine z_ior C dX7_explaining_173 ?_
        refine z_istore C hm (lv' := [(4, .int ((exA5 (pB (0 < aHab (nI (bu t)) (I 1 (bu t)) (I 10 t) A)) (pB (50 ≤ aHab (nI (bu t)) (I 1 (bu t)) (I 10 t) A)) (pB (aLast 2 A 999 ≤ ho t)) (pB (I 7 (bu t) < 0))) ||| 64)), (0, .ref (zad w 0)), (1, .int (nI t)), (2, .int (nI (bu t))), (3, .int (nI (aHab (nI (bu t)) (I 1 (bu t)) (I 10 t) A)))]) dX7_explaining_174 (by decide) rfl ?_
        refine z_iload C dX7_explaining_176 0 rfl ?_
        refine z_iret C hr rfl dX7_explaining_178 ?_
        refine ⟨_, rfl, ?_⟩
        exact ⟨zExp_f hk ⟨by omega, c166⟩, rfl, rfl⟩
  have L83 : ∀ (v83_2 : Int32) (v83_3 : Int32) (v83_4 : Int32), v83_2 = nI (bu t) → v83_3 = nI (aHab (nI (bu t)) (I 1 (bu t)) (I 10 t) A) → v83_4 = exA3 (pB (0 < aHab (nI (bu t)) (I 1 (bu t)) (I 10 t) A)) (pB (50 ≤ aHab (nI (bu t)) (I 1 (bu t)) (I 10 t) A)) (pB (aLast 2 A 999 ≤ ho t)) → Z X w I J 83 [(0, .ref (zad w 0)), (1, .int (nI t)), (2, .int v83_2), (3, .int v83_3), (4, .int v83_4)] [] := by
    intro  v83_2 v83_3 v83_4  e_v83_2 e_v83_3 e_v83_4
    replace e_v83_2 := e_v83_2.symm; subst e_v83_2
    replace e_v83_3 := e_v83_3.symm; subst e_v83_3
    replace e_v83_4 := e_v83_4.symm; subst e_v83_4
    refine z_aload_n C dX7_explaining_83 rfl 0 rfl ?_
    refine z_getr C ff_X7_31 0 (by decide) sh0 rfl dX7_explaining_84 ?_
    refine z_iload_n C dX7_explaining_87 rfl 2 rfl ?_
    refine z_aload_n C dX7_explaining_88 rfl 0 rfl ?_
    refine z_getr C ff_X7_62 0 (by decide) sh0 rfl dX7_explaining_89 ?_
    refine z_getr C ff_X7_172 5 (by decide) sh5 rfl dX7_explaining_92 ?_
    refine z_iload_n C dX7_explaining_95 rfl 1 rfl ?_
    refine z_iald C 11 (by decide) sh11 t (by omega) (by decide) rfl (v := nI (ho t)) (hO t ht).1 dX7_explaining_96 ?_
    refine z_callVi C hm cl_X7_146 cv_X3_knownBy 23 (by decide) sh23 ⟨_, _, rfl⟩ [.int (nI (bu t)), .int (nI (ho t))] rfl (rest := []) rfl (k_X3_knownBy w _ _ (E (bu t)) (bu t) (ho t) (by omega) (hE _ hbu) (hEf _) hho) ⟨rfl, rfl, Nat.le_of_ble_eq_true rfl, Nat.le_of_ble_eq_true rfl⟩ (Nat.le_of_ble_eq_true rfl) dX7_explaining_97 (fun v_3 I_3 J_3 h_3 => ?_)
    obtain ⟨ev_3, ei_3, ej_3⟩ := h_3
    replace ev_3 := ev_3.symm; subst ev_3
    replace ei_3 := ei_3.symm; subst ei_3
    replace ej_3 := ej_3.symm; subst ej_3
    refine z_ifne_b (tgt := 106) C dX7_explaining_100 (by decide) (fun c100 => ?_) (fun c100 => ?_)
    · skip
      have hk := c100
      refine z_iload C dX7_explaining_106 4 rfl ?_
      refine z_bipush C (v := 8) dX7_explaining_108 (by decide) ?_
      refine z_ior C dX7_explaining_110 ?_
      refine z_istore C hm (lv' := [(4, .int ((exA3 (pB (0 < aHab (nI (bu t)) (I 1 (bu t)) (I 10 t) A)) (pB (50 ≤ aHab (nI (bu t)) (I 1 (bu t)) (I 10 t) A)) (pB (aLast 2 A 999 ≤ ho t))) ||| 8)), (0, .ref (zad w 0)), (1, .int (nI t)), (2, .int (nI (bu t))), (3, .int (nI (aHab (nI (bu t)) (I 1 (bu t)) (I 10 t) A)))]) dX7_explaining_111 (by decide) rfl ?_
      refine z_aload_n C dX7_explaining_113 rfl 1 rfl ?_
      refine z_getr C ff_X7_62 0 (by decide) sh0 rfl dX7_explaining_114 ?_
      refine z_getr C ff_X7_87 5 (by decide) sh5 rfl dX7_explaining_117 ?_
      refine z_iload_n C dX7_explaining_120 rfl 3 rfl ?_
      refine z_iald C 7 (by decide) sh7 (bu t) (by omega) (by decide) rfl (v := I 7 (bu t)) rfl dX7_explaining_121 ?_
      refine z_if_ge (tgt := 132) C dX7_explaining_122 (by decide) (fun c122 => ?_) (fun c122 => ?_)
      · skip
        replace c122 : ¬ I 7 (bu t) < 0 := fun q => absurd c122 (Int32.not_le.mpr q)
        exact z_sub [1, 2, 3, 4, 0] rfl (L132  _ _ _ c100 rfl rfl (by rw [pB_f c122]; rfl))
      · skip
        replace c122 : I 7 (bu t) < 0 := Int32.not_le.mp c122
        refine z_iload C dX7_explaining_125 0 rfl ?_
        refine z_bipush C (v := 32) dX7_explaining_127 (by decide) ?_
        refine z_ior C dX7_explaining_129 ?_
        refine z_istore C hm (lv' := [(4, .int (((exA3 (pB (0 < aHab (nI (bu t)) (I 1 (bu t)) (I 10 t) A)) (pB (50 ≤ aHab (nI (bu t)) (I 1 (bu t)) (I 10 t) A)) (pB (aLast 2 A 999 ≤ ho t))) ||| 8) ||| 32)), (0, .ref (zad w 0)), (1, .int (nI t)), (2, .int (nI (bu t))), (3, .int (nI (aHab (nI (bu t)) (I 1 (bu t)) (I 10 t) A)))]) dX7_explaining_130 (by decide) rfl ?_
        exact z_sub [1, 2, 3, 4, 0] rfl (L132  _ _ _ c100 rfl rfl (by rw [pB_t c122]; rfl))
    · skip
      refine z_iload C dX7_explaining_103 4 rfl ?_
      refine z_iret C hr rfl dX7_explaining_105 ?_
      refine ⟨_, rfl, ?_⟩
      exact ⟨zExp_n c100, rfl, rfl⟩
  have L51 : ∀ (v51_2 : Int32) (v51_3 : Int32) (v51_4 : Int32), v51_2 = nI (bu t) → v51_3 = nI (aHab (nI (bu t)) (I 1 (bu t)) (I 10 t) A) → v51_4 = exA2 (pB (0 < aHab (nI (bu t)) (I 1 (bu t)) (I 10 t) A)) (pB (50 ≤ aHab (nI (bu t)) (I 1 (bu t)) (I 10 t) A)) → Z X w I J 51 [(0, .ref (zad w 0)), (1, .int (nI t)), (2, .int v51_2), (3, .int v51_3), (4, .int v51_4)] [] := by
    intro  v51_2 v51_3 v51_4  e_v51_2 e_v51_3 e_v51_4
    replace e_v51_2 := e_v51_2.symm; subst e_v51_2
    replace e_v51_3 := e_v51_3.symm; subst e_v51_3
    replace e_v51_4 := e_v51_4.symm; subst e_v51_4
    refine z_aload_n C dX7_explaining_51 rfl 0 rfl ?_
    refine z_getr C ff_X7_62 0 (by decide) sh0 rfl dX7_explaining_52 ?_
    refine z_getr C ff_X7_172 5 (by decide) sh5 rfl dX7_explaining_55 ?_
    refine z_iload_n C dX7_explaining_58 rfl 1 rfl ?_
    refine z_iald C 11 (by decide) sh11 t (by omega) (by decide) rfl (v := nI (ho t)) (hO t ht).1 dX7_explaining_59 ?_
    refine z_aload_n C dX7_explaining_60 rfl 0 rfl ?_
    refine z_getr C ff_X7_62 0 (by decide) sh0 rfl dX7_explaining_61 ?_
    refine z_geth C ff_X7_104 5 (by decide) sh5 rfl (q := 47 + 5 * h) (zhd_h hH hh) dX7_explaining_64 ?_
    refine z_iconst C (v := 2) dX7_explaining_67 (by decide) ?_
    refine z_sipush C (v := 999) dX7_explaining_68 (by decide) ?_
    refine z_callVi C hm cl_X7_213 cv_X1_lastOf (47 + 5 * h) (shLn0 hh) (shL0 hh) ⟨_, _, rfl⟩ [.int 2, .int 999] rfl (rest := [.int (nI (ho t))]) rfl (k_X1_lastOf w _ _ h A 2 999 (2) (999) hh hL rfl rfl (by decide)) ⟨rfl, rfl, Nat.le_of_ble_eq_true rfl, Nat.le_of_ble_eq_true rfl⟩ (Nat.le_of_ble_eq_true rfl) dX7_explaining_71 (fun v_4 I_4 J_4 h_4 => ?_)
    obtain ⟨ev_4, ei_4, ej_4⟩ := h_4
    replace ev_4 := ev_4.symm; subst ev_4
    replace ei_4 := ei_4.symm; subst ei_4
    replace ej_4 := ej_4.symm; subst ej_4
    refine z_icmp_lt_n (ho t) (aLast 2 A 999) (tgt := 83) C rfl rfl (by omega) (by omega) dX7_explaining_74 (by decide) (fun c74 => ?_) (fun c74 => ?_)
    · skip
      exact z_sub [0, 1, 2, 3, 4] rfl (L83  _ _ _  rfl rfl (by rw [pB_f (show ¬ aLast 2 A 999 ≤ ho t by omega)]; rfl))
    · skip
      refine z_iload C dX7_explaining_77 4 rfl ?_
      refine z_iconst C (v := 4) dX7_explaining_79 (by decide) ?_
      refine z_ior C dX7_explaining_80 ?_
      refine z_istore C hm (lv' := [(4, .int ((exA2 (pB (0 < aHab (nI (bu t)) (I 1 (bu t)) (I 10 t) A)) (pB (50 ≤ aHab (nI (bu t)) (I 1 (bu t)) (I 10 t) A))) ||| 4)), (0, .ref (zad w 0)), (1, .int (nI t)), (2, .int (nI (bu t))), (3, .int (nI (aHab (nI (bu t)) (I 1 (bu t)) (I 10 t) A)))]) dX7_explaining_81 (by decide) rfl ?_
      exact z_sub [1, 2, 3, 4, 0] rfl (L83  _ _ _  rfl rfl (by rw [pB_t (show aLast 2 A 999 ≤ ho t by omega)]; rfl))
  have L38 : ∀ (v38_2 : Int32) (v38_3 : Int32) (v38_4 : Int32), v38_2 = nI (bu t) → v38_3 = nI (aHab (nI (bu t)) (I 1 (bu t)) (I 10 t) A) → v38_4 = exA1 (pB (0 < aHab (nI (bu t)) (I 1 (bu t)) (I 10 t) A)) → Z X w I J 38 [(0, .ref (zad w 0)), (1, .int (nI t)), (2, .int v38_2), (3, .int v38_3), (4, .int v38_4)] [] := by
    intro  v38_2 v38_3 v38_4  e_v38_2 e_v38_3 e_v38_4
    replace e_v38_2 := e_v38_2.symm; subst e_v38_2
    replace e_v38_3 := e_v38_3.symm; subst e_v38_3
    replace e_v38_4 := e_v38_4.symm; subst e_v38_4
    refine z_iload_n C dX7_explaining_38 rfl 3 rfl ?_
    refine z_bipush C (v := 50) dX7_explaining_39 (by decide) ?_
    refine z_icmp_lt_n (aHab (nI (bu t)) (I 1 (bu t)) (I 10 t) A) 50 (tgt := 51) C rfl rfl (by omega) (by omega) dX7_explaining_41 (by decide) (fun c41 => ?_) (fun c41 => ?_)
    · skip
      exact z_sub [0, 1, 2, 3, 4] rfl (L51  _ _ _  rfl rfl (by rw [pB_f (show ¬ 50 ≤ aHab (nI (bu t)) (I 1 (bu t)) (I 10 t) A by omega)]; rfl))
    · skip
      refine z_iload C dX7_explaining_44 4 rfl ?_
      refine z_bipush C (v := 16) dX7_explaining_46 (by decide) ?_
      refine z_ior C dX7_explaining_48 ?_
      refine z_istore C hm (lv' := [(4, .int ((exA1 (pB (0 < aHab (nI (bu t)) (I 1 (bu t)) (I 10 t) A))) ||| 16)), (0, .ref (zad w 0)), (1, .int (nI t)), (2, .int (nI (bu t))), (3, .int (nI (aHab (nI (bu t)) (I 1 (bu t)) (I 10 t) A)))]) dX7_explaining_49 (by decide) rfl ?_
      exact z_sub [1, 2, 3, 4, 0] rfl (L51  _ _ _  rfl rfl (by rw [pB_t (show 50 ≤ aHab (nI (bu t)) (I 1 (bu t)) (I 10 t) A by omega)]; rfl))
  refine z_aload_n C dX7_explaining_0 rfl 0 rfl ?_
  refine z_getr C ff_X7_62 0 (by decide) sh0 rfl dX7_explaining_1 ?_
  refine z_getr C ff_X7_166 5 (by decide) sh5 rfl dX7_explaining_4 ?_
  refine z_iload_n C dX7_explaining_7 rfl 1 rfl ?_
  refine z_iald C 9 (by decide) sh9 t (by omega) (by decide) rfl (v := nI (bu t)) (hB t ht).1 dX7_explaining_8 ?_
  refine z_istore_n C hm (lv' := [(2, .int (nI (bu t))), (0, .ref (zad w 0)), (1, .int (nI t))]) dX7_explaining_9 rfl (by decide) rfl ?_
  refine z_aload_n C dX7_explaining_10 rfl 1 rfl ?_
  refine z_iload_n C dX7_explaining_11 rfl 0 rfl ?_
  refine z_aload_n C dX7_explaining_12 rfl 1 rfl ?_
  refine z_getr C ff_X7_62 0 (by decide) sh0 rfl dX7_explaining_13 ?_
  refine z_getr C ff_X7_169 5 (by decide) sh5 rfl dX7_explaining_16 ?_
  refine z_iload_n C dX7_explaining_19 rfl 2 rfl ?_
  refine z_iald C 10 (by decide) sh10 t (by omega) (by decide) rfl (v := I 10 t) rfl dX7_explaining_20 ?_
  refine z_callVi C hm cl_X7_115 cv_X7_habitOf 0 (by decide) sh0 ⟨_, _, rfl⟩ [.int (nI (bu t)), .int (I 10 t)] rfl (rest := []) rfl (k_X7_habitOf w _ _ h A (bu t) (I 10 t) (by omega) hh hH hL) ⟨rfl, rfl, Nat.le_of_ble_eq_true rfl, Nat.le_of_ble_eq_true rfl⟩ (Nat.le_of_ble_eq_true rfl) dX7_explaining_21 (fun v_5 I_5 J_5 h_5 => ?_)
  obtain ⟨ev_5, ei_5, ej_5⟩ := h_5
  replace ev_5 := ev_5.symm; subst ev_5
  replace ei_5 := ei_5.symm; subst ei_5
  replace ej_5 := ej_5.symm; subst ej_5
  refine z_istore_n C hm (lv' := [(3, .int (nI (aHab (nI (bu t)) (I 1 (bu t)) (I 10 t) A))), (2, .int (nI (bu t))), (0, .ref (zad w 0)), (1, .int (nI t))]) dX7_explaining_24 rfl (by decide) rfl ?_
  refine z_iconst C (v := 1) dX7_explaining_25 (by decide) ?_
  refine z_istore C hm (lv' := [(4, .int 1), (3, .int (nI (aHab (nI (bu t)) (I 1 (bu t)) (I 10 t) A))), (2, .int (nI (bu t))), (0, .ref (zad w 0)), (1, .int (nI t))]) dX7_explaining_26 (by decide) rfl ?_
  refine z_iload_n C dX7_explaining_28 rfl 1 rfl ?_
  refine z_if_le (tgt := 38) C dX7_explaining_29 (by decide) (fun c29 => ?_) (fun c29 => ?_)
  · skip
    exact z_sub [3, 4, 2, 1, 0] rfl (L38  _ _ _  rfl rfl (by rw [pB_f (fun q => by have := (nI_le0 (by omega)).mp c29; omega)]; rfl))
  · skip
    refine z_iload C dX7_explaining_32 0 rfl ?_
    refine z_iconst C (v := 2) dX7_explaining_34 (by decide) ?_
    refine z_ior C dX7_explaining_35 ?_
    refine z_istore C hm (lv' := [(4, .int (1 ||| 2)), (3, .int (nI (aHab (nI (bu t)) (I 1 (bu t)) (I 10 t) A))), (2, .int (nI (bu t))), (0, .ref (zad w 0)), (1, .int (nI t))]) dX7_explaining_36 (by decide) rfl ?_
    exact z_sub [3, 4, 2, 1, 0] rfl (L38  _ _ _  rfl rfl (by rw [pB_t (Nat.pos_of_ne_zero (fun q => c29 ((nI_le0 (by omega)).mpr q)))]; rfl))
abbrev rm_X7_of : Room := { frames := 10, cells := 0, slots := 0, locals := 348 }
set_option maxRecDepth 100000 in
set_option maxHeartbeats 4000000 in
theorem k_X7_of (w : zW) (I : zI) (J : zJ) (n tr : Nat) (h : Nat) (A : List zCla) (hd : Nat → Option Nat) (bu ho lo : Nat → Nat) (x : Int32) (wh : Int32) (hN : I 0 1 = nI n) (hn : n ≤ 8) (hT : I 5 8 = nI tr) (htr : tr ≤ 16) (hh : h < 7) (hH : I 5 2 = nI h) (hL : cLaw I h A) (hd7 : ∀ a, a < n → I 7 a = oI (hd a)) (hd99 : ∀ a k, hd a = some k → k ≤ 99) (hB : ∀ t, t < tr → I 9 t = nI (bu t) ∧ bu t < n) (hO : ∀ t, t < tr → I 11 t = nI (ho t) ∧ ho t ≤ 99) (hLo : ∀ t, t < tr → I 12 t = nI (lo t) ∧ lo t ≤ 99) : zMet yX7_of cX7_of 3 (some .int) rm_X7_of w [.ref (zad w 0), .int x, .int wh] I J (zpi (fun v I' J' => v = cif (zin x tr) (zOf wh (I 8 (zn x)) (I 9 (zn x)) (I 10 (zn x)) (I 11 (zn x)) (I 12 (zn x)) (zXp I A tr bu ho lo (ern 0 n (I 6) A hd) (zn x))) (-1) ∧ J' = J ∧ frS I' I)) := by
  refine zMet_of (by decide) (Nat.le_of_ble_eq_true rfl) (fun X C hm hr => ?_)
  refine z_sub (lv' := [(0, .ref (zad w 0)), (1, .int x), (2, .int wh)]) [0, 1, 2] rfl ?_
  refine z_aload_n C dX7_of_0 rfl 0 rfl ?_
  refine z_iload_n C dX7_of_1 rfl 1 rfl ?_
  refine z_callVi C hm cl_X7_160 cv_X7_isTrade 0 (by decide) sh0 ⟨_, _, rfl⟩ [.int x] rfl (rest := []) rfl (k_X7_isTrade w _ _ tr x hT htr) ⟨rfl, rfl, Nat.le_of_ble_eq_true rfl, Nat.le_of_ble_eq_true rfl⟩ (Nat.le_of_ble_eq_true rfl) dX7_of_2 (fun v_1 I_1 J_1 h_1 => ?_)
  obtain ⟨ev_1, ei_1, ej_1⟩ := h_1
  replace ev_1 := ev_1.symm; subst ev_1
  replace ei_1 := ei_1.symm; subst ei_1
  replace ej_1 := ej_1.symm; subst ej_1
  refine z_ifne_b (tgt := 10) C dX7_of_5 (by decide) (fun c5 => ?_) (fun c5 => ?_)
  · skip
    obtain ⟨t, ht, rfl⟩ := c5
    refine z_iload_n C dX7_of_10 rfl 2 rfl ?_
    by_cases c11_0 : wh = 0
    · skip
      refine z_tableIn (tgt := 48) C dX7_of_11 (by rw [c11_0]; decide) (by rw [c11_0]; decide) (off := 37) (by rw [c11_0]; decide) (by decide) ?_
      refine z_aload_n C dX7_of_48 rfl 0 rfl ?_
      refine z_getr C ff_X7_62 0 (by decide) sh0 rfl dX7_of_49 ?_
      refine z_getr C ff_X7_163 5 (by decide) sh5 rfl dX7_of_52 ?_
      refine z_iload_n C dX7_of_55 rfl 1 rfl ?_
      refine z_iald C 8 (by decide) sh8 t (by omega) (by decide) rfl (v := I 8 t) rfl dX7_of_56 ?_
      refine z_iret C hr rfl dX7_of_57 ?_
      refine ⟨_, rfl, ?_⟩
      exact ⟨by rw [cif_t ⟨t, ht, rfl⟩, zn_n (by omega), c11_0]; rfl, rfl, frS_id⟩
    by_cases c11_1 : wh = 1
    · skip
      refine z_tableIn (tgt := 58) C dX7_of_11 (by rw [c11_1]; decide) (by rw [c11_1]; decide) (off := 47) (by rw [c11_1]; decide) (by decide) ?_
      refine z_aload_n C dX7_of_58 rfl 0 rfl ?_
      refine z_getr C ff_X7_62 0 (by decide) sh0 rfl dX7_of_59 ?_
      refine z_getr C ff_X7_166 5 (by decide) sh5 rfl dX7_of_62 ?_
      refine z_iload_n C dX7_of_65 rfl 1 rfl ?_
      refine z_iald C 9 (by decide) sh9 t (by omega) (by decide) rfl (v := I 9 t) rfl dX7_of_66 ?_
      refine z_iret C hr rfl dX7_of_67 ?_
      refine ⟨_, rfl, ?_⟩
      exact ⟨by rw [cif_t ⟨t, ht, rfl⟩, zn_n (by omega), c11_1]; rfl, rfl, frS_id⟩
    by_cases c11_2 : wh = 2
    · skip
      refine z_tableIn (tgt := 68) C dX7_of_11 (by rw [c11_2]; decide) (by rw [c11_2]; decide) (off := 57) (by rw [c11_2]; decide) (by decide) ?_
      refine z_aload_n C dX7_of_68 rfl 0 rfl ?_
      refine z_getr C ff_X7_62 0 (by decide) sh0 rfl dX7_of_69 ?_
      refine z_getr C ff_X7_169 5 (by decide) sh5 rfl dX7_of_72 ?_
      refine z_iload_n C dX7_of_75 rfl 1 rfl ?_
      refine z_iald C 10 (by decide) sh10 t (by omega) (by decide) rfl (v := I 10 t) rfl dX7_of_76 ?_
      refine z_iret C hr rfl dX7_of_77 ?_
      refine ⟨_, rfl, ?_⟩
      exact ⟨by rw [cif_t ⟨t, ht, rfl⟩, zn_n (by omega), c11_2]; rfl, rfl, frS_id⟩
    by_cases c11_3 : wh = 3
    · skip
      refine z_tableIn (tgt := 78) C dX7_of_11 (by rw [c11_3]; decide) (by rw [c11_3]; decide) (off := 67) (by rw [c11_3]; decide) (by decide) ?_
      refine z_aload_n C dX7_of_78 rfl 0 rfl ?_
      refine z_getr C ff_X7_62 0 (by decide) sh0 rfl dX7_of_79 ?_
      refine z_getr C ff_X7_172 5 (by decide) sh5 rfl dX7_of_82 ?_
      refine z_iload_n C dX7_of_85 rfl 1 rfl ?_
      refine z_iald C 11 (by decide) sh11 t (by omega) (by decide) rfl (v := I 11 t) rfl dX7_of_86 ?_
      refine z_iret C hr rfl dX7_of_87 ?_
      refine ⟨_, rfl, ?_⟩
      exact ⟨by rw [cif_t ⟨t, ht, rfl⟩, zn_n (by omega), c11_3]; rfl, rfl, frS_id⟩
    by_cases c11_4 : wh = 4
    · skip
      refine z_tableIn (tgt := 88) C dX7_of_11 (by rw [c11_4]; decide) (by rw [c11_4]; decide) (off := 77) (by rw [c11_4]; decide) (by decide) ?_
      refine z_aload_n C dX7_of_88 rfl 0 rfl ?_
      refine z_getr C ff_X7_62 0 (by decide) sh0 rfl dX7_of_89 ?_
      refine z_getr C ff_X7_175 5 (by decide) sh5 rfl dX7_of_92 ?_
      refine z_iload_n C dX7_of_95 rfl 1 rfl ?_
      refine z_iald C 12 (by decide) sh12 t (by omega) (by decide) rfl (v := I 12 t) rfl dX7_of_96 ?_
      refine z_iret C hr rfl dX7_of_97 ?_
      refine ⟨_, rfl, ?_⟩
      exact ⟨by rw [cif_t ⟨t, ht, rfl⟩, zn_n (by omega), c11_4]; rfl, rfl, frS_id⟩
    by_cases c11_5 : wh = 5
    · skip
      refine z_tableIn (tgt := 98) C dX7_of_11 (by rw [c11_5]; decide) (by rw [c11_5]; decide) (off := 87) (by rw [c11_5]; decide) (by decide) ?_
      refine z_aload_n C dX7_of_98 rfl 0 rfl ?_
      refine z_callVv C hm cl_X7_118 cv_X7_spreadAll 0 (by decide) sh0 ⟨_, _, rfl⟩ [] rfl (rest := []) rfl (k_X7_spreadAll w _ _ n h A hd  (by exact hN) hn hh (by exact hH) hL hd7 hd99) ⟨rfl, rfl, Nat.le_of_ble_eq_true rfl, Nat.le_of_ble_eq_true rfl⟩ (Nat.le_of_ble_eq_true rfl) dX7_of_99 (fun I_2 J_2 h_2 => ?_)
      obtain ⟨eJ_2, H_2, Gr_2, R_2, Q_2, eI_2, hH_2, hG_2, hR_2⟩ := h_2
      replace eJ_2 := eJ_2.symm; subst eJ_2
      subst eI_2
      refine z_aload_n C dX7_of_102 rfl 0 rfl ?_
      refine z_iload_n C dX7_of_103 rfl 1 rfl ?_
      refine z_callVi C hm cl_X7_178 cv_X7_explaining 0 (by decide) sh0 ⟨_, _, rfl⟩ [.int (nI t)] rfl (rest := []) rfl (k_X7_explaining w _ _ n tr h A bu ho lo (ern 0 n (I 6) A hd) t (by exact hN) hn (by exact hT) htr hh (by exact hH) (cLaw_z (Or.inl (by decide)) hh (cLaw_z (Or.inl (by decide)) hh (cLaw_z (Or.inl (by decide)) hh (cLaw_z (Or.inl (by decide)) hh (cLaw_z (Or.inl (by decide)) hh hL))))) (by exact hB) (by exact hO) (by exact hLo) hR_2 (fun a => ern_le hd99 a) ht) ⟨rfl, rfl, Nat.le_of_ble_eq_true rfl, Nat.le_of_ble_eq_true rfl⟩ (Nat.le_of_ble_eq_true rfl) dX7_of_104 (fun v_3 I_3 J_3 h_3 => ?_)
      obtain ⟨ev_3, ei_3, ej_3⟩ := h_3
      replace ev_3 := ev_3.symm; subst ev_3
      replace ei_3 := ei_3.symm; subst ei_3
      replace ej_3 := ej_3.symm; subst ej_3
      refine z_iret C hr rfl dX7_of_107 ?_
      refine ⟨_, rfl, ?_⟩
      exact ⟨by rw [cif_t ⟨t, ht, rfl⟩, zn_n (by omega), c11_5]; rfl, rfl, (by intro zk hzk; simp only [zup]; rw [if_neg (by omega), if_neg (by omega), if_neg (by omega), if_neg (by omega), if_neg (by omega)])⟩
    refine z_tableOut (tgt := 108) C dX7_of_11 (by have h0 := lv_neT c11_0 (a := 0) (by decide); have h1 := lv_neT c11_1 (a := 1) (by decide); have h2 := lv_neT c11_2 (a := 2) (by decide); have h3 := lv_neT c11_3 (a := 3) (by decide); have h4 := lv_neT c11_4 (a := 4) (by decide); have h5 := lv_neT c11_5 (a := 5) (by decide); omega) (by decide) ?_
    refine z_iconst C (v := -1) dX7_of_108 (by decide) ?_
    refine z_iret C hr rfl dX7_of_109 ?_
    refine ⟨_, rfl, ?_⟩
    exact ⟨by rw [cif_t ⟨t, ht, rfl⟩]; unfold zOf; rw [if_neg c11_0, if_neg c11_1, if_neg c11_2, if_neg c11_3, if_neg c11_4, if_neg c11_5], rfl, frS_id⟩
  · skip
    refine z_iconst C (v := -1) dX7_of_8 (by decide) ?_
    refine z_iret C hr rfl dX7_of_9 ?_
    refine ⟨_, rfl, ?_⟩
    exact ⟨by rw [cif_f c5], rfl, frS_id⟩
noncomputable def pcif (c p q : Prop) : Prop := @ite Prop c (Classical.propDecidable c) p q
theorem pcif_t {c p q : Prop} (h : c) : pcif c p q = p := @if_pos c (Classical.propDecidable c) h _ _ _
theorem pcif_f {c p q : Prop} (h : ¬ c) : pcif c p q = q := @if_neg c (Classical.propDecidable c) h _ _ _
abbrev rm_X7_sure : Room := { frames := 10, cells := 0, slots := 0, locals := 348 }
set_option maxRecDepth 100000 in
set_option maxHeartbeats 4000000 in
theorem k_X7_sure (w : zW) (I : zI) (J : zJ) (n tr : Nat) (h : Nat) (A : List zCla) (hd : Nat → Option Nat) (bu ho lo : Nat → Nat) (wh : Int32) (hN : I 0 1 = nI n) (hn : n ≤ 8) (hT : I 5 8 = nI tr) (htr : tr ≤ 16) (hh : h < 7) (hH : I 5 2 = nI h) (hL : cLaw I h A) (hd7 : ∀ a, a < n → I 7 a = oI (hd a)) (hd99 : ∀ a k, hd a = some k → k ≤ 99) (hB : ∀ t, t < tr → I 9 t = nI (bu t) ∧ bu t < n) (hO : ∀ t, t < tr → I 11 t = nI (ho t) ∧ ho t ≤ 99) (hLo : ∀ t, t < tr → I 12 t = nI (lo t) ∧ lo t ≤ 99) : zMet yX7_sure cX7_sure 6 (some .int) rm_X7_sure w [.ref (zad w 0), .int wh] I J (zpi (fun v I' J' => v = cif (wh = 0 ∨ wh = 1) (nI (zset (fun t => pB (pcif (wh = 0) ((zXp I A tr bu ho lo (ern 0 n (I 6) A hd) t &&& 14) = 8) ((zXp I A tr bu ho lo (ern 0 n (I 6) A hd) t >>> (I 8 t &&& 31) &&& 1) = 0))) tr)) (-1) ∧ J' = J ∧ frS I' I)) := by
  refine zMet_of (by decide) (Nat.le_of_ble_eq_true rfl) (fun X C hm hr => ?_)
  refine z_sub (lv' := [(0, .ref (zad w 0)), (1, .int wh)]) [0, 1] rfl ?_
  refine z_iload_n C dX7_sure_0 rfl 1 rfl ?_
  refine z_if_eq (tgt := 11) C dX7_sure_1 (by decide) (fun c1 => ?_) (fun c1 => ?_)
  · skip
    refine z_aload_n C dX7_sure_11 rfl 0 rfl ?_
    refine z_callVv C hm cl_X7_118 cv_X7_spreadAll 0 (by decide) sh0 ⟨_, _, rfl⟩ [] rfl (rest := []) rfl (k_X7_spreadAll w _ _ n h A hd  (by exact hN) hn hh (by exact hH) hL hd7 hd99) ⟨rfl, rfl, Nat.le_of_ble_eq_true rfl, Nat.le_of_ble_eq_true rfl⟩ (Nat.le_of_ble_eq_true rfl) dX7_sure_12 (fun I_1 J_1 h_1 => ?_)
    obtain ⟨eJ_1, H_1, Gr_1, R_1, Q_1, eI_1, hH_1, hG_1, hR_1⟩ := h_1
    replace eJ_1 := eJ_1.symm; subst eJ_1
    subst eI_1
    refine z_iconst C (v := 0) dX7_sure_15 (by decide) ?_
    refine z_istore_n C hm (lv' := [(2, .int 0), (0, .ref (zad w 0)), (1, .int wh)]) dX7_sure_16 rfl (by decide) rfl ?_
    refine z_iconst C (v := 0) dX7_sure_17 (by decide) ?_
    refine z_istore_n C hm (lv' := [(3, .int 0), (2, .int 0), (0, .ref (zad w 0)), (1, .int wh)]) dX7_sure_18 rfl (by decide) rfl ?_
    have L19 : ∀ (d : Nat) (a : Nat) (v19_2 : Int32) (v19_3 : Int32), (tr - a) < d → (a ≤ tr) → v19_2 = nI (zset (fun t => pB (pcif (wh = 0) ((zXp I A tr bu ho lo (ern 0 n (I 6) A hd) t &&& 14) = 8) ((zXp I A tr bu ho lo (ern 0 n (I 6) A hd) t >>> (I 8 t &&& 31) &&& 1) = 0))) a) → v19_3 = nI a → Z X w (zup (zup (zup (zup (zup I 23 (upd (upd (I 23) 6 (nI n)) 7 (nI (aSteps A)))) 25 H_1) 24 Gr_1) 26 R_1) 27 Q_1) J 19 [(0, .ref (zad w 0)), (1, .int wh), (2, .int v19_2), (3, .int v19_3)] [] := by
      intro d
      induction d with
      | zero => intro a v19_2 v19_3 hd; exact absurd hd (Nat.not_lt_zero _)
      | succ d ih19 => 
        intro a v19_2 v19_3 hd19 ha e_v19_2 e_v19_3
        replace e_v19_2 := e_v19_2.symm; subst e_v19_2
        replace e_v19_3 := e_v19_3.symm; subst e_v19_3
        refine z_iload_n C dX7_sure_19 rfl 3 rfl ?_
        refine z_aload_n C dX7_sure_20 rfl 0 rfl ?_
        refine z_getr C ff_X7_62 0 (by decide) sh0 rfl dX7_sure_21 ?_
        refine z_geti C ff_X7_153 5 (by decide) sh5 rfl (v := nI tr) (by first | exact hT | (simp [zup, zupJ, upd, vp_updL]; exact hT)) dX7_sure_24 ?_
        refine z_icmp_ge_n a tr (tgt := 90) C rfl rfl (by omega) (by omega) dX7_sure_27 (by decide) (fun c27 => ?_) (fun c27 => ?_)
        · skip
          have hae : a = tr := by omega
          refine z_iload_n C dX7_sure_90 rfl 2 rfl ?_
          refine z_iret C hr rfl dX7_sure_91 ?_
          refine ⟨_, rfl, ?_⟩
          exact ⟨by rw [cif_t (Or.inl c1), hae], rfl, (by intro zk hzk; simp only [zup]; rw [if_neg (by omega), if_neg (by omega), if_neg (by omega), if_neg (by omega), if_neg (by omega)])⟩
        · skip
          refine z_aload_n C dX7_sure_30 rfl 0 rfl ?_
          refine z_iload_n C dX7_sure_31 rfl 3 rfl ?_
          refine z_callVi C hm cl_X7_178 cv_X7_explaining 0 (by decide) sh0 ⟨_, _, rfl⟩ [.int (nI a)] rfl (rest := []) rfl (k_X7_explaining w _ _ n tr h A bu ho lo (ern 0 n (I 6) A hd) a (by exact hN) hn (by exact hT) htr hh (by exact hH) (cLaw_z (Or.inl (by decide)) hh (cLaw_z (Or.inl (by decide)) hh (cLaw_z (Or.inl (by decide)) hh (cLaw_z (Or.inl (by decide)) hh (cLaw_z (Or.inl (by decide)) hh hL))))) (by exact hB) (by exact hO) (by exact hLo) hR_1 (fun a => ern_le hd99 a) (by omega)) ⟨rfl, rfl, Nat.le_of_ble_eq_true rfl, Nat.le_of_ble_eq_true rfl⟩ (Nat.le_of_ble_eq_true rfl) dX7_sure_32 (fun v_2 I_2 J_2 h_2 => ?_)
          obtain ⟨ev_2, ei_2, ej_2⟩ := h_2
          replace ev_2 := ev_2.symm; subst ev_2
          replace ei_2 := ei_2.symm; subst ei_2
          replace ej_2 := ej_2.symm; subst ej_2
          refine z_istore C hm (lv' := [(4, .int (zXp I A tr bu ho lo (ern 0 n (I 6) A hd) a)), (0, .ref (zad w 0)), (1, .int wh), (2, .int (nI (zset (fun t => pB (pcif (wh = 0) ((zXp I A tr bu ho lo (ern 0 n (I 6) A hd) t &&& 14) = 8) ((zXp I A tr bu ho lo (ern 0 n (I 6) A hd) t >>> (I 8 t &&& 31) &&& 1) = 0))) a))), (3, .int (nI a))]) dX7_sure_35 (by decide) rfl ?_
          refine z_iload_n C dX7_sure_37 rfl 2 rfl ?_
          refine z_if_ne (tgt := 49) C dX7_sure_38 (by decide) (fun c38 => ?_) (fun c38 => ?_)
          · skip
            refine z_iload C dX7_sure_49 0 rfl ?_
            refine z_aload_n C dX7_sure_51 rfl 1 rfl ?_
            refine z_getr C ff_X7_62 0 (by decide) sh0 rfl dX7_sure_52 ?_
            refine z_getr C ff_X7_163 5 (by decide) sh5 rfl dX7_sure_55 ?_
            refine z_iload_n C dX7_sure_58 rfl 4 rfl ?_
            refine z_iald C 8 (by decide) sh8 a (by omega) (by decide) rfl (v := I 8 a) (by first | rfl | (simp [zup, zupJ, upd, vp_updL]; done)) dX7_sure_59 ?_
            refine z_ishr C dX7_sure_60 ?_
            refine z_iconst C (v := 1) dX7_sure_61 (by decide) ?_
            refine z_iand C dX7_sure_62 ?_
            refine z_if_ne (tgt := 70) C dX7_sure_63 (by decide) (fun c63 => ?_) (fun c63 => ?_)
            · skip
              refine z_iconst C (v := 0) dX7_sure_70 (by decide) ?_
              refine z_istore C hm (lv' := [(5, .int 0), (4, .int (zXp I A tr bu ho lo (ern 0 n (I 6) A hd) a)), (0, .ref (zad w 0)), (1, .int wh), (2, .int (nI (zset (fun t => pB (pcif (wh = 0) ((zXp I A tr bu ho lo (ern 0 n (I 6) A hd) t &&& 14) = 8) ((zXp I A tr bu ho lo (ern 0 n (I 6) A hd) t >>> (I 8 t &&& 31) &&& 1) = 0))) a))), (3, .int (nI a))]) dX7_sure_71 (by decide) rfl ?_
              refine z_iload C dX7_sure_73 0 rfl ?_
              refine z_if_eq (tgt := 84) C dX7_sure_75 (by decide) (fun c75 => ?_) (fun c75 => ?_)
              · skip
                refine z_iinc C hm 5 (v := nI (a + 1)) (lv' := [(3, .int (nI (a + 1))), (5, .int 0), (4, .int (zXp I A tr bu ho lo (ern 0 n (I 6) A hd) a)), (0, .ref (zad w 0)), (1, .int wh), (2, .int (nI (zset (fun t => pB (pcif (wh = 0) ((zXp I A tr bu ho lo (ern 0 n (I 6) A hd) t &&& 14) = 8) ((zXp I A tr bu ho lo (ern 0 n (I 6) A hd) t >>> (I 8 t &&& 31) &&& 1) = 0))) a)))]) dX7_sure_84 rfl (nI_add a 1) (by decide) rfl ?_
                refine z_goto (tgt := 19) C dX7_sure_87 (by decide) ?_
                exact z_sub [3, 4, 5, 0] rfl (ih19  (a + 1) _ _ (by omega) (by omega) (by rw [zset, if_neg (fun q => c63 (by have := pB_i.mp q; rw [pcif_f c38] at this; exact this)), Nat.add_zero]) rfl)
              · skip
                exact absurd rfl c75
            · skip
              refine z_iconst C (v := 1) dX7_sure_66 (by decide) ?_
              refine z_goto (tgt := 71) C dX7_sure_67 (by decide) ?_
              refine z_istore C hm (lv' := [(5, .int 1), (4, .int (zXp I A tr bu ho lo (ern 0 n (I 6) A hd) a)), (0, .ref (zad w 0)), (1, .int wh), (2, .int (nI (zset (fun t => pB (pcif (wh = 0) ((zXp I A tr bu ho lo (ern 0 n (I 6) A hd) t &&& 14) = 8) ((zXp I A tr bu ho lo (ern 0 n (I 6) A hd) t >>> (I 8 t &&& 31) &&& 1) = 0))) a))), (3, .int (nI a))]) dX7_sure_71 (by decide) rfl ?_
              refine z_iload C dX7_sure_73 0 rfl ?_
              refine z_if_eq (tgt := 84) C dX7_sure_75 (by decide) (fun c75 => ?_) (fun c75 => ?_)
              · skip
                exact absurd c75 (by decide)
              · skip
                refine z_iload_n C dX7_sure_78 rfl 4 rfl ?_
                refine z_iconst C (v := 1) dX7_sure_79 (by decide) ?_
                refine z_iload_n C dX7_sure_80 rfl 5 rfl ?_
                refine z_ishl C dX7_sure_81 ?_
                refine z_ior C dX7_sure_82 ?_
                refine z_istore_n C hm (lv' := [(2, .int ((nI (zset (fun t => pB (pcif (wh = 0) ((zXp I A tr bu ho lo (ern 0 n (I 6) A hd) t &&& 14) = 8) ((zXp I A tr bu ho lo (ern 0 n (I 6) A hd) t >>> (I 8 t &&& 31) &&& 1) = 0))) a)) ||| (1 <<< ((nI a) &&& 31)))), (5, .int 1), (4, .int (zXp I A tr bu ho lo (ern 0 n (I 6) A hd) a)), (0, .ref (zad w 0)), (1, .int wh), (3, .int (nI a))]) dX7_sure_83 rfl (by decide) rfl ?_
                refine z_iinc C hm 5 (v := nI (a + 1)) (lv' := [(3, .int (nI (a + 1))), (2, .int ((nI (zset (fun t => pB (pcif (wh = 0) ((zXp I A tr bu ho lo (ern 0 n (I 6) A hd) t &&& 14) = 8) ((zXp I A tr bu ho lo (ern 0 n (I 6) A hd) t >>> (I 8 t &&& 31) &&& 1) = 0))) a)) ||| (1 <<< ((nI a) &&& 31)))), (5, .int 1), (4, .int (zXp I A tr bu ho lo (ern 0 n (I 6) A hd) a)), (0, .ref (zad w 0)), (1, .int wh)]) dX7_sure_84 rfl (nI_add a 1) (by decide) rfl ?_
                refine z_goto (tgt := 19) C dX7_sure_87 (by decide) ?_
                exact z_sub [4, 5, 1, 0] rfl (ih19  (a + 1) _ _ (by omega) (by omega) (by rw [zset, if_pos (pB_t (by rw [pcif_f c38]; exact c63))]; exact or_bit (zset_lt a) (by omega)) rfl)
          · skip
            refine z_iload C dX7_sure_41 0 rfl ?_
            refine z_callSi C hm cl_X7_181 cs_X7_knownAlone [.int (zXp I A tr bu ho lo (ern 0 n (I 6) A hd) a)] rfl (rest := []) rfl (k_X7_knownAlone w _ _  (zXp I A tr bu ho lo (ern 0 n (I 6) A hd) a) ) ⟨rfl, rfl, Nat.le_of_ble_eq_true rfl, Nat.le_of_ble_eq_true rfl⟩ (Nat.le_of_ble_eq_true rfl) dX7_sure_43 (fun v_3 I_3 J_3 h_3 => ?_)
            obtain ⟨ev_3, ei_3, ej_3⟩ := h_3
            replace ev_3 := ev_3.symm; subst ev_3
            replace ei_3 := ei_3.symm; subst ei_3
            replace ej_3 := ej_3.symm; subst ej_3
            refine z_goto (tgt := 71) C dX7_sure_46 (by decide) ?_
            refine z_istore C hm (lv' := [(5, .int (bI (((zXp I A tr bu ho lo (ern 0 n (I 6) A hd) a) &&& 14) = 8))), (4, .int (zXp I A tr bu ho lo (ern 0 n (I 6) A hd) a)), (0, .ref (zad w 0)), (1, .int wh), (2, .int (nI (zset (fun t => pB (pcif (wh = 0) ((zXp I A tr bu ho lo (ern 0 n (I 6) A hd) t &&& 14) = 8) ((zXp I A tr bu ho lo (ern 0 n (I 6) A hd) t >>> (I 8 t &&& 31) &&& 1) = 0))) a))), (3, .int (nI a))]) dX7_sure_71 (by decide) rfl ?_
            refine z_iload C dX7_sure_73 0 rfl ?_
            refine z_ifeq_b (tgt := 84) C dX7_sure_75 (by decide) (fun c75 => ?_) (fun c75 => ?_)
            · skip
              refine z_iinc C hm 5 (v := nI (a + 1)) (lv' := [(3, .int (nI (a + 1))), (5, .int (bI (((zXp I A tr bu ho lo (ern 0 n (I 6) A hd) a) &&& 14) = 8))), (4, .int (zXp I A tr bu ho lo (ern 0 n (I 6) A hd) a)), (0, .ref (zad w 0)), (1, .int wh), (2, .int (nI (zset (fun t => pB (pcif (wh = 0) ((zXp I A tr bu ho lo (ern 0 n (I 6) A hd) t &&& 14) = 8) ((zXp I A tr bu ho lo (ern 0 n (I 6) A hd) t >>> (I 8 t &&& 31) &&& 1) = 0))) a)))]) dX7_sure_84 rfl (nI_add a 1) (by decide) rfl ?_
              refine z_goto (tgt := 19) C dX7_sure_87 (by decide) ?_
              exact z_sub [3, 4, 5, 0] rfl (ih19  (a + 1) _ _ (by omega) (by omega) (by rw [zset, if_neg (fun q => c75 (by have := pB_i.mp q; rw [pcif_t c38] at this; exact this)), Nat.add_zero]) rfl)
            · skip
              refine z_iload_n C dX7_sure_78 rfl 4 rfl ?_
              refine z_iconst C (v := 1) dX7_sure_79 (by decide) ?_
              refine z_iload_n C dX7_sure_80 rfl 5 rfl ?_
              refine z_ishl C dX7_sure_81 ?_
              refine z_ior C dX7_sure_82 ?_
              refine z_istore_n C hm (lv' := [(2, .int ((nI (zset (fun t => pB (pcif (wh = 0) ((zXp I A tr bu ho lo (ern 0 n (I 6) A hd) t &&& 14) = 8) ((zXp I A tr bu ho lo (ern 0 n (I 6) A hd) t >>> (I 8 t &&& 31) &&& 1) = 0))) a)) ||| (1 <<< ((nI a) &&& 31)))), (5, .int (bI (((zXp I A tr bu ho lo (ern 0 n (I 6) A hd) a) &&& 14) = 8))), (4, .int (zXp I A tr bu ho lo (ern 0 n (I 6) A hd) a)), (0, .ref (zad w 0)), (1, .int wh), (3, .int (nI a))]) dX7_sure_83 rfl (by decide) rfl ?_
              refine z_iinc C hm 5 (v := nI (a + 1)) (lv' := [(3, .int (nI (a + 1))), (2, .int ((nI (zset (fun t => pB (pcif (wh = 0) ((zXp I A tr bu ho lo (ern 0 n (I 6) A hd) t &&& 14) = 8) ((zXp I A tr bu ho lo (ern 0 n (I 6) A hd) t >>> (I 8 t &&& 31) &&& 1) = 0))) a)) ||| (1 <<< ((nI a) &&& 31)))), (5, .int (bI (((zXp I A tr bu ho lo (ern 0 n (I 6) A hd) a) &&& 14) = 8))), (4, .int (zXp I A tr bu ho lo (ern 0 n (I 6) A hd) a)), (0, .ref (zad w 0)), (1, .int wh)]) dX7_sure_84 rfl (nI_add a 1) (by decide) rfl ?_
              refine z_goto (tgt := 19) C dX7_sure_87 (by decide) ?_
              exact z_sub [4, 5, 1, 0] rfl (ih19  (a + 1) _ _ (by omega) (by omega) (by rw [zset, if_pos (pB_t (by rw [pcif_t c38]; exact c75))]; exact or_bit (zset_lt a) (by omega)) rfl)
    exact z_sub [2, 3, 1, 0] rfl (L19 _ 0 _ _ (Nat.lt_succ_self _) (by omega) rfl rfl)
  · skip
    refine z_iload_n C dX7_sure_4 rfl 1 rfl ?_
    refine z_iconst C (v := 1) dX7_sure_5 (by decide) ?_
    refine z_icmp_eq (tgt := 11) C dX7_sure_6 (by decide) (fun c6 => ?_) (fun c6 => ?_)
    · skip
      refine z_aload_n C dX7_sure_11 rfl 0 rfl ?_
      refine z_callVv C hm cl_X7_118 cv_X7_spreadAll 0 (by decide) sh0 ⟨_, _, rfl⟩ [] rfl (rest := []) rfl (k_X7_spreadAll w _ _ n h A hd  (by exact hN) hn hh (by exact hH) hL hd7 hd99) ⟨rfl, rfl, Nat.le_of_ble_eq_true rfl, Nat.le_of_ble_eq_true rfl⟩ (Nat.le_of_ble_eq_true rfl) dX7_sure_12 (fun I_4 J_4 h_4 => ?_)
      obtain ⟨eJ_4, H_4, Gr_4, R_4, Q_4, eI_4, hH_4, hG_4, hR_4⟩ := h_4
      replace eJ_4 := eJ_4.symm; subst eJ_4
      subst eI_4
      refine z_iconst C (v := 0) dX7_sure_15 (by decide) ?_
      refine z_istore_n C hm (lv' := [(2, .int 0), (0, .ref (zad w 0)), (1, .int wh)]) dX7_sure_16 rfl (by decide) rfl ?_
      refine z_iconst C (v := 0) dX7_sure_17 (by decide) ?_
      refine z_istore_n C hm (lv' := [(3, .int 0), (2, .int 0), (0, .ref (zad w 0)), (1, .int wh)]) dX7_sure_18 rfl (by decide) rfl ?_
      have L19 : ∀ (d : Nat) (a : Nat) (v19_2 : Int32) (v19_3 : Int32), (tr - a) < d → (a ≤ tr) → v19_2 = nI (zset (fun t => pB (pcif (wh = 0) ((zXp I A tr bu ho lo (ern 0 n (I 6) A hd) t &&& 14) = 8) ((zXp I A tr bu ho lo (ern 0 n (I 6) A hd) t >>> (I 8 t &&& 31) &&& 1) = 0))) a) → v19_3 = nI a → Z X w (zup (zup (zup (zup (zup I 23 (upd (upd (I 23) 6 (nI n)) 7 (nI (aSteps A)))) 25 H_4) 24 Gr_4) 26 R_4) 27 Q_4) J 19 [(0, .ref (zad w 0)), (1, .int wh), (2, .int v19_2), (3, .int v19_3)] [] := by
        intro d
        induction d with
        | zero => intro a v19_2 v19_3 hd; exact absurd hd (Nat.not_lt_zero _)
        | succ d ih19 => 
          intro a v19_2 v19_3 hd19 ha e_v19_2 e_v19_3
          replace e_v19_2 := e_v19_2.symm; subst e_v19_2
          replace e_v19_3 := e_v19_3.symm; subst e_v19_3
          refine z_iload_n C dX7_sure_19 rfl 3 rfl ?_
          refine z_aload_n C dX7_sure_20 rfl 0 rfl ?_
          refine z_getr C ff_X7_62 0 (by decide) sh0 rfl dX7_sure_21 ?_
          refine z_geti C ff_X7_153 5 (by decide) sh5 rfl (v := nI tr) (by first | exact hT | (simp [zup, zupJ, upd, vp_updL]; exact hT)) dX7_sure_24 ?_
          refine z_icmp_ge_n a tr (tgt := 90) C rfl rfl (by omega) (by omega) dX7_sure_27 (by decide) (fun c27 => ?_) (fun c27 => ?_)
          · skip
            have hae : a = tr := by omega
            refine z_iload_n C dX7_sure_90 rfl 2 rfl ?_
            refine z_iret C hr rfl dX7_sure_91 ?_
            refine ⟨_, rfl, ?_⟩
            exact ⟨by rw [cif_t (Or.inr c6), hae], rfl, (by intro zk hzk; simp only [zup]; rw [if_neg (by omega), if_neg (by omega), if_neg (by omega), if_neg (by omega), if_neg (by omega)])⟩
          · skip
            refine z_aload_n C dX7_sure_30 rfl 0 rfl ?_
            refine z_iload_n C dX7_sure_31 rfl 3 rfl ?_
            refine z_callVi C hm cl_X7_178 cv_X7_explaining 0 (by decide) sh0 ⟨_, _, rfl⟩ [.int (nI a)] rfl (rest := []) rfl (k_X7_explaining w _ _ n tr h A bu ho lo (ern 0 n (I 6) A hd) a (by exact hN) hn (by exact hT) htr hh (by exact hH) (cLaw_z (Or.inl (by decide)) hh (cLaw_z (Or.inl (by decide)) hh (cLaw_z (Or.inl (by decide)) hh (cLaw_z (Or.inl (by decide)) hh (cLaw_z (Or.inl (by decide)) hh hL))))) (by exact hB) (by exact hO) (by exact hLo) hR_4 (fun a => ern_le hd99 a) (by omega)) ⟨rfl, rfl, Nat.le_of_ble_eq_true rfl, Nat.le_of_ble_eq_true rfl⟩ (Nat.le_of_ble_eq_true rfl) dX7_sure_32 (fun v_5 I_5 J_5 h_5 => ?_)
            obtain ⟨ev_5, ei_5, ej_5⟩ := h_5
            replace ev_5 := ev_5.symm; subst ev_5
            replace ei_5 := ei_5.symm; subst ei_5
            replace ej_5 := ej_5.symm; subst ej_5
            refine z_istore C hm (lv' := [(4, .int (zXp I A tr bu ho lo (ern 0 n (I 6) A hd) a)), (0, .ref (zad w 0)), (1, .int wh), (2, .int (nI (zset (fun t => pB (pcif (wh = 0) ((zXp I A tr bu ho lo (ern 0 n (I 6) A hd) t &&& 14) = 8) ((zXp I A tr bu ho lo (ern 0 n (I 6) A hd) t >>> (I 8 t &&& 31) &&& 1) = 0))) a))), (3, .int (nI a))]) dX7_sure_35 (by decide) rfl ?_
            refine z_iload_n C dX7_sure_37 rfl 2 rfl ?_
            refine z_if_ne (tgt := 49) C dX7_sure_38 (by decide) (fun c38 => ?_) (fun c38 => ?_)
            · skip
              refine z_iload C dX7_sure_49 0 rfl ?_
              refine z_aload_n C dX7_sure_51 rfl 1 rfl ?_
              refine z_getr C ff_X7_62 0 (by decide) sh0 rfl dX7_sure_52 ?_
              refine z_getr C ff_X7_163 5 (by decide) sh5 rfl dX7_sure_55 ?_
              refine z_iload_n C dX7_sure_58 rfl 4 rfl ?_
              refine z_iald C 8 (by decide) sh8 a (by omega) (by decide) rfl (v := I 8 a) (by first | rfl | (simp [zup, zupJ, upd, vp_updL]; done)) dX7_sure_59 ?_
              refine z_ishr C dX7_sure_60 ?_
              refine z_iconst C (v := 1) dX7_sure_61 (by decide) ?_
              refine z_iand C dX7_sure_62 ?_
              refine z_if_ne (tgt := 70) C dX7_sure_63 (by decide) (fun c63 => ?_) (fun c63 => ?_)
              · skip
                refine z_iconst C (v := 0) dX7_sure_70 (by decide) ?_
                refine z_istore C hm (lv' := [(5, .int 0), (4, .int (zXp I A tr bu ho lo (ern 0 n (I 6) A hd) a)), (0, .ref (zad w 0)), (1, .int wh), (2, .int (nI (zset (fun t => pB (pcif (wh = 0) ((zXp I A tr bu ho lo (ern 0 n (I 6) A hd) t &&& 14) = 8) ((zXp I A tr bu ho lo (ern 0 n (I 6) A hd) t >>> (I 8 t &&& 31) &&& 1) = 0))) a))), (3, .int (nI a))]) dX7_sure_71 (by decide) rfl ?_
                refine z_iload C dX7_sure_73 0 rfl ?_
                refine z_if_eq (tgt := 84) C dX7_sure_75 (by decide) (fun c75 => ?_) (fun c75 => ?_)
                · skip
                  refine z_iinc C hm 5 (v := nI (a + 1)) (lv' := [(3, .int (nI (a + 1))), (5, .int 0), (4, .int (zXp I A tr bu ho lo (ern 0 n (I 6) A hd) a)), (0, .ref (zad w 0)), (1, .int wh), (2, .int (nI (zset (fun t => pB (pcif (wh = 0) ((zXp I A tr bu ho lo (ern 0 n (I 6) A hd) t &&& 14) = 8) ((zXp I A tr bu ho lo (ern 0 n (I 6) A hd) t >>> (I 8 t &&& 31) &&& 1) = 0))) a)))]) dX7_sure_84 rfl (nI_add a 1) (by decide) rfl ?_
                  refine z_goto (tgt := 19) C dX7_sure_87 (by decide) ?_
                  exact z_sub [3, 4, 5, 0] rfl (ih19  (a + 1) _ _ (by omega) (by omega) (by rw [zset, if_neg (fun q => c63 (by have := pB_i.mp q; rw [pcif_f c38] at this; exact this)), Nat.add_zero]) rfl)
                · skip
                  exact absurd rfl c75
              · skip
                refine z_iconst C (v := 1) dX7_sure_66 (by decide) ?_
                refine z_goto (tgt := 71) C dX7_sure_67 (by decide) ?_
                refine z_istore C hm (lv' := [(5, .int 1), (4, .int (zXp I A tr bu ho lo (ern 0 n (I 6) A hd) a)), (0, .ref (zad w 0)), (1, .int wh), (2, .int (nI (zset (fun t => pB (pcif (wh = 0) ((zXp I A tr bu ho lo (ern 0 n (I 6) A hd) t &&& 14) = 8) ((zXp I A tr bu ho lo (ern 0 n (I 6) A hd) t >>> (I 8 t &&& 31) &&& 1) = 0))) a))), (3, .int (nI a))]) dX7_sure_71 (by decide) rfl ?_
                refine z_iload C dX7_sure_73 0 rfl ?_
                refine z_if_eq (tgt := 84) C dX7_sure_75 (by decide) (fun c75 => ?_) (fun c75 => ?_)
                · skip
                  exact absurd c75 (by decide)
                · skip
                  refine z_iload_n C dX7_sure_78 rfl 4 rfl ?_
                  refine z_iconst C (v := 1) dX7_sure_79 (by decide) ?_
                  refine z_iload_n C dX7_sure_80 rfl 5 rfl ?_
                  refine z_ishl C dX7_sure_81 ?_
                  refine z_ior C dX7_sure_82 ?_
                  refine z_istore_n C hm (lv' := [(2, .int ((nI (zset (fun t => pB (pcif (wh = 0) ((zXp I A tr bu ho lo (ern 0 n (I 6) A hd) t &&& 14) = 8) ((zXp I A tr bu ho lo (ern 0 n (I 6) A hd) t >>> (I 8 t &&& 31) &&& 1) = 0))) a)) ||| (1 <<< ((nI a) &&& 31)))), (5, .int 1), (4, .int (zXp I A tr bu ho lo (ern 0 n (I 6) A hd) a)), (0, .ref (zad w 0)), (1, .int wh), (3, .int (nI a))]) dX7_sure_83 rfl (by decide) rfl ?_
                  refine z_iinc C hm 5 (v := nI (a + 1)) (lv' := [(3, .int (nI (a + 1))), (2, .int ((nI (zset (fun t => pB (pcif (wh = 0) ((zXp I A tr bu ho lo (ern 0 n (I 6) A hd) t &&& 14) = 8) ((zXp I A tr bu ho lo (ern 0 n (I 6) A hd) t >>> (I 8 t &&& 31) &&& 1) = 0))) a)) ||| (1 <<< ((nI a) &&& 31)))), (5, .int 1), (4, .int (zXp I A tr bu ho lo (ern 0 n (I 6) A hd) a)), (0, .ref (zad w 0)), (1, .int wh)]) dX7_sure_84 rfl (nI_add a 1) (by decide) rfl ?_
                  refine z_goto (tgt := 19) C dX7_sure_87 (by decide) ?_
                  exact z_sub [4, 5, 1, 0] rfl (ih19  (a + 1) _ _ (by omega) (by omega) (by rw [zset, if_pos (pB_t (by rw [pcif_f c38]; exact c63))]; exact or_bit (zset_lt a) (by omega)) rfl)
            · skip
              refine z_iload C dX7_sure_41 0 rfl ?_
              refine z_callSi C hm cl_X7_181 cs_X7_knownAlone [.int (zXp I A tr bu ho lo (ern 0 n (I 6) A hd) a)] rfl (rest := []) rfl (k_X7_knownAlone w _ _  (zXp I A tr bu ho lo (ern 0 n (I 6) A hd) a) ) ⟨rfl, rfl, Nat.le_of_ble_eq_true rfl, Nat.le_of_ble_eq_true rfl⟩ (Nat.le_of_ble_eq_true rfl) dX7_sure_43 (fun v_6 I_6 J_6 h_6 => ?_)
              obtain ⟨ev_6, ei_6, ej_6⟩ := h_6
              replace ev_6 := ev_6.symm; subst ev_6
              replace ei_6 := ei_6.symm; subst ei_6
              replace ej_6 := ej_6.symm; subst ej_6
              refine z_goto (tgt := 71) C dX7_sure_46 (by decide) ?_
              refine z_istore C hm (lv' := [(5, .int (bI (((zXp I A tr bu ho lo (ern 0 n (I 6) A hd) a) &&& 14) = 8))), (4, .int (zXp I A tr bu ho lo (ern 0 n (I 6) A hd) a)), (0, .ref (zad w 0)), (1, .int wh), (2, .int (nI (zset (fun t => pB (pcif (wh = 0) ((zXp I A tr bu ho lo (ern 0 n (I 6) A hd) t &&& 14) = 8) ((zXp I A tr bu ho lo (ern 0 n (I 6) A hd) t >>> (I 8 t &&& 31) &&& 1) = 0))) a))), (3, .int (nI a))]) dX7_sure_71 (by decide) rfl ?_
              refine z_iload C dX7_sure_73 0 rfl ?_
              refine z_ifeq_b (tgt := 84) C dX7_sure_75 (by decide) (fun c75 => ?_) (fun c75 => ?_)
              · skip
                refine z_iinc C hm 5 (v := nI (a + 1)) (lv' := [(3, .int (nI (a + 1))), (5, .int (bI (((zXp I A tr bu ho lo (ern 0 n (I 6) A hd) a) &&& 14) = 8))), (4, .int (zXp I A tr bu ho lo (ern 0 n (I 6) A hd) a)), (0, .ref (zad w 0)), (1, .int wh), (2, .int (nI (zset (fun t => pB (pcif (wh = 0) ((zXp I A tr bu ho lo (ern 0 n (I 6) A hd) t &&& 14) = 8) ((zXp I A tr bu ho lo (ern 0 n (I 6) A hd) t >>> (I 8 t &&& 31) &&& 1) = 0))) a)))]) dX7_sure_84 rfl (nI_add a 1) (by decide) rfl ?_
                refine z_goto (tgt := 19) C dX7_sure_87 (by decide) ?_
                exact z_sub [3, 4, 5, 0] rfl (ih19  (a + 1) _ _ (by omega) (by omega) (by rw [zset, if_neg (fun q => c75 (by have := pB_i.mp q; rw [pcif_t c38] at this; exact this)), Nat.add_zero]) rfl)
              · skip
                refine z_iload_n C dX7_sure_78 rfl 4 rfl ?_
                refine z_iconst C (v := 1) dX7_sure_79 (by decide) ?_
                refine z_iload_n C dX7_sure_80 rfl 5 rfl ?_
                refine z_ishl C dX7_sure_81 ?_
                refine z_ior C dX7_sure_82 ?_
                refine z_istore_n C hm (lv' := [(2, .int ((nI (zset (fun t => pB (pcif (wh = 0) ((zXp I A tr bu ho lo (ern 0 n (I 6) A hd) t &&& 14) = 8) ((zXp I A tr bu ho lo (ern 0 n (I 6) A hd) t >>> (I 8 t &&& 31) &&& 1) = 0))) a)) ||| (1 <<< ((nI a) &&& 31)))), (5, .int (bI (((zXp I A tr bu ho lo (ern 0 n (I 6) A hd) a) &&& 14) = 8))), (4, .int (zXp I A tr bu ho lo (ern 0 n (I 6) A hd) a)), (0, .ref (zad w 0)), (1, .int wh), (3, .int (nI a))]) dX7_sure_83 rfl (by decide) rfl ?_
                refine z_iinc C hm 5 (v := nI (a + 1)) (lv' := [(3, .int (nI (a + 1))), (2, .int ((nI (zset (fun t => pB (pcif (wh = 0) ((zXp I A tr bu ho lo (ern 0 n (I 6) A hd) t &&& 14) = 8) ((zXp I A tr bu ho lo (ern 0 n (I 6) A hd) t >>> (I 8 t &&& 31) &&& 1) = 0))) a)) ||| (1 <<< ((nI a) &&& 31)))), (5, .int (bI (((zXp I A tr bu ho lo (ern 0 n (I 6) A hd) a) &&& 14) = 8))), (4, .int (zXp I A tr bu ho lo (ern 0 n (I 6) A hd) a)), (0, .ref (zad w 0)), (1, .int wh)]) dX7_sure_84 rfl (nI_add a 1) (by decide) rfl ?_
                refine z_goto (tgt := 19) C dX7_sure_87 (by decide) ?_
                exact z_sub [4, 5, 1, 0] rfl (ih19  (a + 1) _ _ (by omega) (by omega) (by rw [zset, if_pos (pB_t (by rw [pcif_t c38]; exact c75))]; exact or_bit (zset_lt a) (by omega)) rfl)
      exact z_sub [2, 3, 1, 0] rfl (L19 _ 0 _ _ (Nat.lt_succ_self _) (by omega) rfl rfl)
    · skip
      refine z_iconst C (v := -1) dX7_sure_9 (by decide) ?_
      refine z_iret C hr rfl dX7_sure_10 ?_
      refine ⟨_, rfl, ?_⟩
      exact ⟨by rw [cif_f (fun q => q.elim c1 c6)], rfl, frS_id⟩
