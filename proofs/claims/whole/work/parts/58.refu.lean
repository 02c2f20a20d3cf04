/-! the reference: heads of clauses, clauses -/
def uHd (c : Nat → Nat) (p : Nat) : Nat := if c p = 104 then 1 else if c p = 112 then 2 else if c p = 115 then 4 else if c (p + 2) = 116 then 3 else 0
theorem uHd_5 {c : Nat → Nat} {p : Nat} : uHd c p < 5 := by unfold uHd; repeat (split; · decide)
                                                            decide
theorem zSt_0 {c : Nat → Nat} {p u : Nat} (h : c p ≠ zSi u 0) : zSt c p u = 0 ∨ zLen.getD u 0 = 0 := by
  unfold zSt
  rcases hl : zLen.getD u 0 with _ | n
  · exact Or.inr rfl
  · left; rw [zSm, Nat.add_zero, if_neg h]
theorem zSt_le {c : Nat → Nat} {p u : Nat} : zSt c p u ≤ zLen.getD u 0 := zSm_le _ 0
theorem sW {c : Nat → Nat} {p : Nat} : zSt c p 0 = (if c p = 119 then (if c (p + 1) = 97 then (if c (p + 2) = 121 then 3 else 2) else 1) else 0) := by
  show zSm c 0 p 3 0 = _
  rw [zSm, zSm, zSm, zSm, show zSi 0 0 = 119 from by decide, show zSi 0 1 = 97 from by decide, show zSi 0 2 = 121 from by decide, Nat.add_zero]
  split
  · split
    · split <;> rfl
    · rfl
  · rfl
theorem sH {c : Nat → Nat} {p : Nat} : ∃ x, x ≤ 3 ∧ zSt c p 3 = (if c p = 119 then (if c (p + 1) = 97 then (if c (p + 2) = 116 then 2 + x else 2) else 1) else 0) ∧ (c (p + 2) = 116 → 1 ≤ x) := by
  refine ⟨if c (p + 3) = 99 then (if c (p + 4) = 104 then 3 else 2) else 1, ?_, ?_, ?_⟩
  · split
    · split <;> decide
    · decide
  · show zSm c 3 p 5 0 = _
    rw [zSm, zSm, zSm, zSm, zSm, zSm, show zSi 3 0 = 119 from by decide, show zSi 3 1 = 97 from by decide, show zSi 3 2 = 116 from by decide, show zSi 3 3 = 99 from by decide, show zSi 3 4 = 104 from by decide, Nat.add_zero]
    split
    · split
      · split
        · split
          · split <;> rfl
          · rfl
        · rfl
      · rfl
    · rfl
  · intro _
    split
    · split <;> decide
    · decide
theorem zHd {c : Nat → Nat} {p : Nat} : (zSt c p (uHd c p) = zLen.getD (uHd c p) 0 → zWd c p 5 0 = some (uHd c p)) ∧ (zSt c p (uHd c p) ≠ zLen.getD (uHd c p) 0 → zWd c p 5 0 = none ∧ zFt c p 5 = zSt c p (uHd c p)) := by
  have n1 : c p ≠ 104 → zSt c p 1 = 0 := fun h => (zSt_0 (u := 1) (by rw [show zSi 1 0 = 104 from by decide]; exact h)).resolve_right (by decide)
  have n2 : c p ≠ 112 → zSt c p 2 = 0 := fun h => (zSt_0 (u := 2) (by rw [show zSi 2 0 = 112 from by decide]; exact h)).resolve_right (by decide)
  have n4 : c p ≠ 115 → zSt c p 4 = 0 := fun h => (zSt_0 (u := 4) (by rw [show zSi 4 0 = 115 from by decide]; exact h)).resolve_right (by decide)
  have e0 := sW (c := c) (p := p)
  obtain ⟨x, x3, e3, ex⟩ := sH (c := c) (p := p)
  have hW : zWd c p 5 0 = (if zSt c p 0 = 3 then some 0 else if zSt c p 1 = 5 then some 1 else if zSt c p 2 = 5 then some 2 else if zSt c p 3 = 5 then some 3 else if zSt c p 4 = 5 then some 4 else none) := rfl
  have hF : zFt c p 5 = max (max (max (max (max 0 (zSt c p 0)) (zSt c p 1)) (zSt c p 2)) (zSt c p 3)) (zSt c p 4) := rfl
  have l0 := zSt_le (c := c) (p := p) (u := 0)
  have l3 := zSt_le (c := c) (p := p) (u := 3)
  have g0 : zLen.getD 0 0 = 3 := rfl
  have g1 : zLen.getD 1 0 = 5 := rfl
  have g2 : zLen.getD 2 0 = 5 := rfl
  have g3 : zLen.getD 3 0 = 5 := rfl
  have g4 : zLen.getD 4 0 = 5 := rfl
  by_cases h1 : c p = 104
  · have hu : uHd c p = 1 := by unfold uHd; rw [if_pos h1]
    have a2 := n2 (by omega)
    have a4 := n4 (by omega)
    rw [if_neg (by omega)] at e0 e3
    rw [hu, g1, hW, hF, e0, a2, e3, a4]
    refine ⟨fun h => by rw [if_neg (by decide), if_pos h], fun h => ⟨by rw [if_neg (by decide), if_neg h, if_neg (by decide), if_neg (by decide), if_neg (by decide)], by omega⟩⟩
  · have a1 := n1 h1
    by_cases h2 : c p = 112
    · have hu : uHd c p = 2 := by unfold uHd; rw [if_neg h1, if_pos h2]
      have a4 := n4 (by omega)
      rw [if_neg (by omega)] at e0 e3
      rw [hu, g2, hW, hF, e0, a1, e3, a4]
      refine ⟨fun h => by rw [if_neg (by decide), if_neg (by decide), if_pos h], fun h => ⟨by rw [if_neg (by decide), if_neg (by decide), if_neg h, if_neg (by decide), if_neg (by decide)], by omega⟩⟩
    · have a2 := n2 h2
      by_cases h4 : c p = 115
      · have hu : uHd c p = 4 := by unfold uHd; rw [if_neg h1, if_neg h2, if_pos h4]
        rw [if_neg (by omega)] at e0 e3
        rw [hu, g4, hW, hF, e0, a1, a2, e3]
        refine ⟨fun h => by rw [if_neg (by decide), if_neg (by decide), if_neg (by decide), if_neg (by decide), if_pos h], fun h => ⟨by rw [if_neg (by decide), if_neg (by decide), if_neg (by decide), if_neg (by decide), if_neg h], by omega⟩⟩
      · have a4 := n4 h4
        by_cases h3 : c (p + 2) = 116
        · have hu : uHd c p = 3 := by unfold uHd; rw [if_neg h1, if_neg h2, if_neg h4, if_pos h3]
          have x1 := ex h3
          have hz0 : zSt c p 0 ≤ 2 ∧ zSt c p 0 ≤ zSt c p 3 := by
            rw [e0, e3, if_neg (show ¬ c (p + 2) = 121 by omega), if_pos h3]
            by_cases q : c p = 119
            · rw [if_pos q, if_pos q]
              by_cases z : c (p + 1) = 97
              · rw [if_pos z, if_pos z]; omega
              · rw [if_neg z, if_neg z]; omega
            · rw [if_neg q, if_neg q]; omega
          rw [hu, g3, hW, hF, a1, a2, a4]
          refine ⟨fun h => by rw [if_neg (by omega), if_neg (by decide), if_neg (by decide), if_pos h], fun h => ⟨by rw [if_neg (by omega), if_neg (by decide), if_neg (by decide), if_neg h, if_neg (by decide)], by omega⟩⟩
        · have hu : uHd c p = 0 := by unfold uHd; rw [if_neg h1, if_neg h2, if_neg h4, if_neg h3]
          have hz0 : zSt c p 3 ≤ 2 ∧ zSt c p 3 ≤ zSt c p 0 := by
            rw [e0, e3, if_neg h3]
            by_cases q : c p = 119
            · rw [if_pos q, if_pos q]
              by_cases z : c (p + 1) = 97
              · rw [if_pos z, if_pos z]; split <;> omega
              · rw [if_neg z, if_neg z]; omega
            · rw [if_neg q, if_neg q]; omega
          rw [hu, g0, hW, hF, a1, a2, a4]
          refine ⟨fun h => by rw [if_pos h], fun h => ⟨by rw [if_neg h, if_neg (by decide), if_neg (by decide), if_neg (by omega), if_neg (by decide)], by omega⟩⟩
abbrev rm_X8_takesHead : Room := { frames := 7, cells := 0, slots := 0, locals := 264 }
set_option maxRecDepth 100000 in
set_option maxHeartbeats 4000000 in
theorem k_X8_takesHead (w : zW) (I : zI) (J : zJ) (c : Nat → Nat) (L p : Nat) (cc : Nat) (hL : I 82 6 = nI L) (hl : L ≤ 100) (hp : I 82 7 = nI p) (hpl : p ≤ L) (hBy : ∀ q, q < L → I 86 q = zNx (c q) ∧ c q < 256) (hBe : ∀ q, L ≤ q → c q = 300) (hcc : cc < 60) : zMet yX8_takesHead cX8_takesHead 2 (some .boolean) rm_X8_takesHead w [.ref (zad w 82), .int (nI cc)] I J (zpi (fun v I' J' => v = bI (zSt c p (uHd c p) = zLen.getD (uHd c p) 0 ∧ c (p + zLen.getD (uHd c p) 0) = 32) ∧ I' = zup (zup I 88 (upd (I 88) cc (nI (uHd c p)))) 82 (upd (I 82) 7 (nI (p + cif (zSt c p (uHd c p) = zLen.getD (uHd c p) 0) (cif (c (p + zLen.getD (uHd c p) 0) = 32) (zLen.getD (uHd c p) 0 + 1) (zLen.getD (uHd c p) 0)) (zSt c p (uHd c p))))) ∧ J' = J)) := by
  refine zMet_of (by decide) (Nat.le_of_ble_eq_true rfl) (fun X C hm hr => ?_)
  refine z_sub (lv' := [(0, .ref (zad w 82)), (1, .int (nI cc))]) [0, 1] rfl ?_
  have hc31 : c p < 301 := c_301 (fun q hq => (hBy q hq).2) hBe _
  refine z_aload_n C dX8_takesHead_0 rfl 0 rfl ?_
  refine z_callVi C hm cl_X8_197 cv_X8_next 82 (by decide) sh82 ⟨_, _, rfl⟩ [] rfl (rest := []) rfl (k_X8_next w _ _ c L p  (by exact hL) hl (by exact hp) (by omega) (by exact hBy) hBe) ⟨rfl, rfl, Nat.le_of_ble_eq_true rfl, Nat.le_of_ble_eq_true rfl⟩ (Nat.le_of_ble_eq_true rfl) dX8_takesHead_1 (fun v_1 I_1 J_1 h_1 => ?_)
  obtain ⟨ev_1, ei_1, ej_1⟩ := h_1
  replace ev_1 := ev_1.symm; subst ev_1
  replace ei_1 := ei_1.symm; subst ei_1
  replace ej_1 := ej_1.symm; subst ej_1
  by_cases c4_104 : zNx (c p) = 104
  · skip
    refine z_lookup (tgt := 40) C dX8_takesHead_4 (by decide) (off := 36) (by rw [c4_104]; decide) (by decide) ?_
    refine z_aload_n C dX8_takesHead_40 rfl 0 rfl ?_
    refine z_getr C ff_X8_44 82 (by decide) sh82 rfl dX8_takesHead_41 ?_
    refine z_iload_n C dX8_takesHead_44 rfl 1 rfl ?_
    refine z_iconst C (v := 1) dX8_takesHead_45 (by decide) ?_
    refine z_iast C 88 (by decide) sh88 cc (by omega) (by decide) rfl dX8_takesHead_46 ?_
    refine z_I (I' := zup I 88 (upd (I 88) cc 1)) rfl ?_
    refine z_aload_n C dX8_takesHead_47 rfl 0 rfl ?_
    refine z_ldc C (v := 8423732) kc_X8_228 dX8_takesHead_48 ?_
    refine z_iconst C (v := 5) dX8_takesHead_50 (by decide) ?_
    refine z_callVi C hm cl_X8_229 cv_X8_takesWord 82 (by decide) sh82 ⟨_, _, rfl⟩ [.int 8423732, .int 5] rfl (rest := []) rfl (k_X8_takesWord w _ _ 1 c L p (8423732) 5 (by decide) (by decide) (by decide) (by exact hL) hl (by exact hp) (by omega) (by exact hBy) hBe) ⟨rfl, rfl, Nat.le_of_ble_eq_true rfl, Nat.le_of_ble_eq_true rfl⟩ (Nat.le_of_ble_eq_true rfl) dX8_takesHead_51 (fun v_2 I_2 J_2 h_2 => ?_)
    obtain ⟨ev_2, ei_2, ej_2⟩ := h_2
    have hu : uHd c p = 1 := by
      unfold uHd; rw [if_pos ((nx_eq (c p) hc31 104 (by decide)).mp c4_104)]
    replace ei_2 := ei_2.symm; subst ei_2
    replace ej_2 := ej_2.symm; subst ej_2
    subst ev_2
    refine z_iret C hr (nar_b _) dX8_takesHead_54 ?_
    refine ⟨_, rfl, ?_⟩
    rw [hu]
    exact ⟨rfl, rfl, rfl⟩
  by_cases c4_112 : zNx (c p) = 112
  · skip
    refine z_lookup (tgt := 55) C dX8_takesHead_4 (by decide) (off := 51) (by rw [c4_112]; decide) (by decide) ?_
    refine z_aload_n C dX8_takesHead_55 rfl 0 rfl ?_
    refine z_getr C ff_X8_44 82 (by decide) sh82 rfl dX8_takesHead_56 ?_
    refine z_iload_n C dX8_takesHead_59 rfl 1 rfl ?_
    refine z_iconst C (v := 2) dX8_takesHead_60 (by decide) ?_
    refine z_iast C 88 (by decide) sh88 cc (by omega) (by decide) rfl dX8_takesHead_61 ?_
    refine z_I (I' := zup I 88 (upd (I 88) cc 2)) rfl ?_
    refine z_aload_n C dX8_takesHead_62 rfl 0 rfl ?_
    refine z_ldc C (v := 16826546) kc_X8_233 dX8_takesHead_63 ?_
    refine z_iconst C (v := 5) dX8_takesHead_65 (by decide) ?_
    refine z_callVi C hm cl_X8_229 cv_X8_takesWord 82 (by decide) sh82 ⟨_, _, rfl⟩ [.int 16826546, .int 5] rfl (rest := []) rfl (k_X8_takesWord w _ _ 2 c L p (16826546) 5 (by decide) (by decide) (by decide) (by exact hL) hl (by exact hp) (by omega) (by exact hBy) hBe) ⟨rfl, rfl, Nat.le_of_ble_eq_true rfl, Nat.le_of_ble_eq_true rfl⟩ (Nat.le_of_ble_eq_true rfl) dX8_takesHead_66 (fun v_3 I_3 J_3 h_3 => ?_)
    obtain ⟨ev_3, ei_3, ej_3⟩ := h_3
    have hu : uHd c p = 2 := by
      have q := (nx_eq (c p) hc31 112 (by decide)).mp c4_112
      unfold uHd; rw [if_neg (by omega), if_pos q]
    replace ei_3 := ei_3.symm; subst ei_3
    replace ej_3 := ej_3.symm; subst ej_3
    subst ev_3
    refine z_iret C hr (nar_b _) dX8_takesHead_69 ?_
    refine ⟨_, rfl, ?_⟩
    rw [hu]
    exact ⟨rfl, rfl, rfl⟩
  by_cases c4_115 : zNx (c p) = 115
  · skip
    refine z_lookup (tgt := 70) C dX8_takesHead_4 (by decide) (off := 66) (by rw [c4_115]; decide) (by decide) ?_
    refine z_aload_n C dX8_takesHead_70 rfl 0 rfl ?_
    refine z_getr C ff_X8_44 82 (by decide) sh82 rfl dX8_takesHead_71 ?_
    refine z_iload_n C dX8_takesHead_74 rfl 1 rfl ?_
    refine z_iconst C (v := 4) dX8_takesHead_75 (by decide) ?_
    refine z_iast C 88 (by decide) sh88 cc (by omega) (by decide) rfl dX8_takesHead_76 ?_
    refine z_I (I' := zup I 88 (upd (I 88) cc 4)) rfl ?_
    refine z_aload_n C dX8_takesHead_77 rfl 0 rfl ?_
    refine z_ldc C (v := 20583955) kc_X8_234 dX8_takesHead_78 ?_
    refine z_iconst C (v := 5) dX8_takesHead_80 (by decide) ?_
    refine z_callVi C hm cl_X8_229 cv_X8_takesWord 82 (by decide) sh82 ⟨_, _, rfl⟩ [.int 20583955, .int 5] rfl (rest := []) rfl (k_X8_takesWord w _ _ 4 c L p (20583955) 5 (by decide) (by decide) (by decide) (by exact hL) hl (by exact hp) (by omega) (by exact hBy) hBe) ⟨rfl, rfl, Nat.le_of_ble_eq_true rfl, Nat.le_of_ble_eq_true rfl⟩ (Nat.le_of_ble_eq_true rfl) dX8_takesHead_81 (fun v_4 I_4 J_4 h_4 => ?_)
    obtain ⟨ev_4, ei_4, ej_4⟩ := h_4
    have hu : uHd c p = 4 := by
      have q := (nx_eq (c p) hc31 115 (by decide)).mp c4_115
      unfold uHd; rw [if_neg (by omega), if_neg (by omega), if_pos q]
    replace ei_4 := ei_4.symm; subst ei_4
    replace ej_4 := ej_4.symm; subst ej_4
    subst ev_4
    refine z_iret C hr (nar_b _) dX8_takesHead_84 ?_
    refine ⟨_, rfl, ?_⟩
    rw [hu]
    exact ⟨rfl, rfl, rfl⟩
  refine z_lookup (tgt := 85) C dX8_takesHead_4 (by decide) (off := 81) (by show Op.lookupswitch.offset [(104, 36), (112, 51), (115, 66)] _ _ = _; rw [lv_osw c4_104 (by decide), lv_osw c4_112 (by decide), lv_osw c4_115 (by decide)]; rfl) (by decide) ?_
  refine z_aload_n C dX8_takesHead_85 rfl 0 rfl ?_
  refine z_getr C ff_X8_44 82 (by decide) sh82 rfl dX8_takesHead_86 ?_
  refine z_iload_n C dX8_takesHead_89 rfl 1 rfl ?_
  refine z_aload_n C dX8_takesHead_90 rfl 0 rfl ?_
  refine z_callVi C hm cl_X8_235 cv_X8_third 82 (by decide) sh82 ⟨_, _, rfl⟩ [] rfl (rest := [.int (nI cc), .ref (zad w 88)]) rfl (k_X8_third w _ _ c L p  (by exact hL) hl (by exact hp) (by omega) (by exact hBy) hBe) ⟨rfl, rfl, Nat.le_of_ble_eq_true rfl, Nat.le_of_ble_eq_true rfl⟩ (Nat.le_of_ble_eq_true rfl) dX8_takesHead_91 (fun v_5 I_5 J_5 h_5 => ?_)
  obtain ⟨ev_5, ei_5, ej_5⟩ := h_5
  replace ev_5 := ev_5.symm; subst ev_5
  replace ei_5 := ei_5.symm; subst ei_5
  replace ej_5 := ej_5.symm; subst ej_5
  refine z_bipush C (v := 116) dX8_takesHead_94 (by decide) ?_
  refine z_icmp_ne (tgt := 103) C dX8_takesHead_96 (by decide) (fun c96 => ?_) (fun c96 => ?_)
  · skip
    refine z_iconst C (v := 0) dX8_takesHead_103 (by decide) ?_
    refine z_iast C 88 (by decide) sh88 cc (by omega) (by decide) rfl dX8_takesHead_104 ?_
    refine z_I (I' := zup I 88 (upd (I 88) cc 0)) rfl ?_
    refine z_aload_n C dX8_takesHead_105 rfl 0 rfl ?_
    refine z_getr C ff_X8_44 82 (by decide) sh82 rfl dX8_takesHead_106 ?_
    refine z_iload_n C dX8_takesHead_109 rfl 1 rfl ?_
    refine z_iald C 88 (by decide) sh88 cc (by omega) (by decide) rfl (v := 0) (by first | rfl | (simp [zup, zupJ, upd, vp_updL]; done)) dX8_takesHead_110 ?_
    refine z_iconst C (v := 3) dX8_takesHead_111 (by decide) ?_
    refine z_icmp_ne_n 0 3 (tgt := 125) C rfl rfl (by omega) (by omega) dX8_takesHead_112 (by decide) (fun c112 => ?_) (fun c112 => ?_)
    · skip
      refine z_aload_n C dX8_takesHead_125 rfl 0 rfl ?_
      refine z_sipush C (v := 23609) dX8_takesHead_126 (by decide) ?_
      refine z_iconst C (v := 3) dX8_takesHead_129 (by decide) ?_
      refine z_callVi C hm cl_X8_229 cv_X8_takesWord 82 (by decide) sh82 ⟨_, _, rfl⟩ [.int 23609, .int 3] rfl (rest := []) rfl (k_X8_takesWord w _ _ 0 c L p (23609) 3 (by decide) (by decide) (by decide) (by exact hL) hl (by exact hp) (by omega) (by exact hBy) hBe) ⟨rfl, rfl, Nat.le_of_ble_eq_true rfl, Nat.le_of_ble_eq_true rfl⟩ (Nat.le_of_ble_eq_true rfl) dX8_takesHead_130 (fun v_6 I_6 J_6 h_6 => ?_)
      obtain ⟨ev_6, ei_6, ej_6⟩ := h_6
      have hu : uHd c p = 0 := by
        unfold uHd; rw [if_neg (fun q => c4_104 ((nx_eq (c p) hc31 104 (by decide)).mpr q)), if_neg (fun q => c4_112 ((nx_eq (c p) hc31 112 (by decide)).mpr q)), if_neg (fun q => c4_115 ((nx_eq (c p) hc31 115 (by decide)).mpr q)), if_neg (fun q => c96 ((nx_eq (c (p + 2)) (c_301 (fun q hq => (hBy q hq).2) hBe _) 116 (by decide)).mpr q))]
      replace ei_6 := ei_6.symm; subst ei_6
      replace ej_6 := ej_6.symm; subst ej_6
      subst ev_6
      refine z_iret C hr (nar_b _) dX8_takesHead_133 ?_
      refine ⟨_, rfl, ?_⟩
      rw [hu]
      exact ⟨rfl, rfl, rfl⟩
    · skip
      exact absurd c112 (by decide)
  · skip
    refine z_iconst C (v := 3) dX8_takesHead_99 (by decide) ?_
    refine z_goto (tgt := 104) C dX8_takesHead_100 (by decide) ?_
    refine z_iast C 88 (by decide) sh88 cc (by omega) (by decide) rfl dX8_takesHead_104 ?_
    refine z_I (I' := zup I 88 (upd (I 88) cc 3)) rfl ?_
    refine z_aload_n C dX8_takesHead_105 rfl 0 rfl ?_
    refine z_getr C ff_X8_44 82 (by decide) sh82 rfl dX8_takesHead_106 ?_
    refine z_iload_n C dX8_takesHead_109 rfl 1 rfl ?_
    refine z_iald C 88 (by decide) sh88 cc (by omega) (by decide) rfl (v := 3) (by first | rfl | (simp [zup, zupJ, upd, vp_updL]; done)) dX8_takesHead_110 ?_
    refine z_iconst C (v := 3) dX8_takesHead_111 (by decide) ?_
    refine z_icmp_ne_n 3 3 (tgt := 125) C rfl rfl (by omega) (by omega) dX8_takesHead_112 (by decide) (fun c112 => ?_) (fun c112 => ?_)
    · skip
      exact absurd rfl c112
    · skip
      refine z_aload_n C dX8_takesHead_115 rfl 0 rfl ?_
      refine z_ldc C (v := 24170600) kc_X8_238 dX8_takesHead_116 ?_
      refine z_iconst C (v := 5) dX8_takesHead_118 (by decide) ?_
      refine z_callVi C hm cl_X8_229 cv_X8_takesWord 82 (by decide) sh82 ⟨_, _, rfl⟩ [.int 24170600, .int 5] rfl (rest := []) rfl (k_X8_takesWord w _ _ 3 c L p (24170600) 5 (by decide) (by decide) (by decide) (by exact hL) hl (by exact hp) (by omega) (by exact hBy) hBe) ⟨rfl, rfl, Nat.le_of_ble_eq_true rfl, Nat.le_of_ble_eq_true rfl⟩ (Nat.le_of_ble_eq_true rfl) dX8_takesHead_119 (fun v_7 I_7 J_7 h_7 => ?_)
      obtain ⟨ev_7, ei_7, ej_7⟩ := h_7
      have hu : uHd c p = 3 := by
        unfold uHd; rw [if_neg (fun q => c4_104 ((nx_eq (c p) hc31 104 (by decide)).mpr q)), if_neg (fun q => c4_112 ((nx_eq (c p) hc31 112 (by decide)).mpr q)), if_neg (fun q => c4_115 ((nx_eq (c p) hc31 115 (by decide)).mpr q)), if_pos ((nx_eq (c (p + 2)) (c_301 (fun q hq => (hBy q hq).2) hBe _) 116 (by decide)).mp c96)]
      replace ei_7 := ei_7.symm; subst ei_7
      replace ej_7 := ej_7.symm; subst ej_7
      subst ev_7
      refine z_goto (tgt := 133) C dX8_takesHead_122 (by decide) ?_
      refine z_iret C hr (nar_b _) dX8_takesHead_133 ?_
      refine ⟨_, rfl, ?_⟩
      rw [hu]
      exact ⟨rfl, rfl, rfl⟩
