/-! judging, the image, acts, tapes -/
noncomputable def zJd (n st : Nat) (hd : Nat → Option Nat) (go : Nat → Nat → Option Nat) (it : Nat → Int32) (goal : Nat) : Nat → Nat → Nat → Nat → Int32
  | 0, p, _, _ => nI (1000 + p)
  | c + 1, p, bf, hr => cif (¬ zin (it p) n ∨ st < p) (-10 - nI p) (match (if p = 0 then hd (zn (it p)) else go bf (zn (it p))) with
    | none => if p = 0 then -5 else -10 - nI p
    | some k => if zn (it p) = goal then nI (hr + k) else zJd n st hd go it goal c (p + 1) (zn (it p)) (hr + k))
def zBec (p q : Nat) (I' I : zI) : Prop := (∀ k, k < 64 → I' (p + 1) k = I (q + 1) k) ∧ (∀ k, k < 8 → I' (p + 2) k = I (q + 2) k) ∧ (∀ k, k < 16 → I' (p + 3) k = I (q + 3) k) ∧ (∀ k, k < 16 → I' (p + 4) k = I (q + 4) k) ∧ (∀ k, k < 16 → I' (p + 5) k = I (q + 5) k) ∧ (∀ k, k < 16 → I' (p + 6) k = I (q + 6) k) ∧ (∀ k, k < 16 → I' (p + 7) k = I (q + 7) k) ∧ (∀ k, k < 6 → I' (p + 8) k = I (q + 8) k) ∧ I' p 2 = I q 2 ∧ I' p 8 = I q 8 ∧ I' p 10 = I q 10 ∧ (∀ a, a < p ∨ p + 8 < a → I' a = I a)
theorem m1_0 {s : Int32} (h : ¬ s < -1) (h2 : s ≠ -1) : ¬ s < 0 := fun z => h2 (by
  apply Int32.toInt_inj.mp
  rw [Int32.lt_iff_toInt_lt] at h z
  have e1 : (-1 : Int32).toInt = -1 := by decide
  have e0 : (0 : Int32).toInt = 0 := by decide
  omega)
def zTak (c k : Nat) : Bool := decide (k = 0 ∨ c = k ∨ (k = 1 ∧ c = 4) ∨ (k = 3 ∧ 5 ≤ c))
theorem zTak_s : ∀ c, c < 7 → ∀ k, k < 7 → c ≠ k → c ≠ 0 → zTak (aAb c) k = zTak c k := by decide +kernel
theorem zTak_0 : ∀ k, k < 7 → 0 ≠ k → zTak 0 k = false := by decide +kernel
def zCt (x a b c d e f : Int32) : Int32 := if x = 0 then a else if x = 1 then b else if x = 2 then c else if x = 3 then d else if x = 4 then e else if x = 5 then f else -2
abbrev rm_X7_tapeAt : Room := { frames := 4, cells := 0, slots := 0, locals := 200 }
set_option maxRecDepth 100000 in
set_option maxHeartbeats 4000000 in
theorem k_X7_tapeAt (w : zW) (I : zI) (J : zJ)  (x : Int32)  : zMet yX7_tapeAt cX7_tapeAt 2 (some (.object "TuesdayKnew$Tape")) rm_X7_tapeAt w [.ref (zad w 0), .int x] I J (zpr (fun v I' J' => v = cif (zin x 6) (.ref (zad w (35 + 2 * zn x))) .null ∧ I' = I ∧ J' = J)) := by
  refine zMet_of (by decide) (Nat.le_of_ble_eq_true rfl) (fun X C hm hr => ?_)
  refine z_sub (lv' := [(0, .ref (zad w 0)), (1, .int x)]) [0, 1] rfl ?_
  refine z_iload_n C dX7_tapeAt_0 rfl 1 rfl ?_
  refine z_if_lt (tgt := 19) C dX7_tapeAt_1 (by decide) (fun c1 => ?_) (fun c1 => ?_)
  · skip
    refine z_null C dX7_tapeAt_19 ?_
    refine z_aret C hr (Or.inl rfl) dX7_tapeAt_20 ?_
    refine ⟨_, rfl, ?_⟩
    exact ⟨by rw [cif_f (zin_neg c1 (by decide))], rfl, rfl⟩
  · skip
    refine z_iload_n C dX7_tapeAt_4 rfl 1 rfl ?_
    refine z_bipush C (v := 6) dX7_tapeAt_5 (by decide) ?_
    refine z_icmp_ge (tgt := 19) C dX7_tapeAt_7 (by decide) (fun c7 => ?_) (fun c7 => ?_)
    · skip
      refine z_null C dX7_tapeAt_19 ?_
      refine z_aret C hr (Or.inl rfl) dX7_tapeAt_20 ?_
      refine ⟨_, rfl, ?_⟩
      exact ⟨by rw [cif_f (zin_ge (n := 6) c7 (by decide))], rfl, rfl⟩
    · skip
      obtain ⟨t, ht, rfl⟩ := zin_of (n := 6) c1 c7 (by decide)
      refine z_aload_n C dX7_tapeAt_10 rfl 0 rfl ?_
      refine z_getr C ff_X7_51 0 (by decide) sh0 rfl dX7_tapeAt_11 ?_
      refine z_iload_n C dX7_tapeAt_14 rfl 1 rfl ?_
      refine z_aald C 34 (by decide) 4 (by decide) sh34 t (by omega) (by decide) rfl (q := 35 + 2 * t) rfl dX7_tapeAt_15 ?_
      refine z_goto (tgt := 20) C dX7_tapeAt_16 (by decide) ?_
      refine z_aret C hr (Or.inr ⟨_, rfl⟩) dX7_tapeAt_20 ?_
      refine ⟨_, rfl, ?_⟩
      exact ⟨by rw [cif_t ⟨t, ht, rfl⟩, zn_n (by omega)], rfl, rfl⟩
abbrev rm_X7_judgeRow : Room := { frames := 8, cells := 0, slots := 0, locals := 303 }
set_option maxRecDepth 100000 in
set_option maxHeartbeats 4000000 in
theorem k_X7_judgeRow (w : zW) (I : zI) (J : zJ) (n : Nat) (h : Nat) (A : List zCla) (hd : Nat → Option Nat) (t : Nat) (ln : Nat → Nat) (i : Nat) (goal : Nat) (hN : I 0 1 = nI n) (hn : n ≤ 8) (hh : h < 7) (hH : I 5 2 = nI h) (hL : cLaw I h A) (hd7 : ∀ a, a < n → I 7 a = oI (hd a)) (hd99 : ∀ a k, hd a = some k → k ≤ 99) (hTp : ∀ t, t < 6 → I (35 + 2 * t) 1 = nI (ln t) ∧ ln t ≤ 60) (ht : t < 6) (hi : i < ln t) (hgo : goal < n) : zMet yX7_judgeRow cX7_judgeRow 11 (some .int) rm_X7_judgeRow w [.ref (zad w 0), .ref (zad w (35 + 2 * t)), .int (nI i), .int (nI goal)] I J (zpi (fun v I' J' => v = zJd n (aSteps A) hd (aGo (I 6) A) (fun p => (J (35 + 2 * t + 1) (i + p)).toInt32) goal (ln t - i) 0 0 0 ∧ I' = I ∧ J' = J)) := by
  refine zMet_of (by decide) (Nat.le_of_ble_eq_true rfl) (fun X C hm hr => ?_)
  refine z_sub (lv' := [(0, .ref (zad w 0)), (1, .ref (zad w (35 + 2 * t))), (2, .int (nI i)), (3, .int (nI goal))]) [0, 1, 2, 3] rfl ?_
  have hl60 := (hTp t ht).2
  have hst := aSteps_le A
  refine z_aload_n C dX7_judgeRow_0 rfl 0 rfl ?_
  refine z_getr C ff_X7_62 0 (by decide) sh0 rfl dX7_judgeRow_1 ?_
  refine z_geth C ff_X7_104 5 (by decide) sh5 rfl (q := 47 + 5 * h) (zhd_h hH hh) dX7_judgeRow_4 ?_
  refine z_callVi C hm cl_X7_326 cv_X1_mostSteps (47 + 5 * h) (shLn0 hh) (shL0 hh) ⟨_, _, rfl⟩ [] rfl (rest := []) rfl (k_X1_mostSteps w _ _ h A  hh hL) ⟨rfl, rfl, Nat.le_of_ble_eq_true rfl, Nat.le_of_ble_eq_true rfl⟩ (Nat.le_of_ble_eq_true rfl) dX7_judgeRow_7 (fun v_1 I_1 J_1 h_1 => ?_)
  obtain ⟨ev_1, ei_1, ej_1⟩ := h_1
  replace ev_1 := ev_1.symm; subst ev_1
  replace ei_1 := ei_1.symm; subst ei_1
  replace ej_1 := ej_1.symm; subst ej_1
  refine z_istore C hm (lv' := [(4, .int (nI (aSteps A))), (0, .ref (zad w 0)), (1, .ref (zad w (35 + 2 * t))), (2, .int (nI i)), (3, .int (nI goal))]) dX7_judgeRow_10 (by decide) rfl ?_
  refine z_iconst C (v := 0) dX7_judgeRow_12 (by decide) ?_
  refine z_istore C hm (lv' := [(5, .int 0), (4, .int (nI (aSteps A))), (0, .ref (zad w 0)), (1, .ref (zad w (35 + 2 * t))), (2, .int (nI i)), (3, .int (nI goal))]) dX7_judgeRow_13 (by decide) rfl ?_
  refine z_iconst C (v := -1) dX7_judgeRow_15 (by decide) ?_
  refine z_istore C hm (lv' := [(6, .int (-1)), (5, .int 0), (4, .int (nI (aSteps A))), (0, .ref (zad w 0)), (1, .ref (zad w (35 + 2 * t))), (2, .int (nI i)), (3, .int (nI goal))]) dX7_judgeRow_16 (by decide) rfl ?_
  refine z_iload_n C dX7_judgeRow_18 rfl 5 rfl ?_
  refine z_istore C hm (lv' := [(7, .int (nI i)), (6, .int (-1)), (5, .int 0), (4, .int (nI (aSteps A))), (0, .ref (zad w 0)), (1, .ref (zad w (35 + 2 * t))), (2, .int (nI i)), (3, .int (nI goal))]) dX7_judgeRow_19 (by decide) rfl ?_
  have L21 : ∀ (d : Nat) (p bf hr9 : Nat) (bv : Int32) (v21_5 : Int32) (v21_6 : Int32) (v21_7 : Int32), (ln t - (i + p)) < d → (i + p ≤ ln t) → (p = 0 ∨ (bv = nI bf ∧ bf < n)) → (hr9 ≤ 1000 * p) → (zJd n (aSteps A) hd (aGo (I 6) A) (fun p => (J (35 + 2 * t + 1) (i + p)).toInt32) goal (ln t - (i + p)) p bf hr9 = zJd n (aSteps A) hd (aGo (I 6) A) (fun p => (J (35 + 2 * t + 1) (i + p)).toInt32) goal (ln t - i) 0 0 0) → v21_5 = nI hr9 → v21_6 = bv → v21_7 = nI (i + p) → Z X w I J 21 [(0, .ref (zad w 0)), (1, .ref (zad w (35 + 2 * t))), (2, .int (nI i)), (3, .int (nI goal)), (4, .int (nI (aSteps A))), (5, .int v21_5), (6, .int v21_6), (7, .int v21_7)] [] := by
    intro d
    induction d with
    | zero => intro p bf hr9 bv v21_5 v21_6 v21_7 hd; exact absurd hd (Nat.not_lt_zero _)
    | succ d ih21 => 
      intro p bf hr9 bv v21_5 v21_6 v21_7 hd21 hp hbf hrr hE e_v21_5 e_v21_6 e_v21_7
      replace e_v21_5 := e_v21_5.symm; subst e_v21_5
      replace e_v21_6 := e_v21_6.symm; subst e_v21_6
      replace e_v21_7 := e_v21_7.symm; subst e_v21_7
      refine z_iload C dX7_judgeRow_21 7 rfl ?_
      refine z_aload_n C dX7_judgeRow_23 rfl 1 rfl ?_
      refine z_geti C ff_X7_329 (35 + 2 * t) (shTn0 ht) (shT0 ht) rfl (v := nI (ln t)) (hTp t ht).1 dX7_judgeRow_24 ?_
      refine z_icmp_ge_n (i + p) (ln t) (tgt := 146) C rfl rfl (by omega) (by omega) dX7_judgeRow_27 (by decide) (fun c27 => ?_) (fun c27 => ?_)
      · skip
        refine z_sipush C (v := 1000) dX7_judgeRow_146 (by decide) ?_
        refine z_aload_n C dX7_judgeRow_149 rfl 1 rfl ?_
        refine z_geti C ff_X7_329 (35 + 2 * t) (shTn0 ht) (shT0 ht) rfl (v := nI (ln t)) (hTp t ht).1 dX7_judgeRow_150 ?_
        refine z_iadd C dX7_judgeRow_153 ?_
        refine z_ti (y := nI (1000 + (ln t))) (nI_add 1000 (ln t)) ?_
        refine z_iload_n C dX7_judgeRow_154 rfl 2 rfl ?_
        refine z_isub C dX7_judgeRow_155 ?_
        refine z_ti (y := nI ((1000 + (ln t)) - i)) (pk_sub (by omega)) ?_
        refine z_iret C hr rfl dX7_judgeRow_156 ?_
        refine ⟨_, rfl, ?_⟩
        exact ⟨by
          rw [← hE, show ln t - (i + p) = 0 by omega, zJd]
          congr 1; omega, rfl, rfl⟩
      · skip
        have hcc : ln t - (i + p) = ln t - (i + p) - 1 + 1 := by omega
        rw [hcc, zJd] at hE
        refine z_iload C dX7_judgeRow_30 7 rfl ?_
        refine z_iload_n C dX7_judgeRow_32 rfl 2 rfl ?_
        refine z_isub C dX7_judgeRow_33 ?_
        refine z_ti (y := nI p) (by rw [pk_sub (by omega), Nat.add_sub_cancel_left]) ?_
        refine z_istore C hm (lv' := [(8, .int (nI p)), (0, .ref (zad w 0)), (1, .ref (zad w (35 + 2 * t))), (2, .int (nI i)), (3, .int (nI goal)), (4, .int (nI (aSteps A))), (5, .int (nI hr9)), (6, .int bv), (7, .int (nI (i + p)))]) dX7_judgeRow_34 (by decide) rfl ?_
        refine z_aload_n C dX7_judgeRow_36 rfl 2 rfl ?_
        refine z_getr C ff_X7_309 (35 + 2 * t) (shTn0 ht) (shT0 ht) rfl dX7_judgeRow_37 ?_
        refine z_iload C dX7_judgeRow_40 8 rfl ?_
        refine z_lald C (35 + 2 * t + 1) (shTn1 ht) (shT1 ht) (i + p) (by omega) (by decide) rfl (v := J (35 + 2 * t + 1) (i + p)) rfl dX7_judgeRow_42 ?_
        refine z_l2i C (v := (J (35 + 2 * t + 1) (i + p)).toInt32) dX7_judgeRow_43 rfl ?_
        refine z_istore C hm (lv' := [(9, .int ((J (35 + 2 * t + 1) (i + p)).toInt32)), (8, .int (nI p)), (0, .ref (zad w 0)), (1, .ref (zad w (35 + 2 * t))), (2, .int (nI i)), (3, .int (nI goal)), (4, .int (nI (aSteps A))), (5, .int (nI hr9)), (6, .int bv), (7, .int (nI (i + p)))]) dX7_judgeRow_44 (by decide) rfl ?_
        refine z_aload_n C dX7_judgeRow_46 rfl 2 rfl ?_
        refine z_iload C dX7_judgeRow_47 0 rfl ?_
        refine z_callVi C hm cl_X7_77 cv_X7_isName 0 (by decide) sh0 ⟨_, _, rfl⟩ [.int ((J (35 + 2 * t + 1) (i + p)).toInt32)] rfl (rest := []) rfl (k_X7_isName w _ _ n ((J (35 + 2 * t + 1) (i + p)).toInt32) hN hn) ⟨rfl, rfl, Nat.le_of_ble_eq_true rfl, Nat.le_of_ble_eq_true rfl⟩ (Nat.le_of_ble_eq_true rfl) dX7_judgeRow_49 (fun v_2 I_2 J_2 h_2 => ?_)
        obtain ⟨ev_2, ei_2, ej_2⟩ := h_2
        replace ev_2 := ev_2.symm; subst ev_2
        replace ei_2 := ei_2.symm; subst ei_2
        replace ej_2 := ej_2.symm; subst ej_2
        refine z_ifeq_b (tgt := 62) C dX7_judgeRow_52 (by decide) (fun c52 => ?_) (fun c52 => ?_)
        · skip
          refine z_bipush C (v := -10) dX7_judgeRow_62 (by decide) ?_
          refine z_iload C dX7_judgeRow_64 1 rfl ?_
          refine z_isub C dX7_judgeRow_66 ?_
          refine z_iret C hr rfl dX7_judgeRow_67 ?_
          refine ⟨_, rfl, ?_⟩
          exact ⟨by rw [← hE, cif_t (Or.inl c52)], rfl, rfl⟩
        · skip
          obtain ⟨b, hb, hbe⟩ := c52
          rw [hbe]
          refine z_iload C dX7_judgeRow_55 1 rfl ?_
          refine z_iload C dX7_judgeRow_57 6 rfl ?_
          refine z_icmp_le_n p (aSteps A) (tgt := 68) C rfl rfl (by omega) (by omega) dX7_judgeRow_59 (by decide) (fun c59 => ?_) (fun c59 => ?_)
          · skip
            rw [cif_f (fun q => q.elim (fun z => z ⟨b, hb, hbe⟩) (fun z => by omega)), show (J (35 + 2 * t + 1) (i + p)).toInt32 = nI b from hbe, zn_n (by omega)] at hE
            refine z_iload C dX7_judgeRow_68 1 rfl ?_
            refine z_if_ne (tgt := 86) C dX7_judgeRow_70 (by decide) (fun c70 => ?_) (fun c70 => ?_)
            · skip
              have hp0 : p ≠ 0 := fun q => c70 ((nI_0eq (by omega)).mpr q)
              rw [if_neg hp0] at hE
              obtain ⟨hbv, hbfn⟩ := hbf.resolve_left hp0
              subst hbv
              refine z_aload_n C dX7_judgeRow_86 rfl 2 rfl ?_
              refine z_getr C ff_X7_62 0 (by decide) sh0 rfl dX7_judgeRow_87 ?_
              refine z_iload C dX7_judgeRow_90 8 rfl ?_
              refine z_iload C dX7_judgeRow_92 0 rfl ?_
              refine z_callVi C hm cl_X7_108 cv_X6_hoursBetween 5 (by decide) sh5 ⟨_, _, rfl⟩ [.int (nI bf), .int (nI b)] rfl (rest := []) rfl (k_X6_hoursBetween w _ _ h A bf b (by omega) (by omega) hh hH hL) ⟨rfl, rfl, Nat.le_of_ble_eq_true rfl, Nat.le_of_ble_eq_true rfl⟩ (Nat.le_of_ble_eq_true rfl) dX7_judgeRow_94 (fun v_3 I_3 J_3 h_3 => ?_)
              obtain ⟨ev_3, ei_3, ej_3⟩ := h_3
              replace ev_3 := ev_3.symm; subst ev_3
              replace ei_3 := ei_3.symm; subst ei_3
              replace ej_3 := ej_3.symm; subst ej_3
              refine z_istore C hm (lv' := [(10, .int (oI (aGo (I 6) A bf b))), (9, .int (nI b)), (8, .int (nI p)), (0, .ref (zad w 0)), (1, .ref (zad w (35 + 2 * t))), (2, .int (nI i)), (3, .int (nI goal)), (4, .int (nI (aSteps A))), (5, .int (nI hr9)), (6, .int (nI bf)), (7, .int (nI (i + p)))]) dX7_judgeRow_97 (by decide) rfl ?_
              refine z_iload C dX7_judgeRow_99 0 rfl ?_
              refine z_if_ge (tgt := 120) C dX7_judgeRow_101 (by decide) (fun c101 => ?_) (fun c101 => ?_)
              · skip
                obtain ⟨kk, hkk⟩ := oI_t c101
                have hkl : kk ≤ 999 := aGo_le hL.1 kk hkk
                have hv : oI (aGo (I 6) A bf b) = nI kk := by rw [hkk]; rfl
                rw [hv]
                rw [hkk] at hE
                simp only at hE
                refine z_iload C dX7_judgeRow_120 8 rfl ?_
                refine z_iload C dX7_judgeRow_122 0 rfl ?_
                refine z_iadd C dX7_judgeRow_124 ?_
                refine z_ti (y := nI (hr9 + kk)) (nI_add hr9 kk) ?_
                refine z_istore C hm (lv' := [(5, .int (nI (hr9 + kk))), (10, .int (nI kk)), (9, .int (nI b)), (8, .int (nI p)), (0, .ref (zad w 0)), (1, .ref (zad w (35 + 2 * t))), (2, .int (nI i)), (3, .int (nI goal)), (4, .int (nI (aSteps A))), (6, .int (nI bf)), (7, .int (nI (i + p)))]) dX7_judgeRow_125 (by decide) rfl ?_
                refine z_iload C dX7_judgeRow_127 2 rfl ?_
                refine z_iload_n C dX7_judgeRow_129 rfl 7 rfl ?_
                refine z_icmp_ne_n b goal (tgt := 136) C rfl rfl (by omega) (by omega) dX7_judgeRow_130 (by decide) (fun c130 => ?_) (fun c130 => ?_)
                · skip
                  refine z_iload C dX7_judgeRow_136 2 rfl ?_
                  refine z_istore C hm (lv' := [(6, .int (nI b)), (5, .int (nI (hr9 + kk))), (10, .int (nI kk)), (9, .int (nI b)), (8, .int (nI p)), (0, .ref (zad w 0)), (1, .ref (zad w (35 + 2 * t))), (2, .int (nI i)), (3, .int (nI goal)), (4, .int (nI (aSteps A))), (7, .int (nI (i + p)))]) dX7_judgeRow_138 (by decide) rfl ?_
                  refine z_iinc C hm 10 (v := nI (i + p + 1)) (lv' := [(7, .int (nI (i + p + 1))), (6, .int (nI b)), (5, .int (nI (hr9 + kk))), (10, .int (nI kk)), (9, .int (nI b)), (8, .int (nI p)), (0, .ref (zad w 0)), (1, .ref (zad w (35 + 2 * t))), (2, .int (nI i)), (3, .int (nI goal)), (4, .int (nI (aSteps A)))]) dX7_judgeRow_140 rfl (nI_add (i + p) 1) (by decide) rfl ?_
                  refine z_goto (tgt := 21) C dX7_judgeRow_143 (by decide) ?_
                  exact z_sub [6, 7, 8, 9, 10, 2, 1, 0] rfl (ih21  (p + 1) b (hr9 + kk) (nI b) _ _ _ (by omega) (by omega) (Or.inr ⟨rfl, hb⟩) (by omega) (by rw [if_neg c130] at hE; rw [show ln t - (i + (p + 1)) = ln t - (i + p) - 1 by omega]; exact hE) rfl rfl rfl)
                · skip
                  refine z_iload C dX7_judgeRow_133 0 rfl ?_
                  refine z_iret C hr rfl dX7_judgeRow_135 ?_
                  refine ⟨_, rfl, ?_⟩
                  exact ⟨by rw [← hE, if_pos c130], rfl, rfl⟩
              · skip
                have hkn : aGo (I 6) A bf b = none := oI_f (aGo_le hL.1) c101
                rw [hkn] at hE
                simp only [if_neg hp0] at hE
                refine z_iload C dX7_judgeRow_104 2 rfl ?_
                refine z_if_ne (tgt := 114) C dX7_judgeRow_106 (by decide) (fun c106 => ?_) (fun c106 => ?_)
                · skip
                  refine z_bipush C (v := -10) dX7_judgeRow_114 (by decide) ?_
                  refine z_iload C dX7_judgeRow_116 2 rfl ?_
                  refine z_isub C dX7_judgeRow_118 ?_
                  refine z_iret C hr rfl dX7_judgeRow_119 ?_
                  refine ⟨_, rfl, ?_⟩
                  exact ⟨by rw [← hE], rfl, rfl⟩
                · skip
                  exact absurd c106 c70
            · skip
              have hp0 : p = 0 := (nI_0eq (by omega)).mp c70
              rw [if_pos hp0] at hE
              refine z_aload_n C dX7_judgeRow_73 rfl 2 rfl ?_
              refine z_getr C ff_X7_62 0 (by decide) sh0 rfl dX7_judgeRow_74 ?_
              refine z_getr C ff_X7_87 5 (by decide) sh5 rfl dX7_judgeRow_77 ?_
              refine z_iload C dX7_judgeRow_80 0 rfl ?_
              refine z_iald C 7 (by decide) sh7 b (by omega) (by decide) rfl (v := oI (hd b)) (hd7 b hb) dX7_judgeRow_82 ?_
              refine z_goto (tgt := 97) C dX7_judgeRow_83 (by decide) ?_
              refine z_istore C hm (lv' := [(10, .int (oI (hd b))), (9, .int (nI b)), (8, .int (nI p)), (0, .ref (zad w 0)), (1, .ref (zad w (35 + 2 * t))), (2, .int (nI i)), (3, .int (nI goal)), (4, .int (nI (aSteps A))), (5, .int (nI hr9)), (6, .int bv), (7, .int (nI (i + p)))]) dX7_judgeRow_97 (by decide) rfl ?_
              refine z_iload C dX7_judgeRow_99 0 rfl ?_
              refine z_if_ge (tgt := 120) C dX7_judgeRow_101 (by decide) (fun c101 => ?_) (fun c101 => ?_)
              · skip
                obtain ⟨kk, hkk⟩ := oI_t c101
                have hkl : kk ≤ 999 := Nat.le_trans (hd99 b kk hkk) (by decide)
                have hv : oI (hd b) = nI kk := by rw [hkk]; rfl
                rw [hv]
                rw [hkk] at hE
                simp only at hE
                refine z_iload C dX7_judgeRow_120 8 rfl ?_
                refine z_iload C dX7_judgeRow_122 0 rfl ?_
                refine z_iadd C dX7_judgeRow_124 ?_
                refine z_ti (y := nI (hr9 + kk)) (nI_add hr9 kk) ?_
                refine z_istore C hm (lv' := [(5, .int (nI (hr9 + kk))), (10, .int (nI kk)), (9, .int (nI b)), (8, .int (nI p)), (0, .ref (zad w 0)), (1, .ref (zad w (35 + 2 * t))), (2, .int (nI i)), (3, .int (nI goal)), (4, .int (nI (aSteps A))), (6, .int bv), (7, .int (nI (i + p)))]) dX7_judgeRow_125 (by decide) rfl ?_
                refine z_iload C dX7_judgeRow_127 2 rfl ?_
                refine z_iload_n C dX7_judgeRow_129 rfl 7 rfl ?_
                refine z_icmp_ne_n b goal (tgt := 136) C rfl rfl (by omega) (by omega) dX7_judgeRow_130 (by decide) (fun c130 => ?_) (fun c130 => ?_)
                · skip
                  refine z_iload C dX7_judgeRow_136 2 rfl ?_
                  refine z_istore C hm (lv' := [(6, .int (nI b)), (5, .int (nI (hr9 + kk))), (10, .int (nI kk)), (9, .int (nI b)), (8, .int (nI p)), (0, .ref (zad w 0)), (1, .ref (zad w (35 + 2 * t))), (2, .int (nI i)), (3, .int (nI goal)), (4, .int (nI (aSteps A))), (7, .int (nI (i + p)))]) dX7_judgeRow_138 (by decide) rfl ?_
                  refine z_iinc C hm 10 (v := nI (i + p + 1)) (lv' := [(7, .int (nI (i + p + 1))), (6, .int (nI b)), (5, .int (nI (hr9 + kk))), (10, .int (nI kk)), (9, .int (nI b)), (8, .int (nI p)), (0, .ref (zad w 0)), (1, .ref (zad w (35 + 2 * t))), (2, .int (nI i)), (3, .int (nI goal)), (4, .int (nI (aSteps A)))]) dX7_judgeRow_140 rfl (nI_add (i + p) 1) (by decide) rfl ?_
                  refine z_goto (tgt := 21) C dX7_judgeRow_143 (by decide) ?_
                  exact z_sub [6, 7, 8, 9, 10, 2, 1, 0] rfl (ih21  (p + 1) b (hr9 + kk) (nI b) _ _ _ (by omega) (by omega) (Or.inr ⟨rfl, hb⟩) (by omega) (by rw [if_neg c130] at hE; rw [show ln t - (i + (p + 1)) = ln t - (i + p) - 1 by omega]; exact hE) rfl rfl rfl)
                · skip
                  refine z_iload C dX7_judgeRow_133 0 rfl ?_
                  refine z_iret C hr rfl dX7_judgeRow_135 ?_
                  refine ⟨_, rfl, ?_⟩
                  exact ⟨by rw [← hE, if_pos c130], rfl, rfl⟩
              · skip
                have hkn : hd b = none := oI_f (fun k q => by have := hd99 b k q; omega) c101
                rw [hkn] at hE
                simp only [if_pos hp0] at hE
                refine z_iload C dX7_judgeRow_104 2 rfl ?_
                refine z_if_ne (tgt := 114) C dX7_judgeRow_106 (by decide) (fun c106 => ?_) (fun c106 => ?_)
                · skip
                  exact absurd c70 c106
                · skip
                  refine z_bipush C (v := -5) dX7_judgeRow_109 (by decide) ?_
                  refine z_goto (tgt := 119) C dX7_judgeRow_111 (by decide) ?_
                  refine z_iret C hr rfl dX7_judgeRow_119 ?_
                  refine ⟨_, rfl, ?_⟩
                  exact ⟨by rw [← hE], rfl, rfl⟩
          · skip
            refine z_bipush C (v := -10) dX7_judgeRow_62 (by decide) ?_
            refine z_iload C dX7_judgeRow_64 1 rfl ?_
            refine z_isub C dX7_judgeRow_66 ?_
            refine z_iret C hr rfl dX7_judgeRow_67 ?_
            refine ⟨_, rfl, ?_⟩
            exact ⟨by rw [← hE, cif_t (Or.inr (by omega))], rfl, rfl⟩
  exact z_sub [4, 5, 6, 7, 3, 2, 1, 0] rfl (L21 _ 0 0 0 (-1) _ _ _ (Nat.lt_succ_self _) (by omega) (Or.inl rfl) (by omega) rfl rfl rfl rfl)
abbrev rm_X7_judge : Room := { frames := 9, cells := 0, slots := 0, locals := 333 }
set_option maxRecDepth 100000 in
set_option maxHeartbeats 4000000 in
theorem k_X7_judge (w : zW) (I : zI) (J : zJ) (n : Nat) (h : Nat) (A : List zCla) (hd : Nat → Option Nat) (ln : Nat → Nat) (x : Int32) (y : Int32) (z : Int32) (hN : I 0 1 = nI n) (hn : n ≤ 8) (hh : h < 7) (hH : I 5 2 = nI h) (hL : cLaw I h A) (hd7 : ∀ a, a < n → I 7 a = oI (hd a)) (hd99 : ∀ a k, hd a = some k → k ≤ 99) (hTp : ∀ t, t < 6 → I (35 + 2 * t) 1 = nI (ln t) ∧ ln t ≤ 60) : zMet yX7_judge cX7_judge 5 (some .int) rm_X7_judge w [.ref (zad w 0), .int x, .int y, .int z] I J (zpi (fun v I' J' => (((¬ zin x 6 ∨ ¬ zin z n) ∧ v = -1) ∨ (∃ t, t < 6 ∧ x = nI t ∧ ∃ b, b < n ∧ z = nI b ∧ ((I (35 + 2 * t) 0 ≠ -1 ∧ I (35 + 2 * t) 0 ≠ 0 ∧ v = -12) ∨ ((I (35 + 2 * t) 0 = -1 ∨ I (35 + 2 * t) 0 = 0) ∧ ((¬ zin y (ln t) ∧ v = 1000) ∨ (∃ i, i < ln t ∧ y = nI i ∧ v = zJd n (aSteps A) hd (aGo (I 6) A) (fun p => (J (35 + 2 * t + 1) (i + p)).toInt32) b (ln t - i) 0 0 0)))))) ∧ I' = I ∧ J' = J)) := by
  refine zMet_of (by decide) (Nat.le_of_ble_eq_true rfl) (fun X C hm hr => ?_)
  refine z_sub (lv' := [(0, .ref (zad w 0)), (1, .int x), (2, .int y), (3, .int z)]) [0, 1, 2, 3] rfl ?_
  refine z_aload_n C dX7_judge_0 rfl 0 rfl ?_
  refine z_iload_n C dX7_judge_1 rfl 1 rfl ?_
  refine z_callVr C hm cl_X7_266 cv_X7_tapeAt 0 (by decide) sh0 ⟨_, _, rfl⟩ [.int x] rfl (rest := []) rfl (k_X7_tapeAt w _ _ x) ⟨rfl, rfl, Nat.le_of_ble_eq_true rfl, Nat.le_of_ble_eq_true rfl⟩ (Nat.le_of_ble_eq_true rfl) dX7_judge_2 (fun v_1 I_1 J_1 h_1 => ?_)
  obtain ⟨ev_1, ei_1, ej_1⟩ := h_1
  replace ei_1 := ei_1.symm; subst ei_1
  replace ej_1 := ej_1.symm; subst ej_1
  by_cases t_1 : zin x 6
  · skip
    obtain ⟨t, ht, rfl⟩ := t_1
    rw [cif_t ⟨t, ht, rfl⟩, zn_n (by omega)] at ev_1
    subst ev_1
    refine z_astore C hm (lv' := [(4, .ref (zad w (35 + 2 * t))), (0, .ref (zad w 0)), (1, .int (nI t)), (2, .int y), (3, .int z)]) dX7_judge_5 (by decide) rfl ?_
    refine z_aload C dX7_judge_7 0 rfl ?_
    refine z_ifnull C dX7_judge_9 ?_
    refine z_aload_n C dX7_judge_12 rfl 1 rfl ?_
    refine z_iload_n C dX7_judge_13 rfl 4 rfl ?_
    refine z_callVi C hm cl_X7_77 cv_X7_isName 0 (by decide) sh0 ⟨_, _, rfl⟩ [.int z] rfl (rest := []) rfl (k_X7_isName w _ _ n z hN hn) ⟨rfl, rfl, Nat.le_of_ble_eq_true rfl, Nat.le_of_ble_eq_true rfl⟩ (Nat.le_of_ble_eq_true rfl) dX7_judge_14 (fun v_2 I_2 J_2 h_2 => ?_)
    obtain ⟨ev_2, ei_2, ej_2⟩ := h_2
    replace ev_2 := ev_2.symm; subst ev_2
    replace ei_2 := ei_2.symm; subst ei_2
    replace ej_2 := ej_2.symm; subst ej_2
    refine z_ifne_b (tgt := 22) C dX7_judge_17 (by decide) (fun c17 => ?_) (fun c17 => ?_)
    · skip
      obtain ⟨b, hb, rfl⟩ := c17
      refine z_aload C dX7_judge_22 0 rfl ?_
      refine z_geti C ff_X7_270 (35 + 2 * t) (shTn0 ht) (shT0 ht) rfl (v := I (35 + 2 * t) 0) rfl dX7_judge_24 ?_
      refine z_iconst C (v := -1) dX7_judge_27 (by decide) ?_
      refine z_icmp_eq (tgt := 42) C dX7_judge_28 (by decide) (fun c28 => ?_) (fun c28 => ?_)
      · skip
        refine z_aload C dX7_judge_42 0 rfl ?_
        refine z_iload_n C dX7_judge_44 rfl 3 rfl ?_
        refine z_callVi C hm cl_X7_273 cv_X4_hasPlace (35 + 2 * t) (shTn0 ht) (shT0 ht) ⟨_, _, rfl⟩ [.int y] rfl (rest := []) rfl (k_X4_hasPlace w _ _ t (ln t) y ht (hTp t ht).1 (hTp t ht).2) ⟨rfl, rfl, Nat.le_of_ble_eq_true rfl, Nat.le_of_ble_eq_true rfl⟩ (Nat.le_of_ble_eq_true rfl) dX7_judge_45 (fun v_3 I_3 J_3 h_3 => ?_)
        obtain ⟨ev_3, ei_3, ej_3⟩ := h_3
        replace ev_3 := ev_3.symm; subst ev_3
        replace ei_3 := ei_3.symm; subst ei_3
        replace ej_3 := ej_3.symm; subst ej_3
        refine z_ifne_b (tgt := 55) C dX7_judge_48 (by decide) (fun c48 => ?_) (fun c48 => ?_)
        · skip
          obtain ⟨i, hi, rfl⟩ := c48
          refine z_aload_n C dX7_judge_55 rfl 1 rfl ?_
          refine z_aload C dX7_judge_56 0 rfl ?_
          refine z_iload_n C dX7_judge_58 rfl 3 rfl ?_
          refine z_iload_n C dX7_judge_59 rfl 4 rfl ?_
          refine z_callVi C hm cl_X7_276 cv_X7_judgeRow 0 (by decide) sh0 ⟨_, _, rfl⟩ [.ref (zad w (35 + 2 * t)), .int (nI i), .int (nI b)] rfl (rest := []) rfl (k_X7_judgeRow w _ _ n h A hd t ln i b hN hn hh hH hL hd7 hd99 hTp ht hi hb) ⟨rfl, rfl, Nat.le_of_ble_eq_true rfl, Nat.le_of_ble_eq_true rfl⟩ (Nat.le_of_ble_eq_true rfl) dX7_judge_60 (fun v_4 I_4 J_4 h_4 => ?_)
          obtain ⟨ev_4, ei_4, ej_4⟩ := h_4
          replace ev_4 := ev_4.symm; subst ev_4
          replace ei_4 := ei_4.symm; subst ei_4
          replace ej_4 := ej_4.symm; subst ej_4
          refine z_iret C hr rfl dX7_judge_63 ?_
          refine ⟨_, rfl, ?_⟩
          exact ⟨Or.inr ⟨t, ht, rfl, b, hb, rfl, Or.inr ⟨Or.inl c28, Or.inr ⟨i, hi, rfl, rfl⟩⟩⟩, rfl, rfl⟩
        · skip
          refine z_sipush C (v := 1000) dX7_judge_51 (by decide) ?_
          refine z_iret C hr rfl dX7_judge_54 ?_
          refine ⟨_, rfl, ?_⟩
          exact ⟨Or.inr ⟨t, ht, rfl, b, hb, rfl, Or.inr ⟨Or.inl c28, Or.inl ⟨c48, rfl⟩⟩⟩, rfl, rfl⟩
      · skip
        refine z_aload C dX7_judge_31 0 rfl ?_
        refine z_geti C ff_X7_270 (35 + 2 * t) (shTn0 ht) (shT0 ht) rfl (v := I (35 + 2 * t) 0) rfl dX7_judge_33 ?_
        refine z_if_eq (tgt := 42) C dX7_judge_36 (by decide) (fun c36 => ?_) (fun c36 => ?_)
        · skip
          refine z_aload C dX7_judge_42 0 rfl ?_
          refine z_iload_n C dX7_judge_44 rfl 3 rfl ?_
          refine z_callVi C hm cl_X7_273 cv_X4_hasPlace (35 + 2 * t) (shTn0 ht) (shT0 ht) ⟨_, _, rfl⟩ [.int y] rfl (rest := []) rfl (k_X4_hasPlace w _ _ t (ln t) y ht (hTp t ht).1 (hTp t ht).2) ⟨rfl, rfl, Nat.le_of_ble_eq_true rfl, Nat.le_of_ble_eq_true rfl⟩ (Nat.le_of_ble_eq_true rfl) dX7_judge_45 (fun v_5 I_5 J_5 h_5 => ?_)
          obtain ⟨ev_5, ei_5, ej_5⟩ := h_5
          replace ev_5 := ev_5.symm; subst ev_5
          replace ei_5 := ei_5.symm; subst ei_5
          replace ej_5 := ej_5.symm; subst ej_5
          refine z_ifne_b (tgt := 55) C dX7_judge_48 (by decide) (fun c48 => ?_) (fun c48 => ?_)
          · skip
            obtain ⟨i, hi, rfl⟩ := c48
            refine z_aload_n C dX7_judge_55 rfl 1 rfl ?_
            refine z_aload C dX7_judge_56 0 rfl ?_
            refine z_iload_n C dX7_judge_58 rfl 3 rfl ?_
            refine z_iload_n C dX7_judge_59 rfl 4 rfl ?_
            refine z_callVi C hm cl_X7_276 cv_X7_judgeRow 0 (by decide) sh0 ⟨_, _, rfl⟩ [.ref (zad w (35 + 2 * t)), .int (nI i), .int (nI b)] rfl (rest := []) rfl (k_X7_judgeRow w _ _ n h A hd t ln i b hN hn hh hH hL hd7 hd99 hTp ht hi hb) ⟨rfl, rfl, Nat.le_of_ble_eq_true rfl, Nat.le_of_ble_eq_true rfl⟩ (Nat.le_of_ble_eq_true rfl) dX7_judge_60 (fun v_6 I_6 J_6 h_6 => ?_)
            obtain ⟨ev_6, ei_6, ej_6⟩ := h_6
            replace ev_6 := ev_6.symm; subst ev_6
            replace ei_6 := ei_6.symm; subst ei_6
            replace ej_6 := ej_6.symm; subst ej_6
            refine z_iret C hr rfl dX7_judge_63 ?_
            refine ⟨_, rfl, ?_⟩
            exact ⟨Or.inr ⟨t, ht, rfl, b, hb, rfl, Or.inr ⟨Or.inr c36, Or.inr ⟨i, hi, rfl, rfl⟩⟩⟩, rfl, rfl⟩
          · skip
            refine z_sipush C (v := 1000) dX7_judge_51 (by decide) ?_
            refine z_iret C hr rfl dX7_judge_54 ?_
            refine ⟨_, rfl, ?_⟩
            exact ⟨Or.inr ⟨t, ht, rfl, b, hb, rfl, Or.inr ⟨Or.inr c36, Or.inl ⟨c48, rfl⟩⟩⟩, rfl, rfl⟩
        · skip
          refine z_bipush C (v := -12) dX7_judge_39 (by decide) ?_
          refine z_iret C hr rfl dX7_judge_41 ?_
          refine ⟨_, rfl, ?_⟩
          exact ⟨Or.inr ⟨t, ht, rfl, b, hb, rfl, Or.inl ⟨c28, c36, rfl⟩⟩, rfl, rfl⟩
    · skip
      refine z_iconst C (v := -1) dX7_judge_20 (by decide) ?_
      refine z_iret C hr rfl dX7_judge_21 ?_
      refine ⟨_, rfl, ?_⟩
      exact ⟨Or.inl ⟨Or.inr c17, rfl⟩, rfl, rfl⟩
  · skip
    rw [cif_f t_1] at ev_1
    subst ev_1
    refine z_astoreN C hm (lv' := [(4, .null), (0, .ref (zad w 0)), (1, .int x), (2, .int y), (3, .int z)]) dX7_judge_5 (by decide) rfl ?_
    refine z_aloadN C dX7_judge_7 0 rfl ?_
    refine z_ifnullN (tgt := 20) C dX7_judge_9 (by decide) ?_
    refine z_iconst C (v := -1) dX7_judge_20 (by decide) ?_
    refine z_iret C hr rfl dX7_judge_21 ?_
    refine ⟨_, rfl, ?_⟩
    exact ⟨Or.inl ⟨Or.inl t_1, rfl⟩, rfl, rfl⟩
abbrev rm_X7_image : Room := { frames := 5, cells := 0, slots := 0, locals := 221 }
set_option maxRecDepth 100000 in
set_option maxHeartbeats 4000000 in
theorem k_X7_image (w : zW) (I : zI) (J : zJ)    : zMet yX7_image cX7_image 1 (some .int) rm_X7_image w [.ref (zad w 0)] I J (zpi (fun v I' J' => v = I 5 8 ∧ (∃ I1, zBec 14 5 I1 I ∧ I' = zup I1 0 (upd (I1 0) 7 1)) ∧ J' = J)) := by
  refine zMet_of (by decide) (Nat.le_of_ble_eq_true rfl) (fun X C hm hr => ?_)
  refine z_sub (lv' := [(0, .ref (zad w 0))]) [0] rfl ?_
  refine z_aload_n C dX7_image_0 rfl 0 rfl ?_
  refine z_getr C ff_X7_66 0 (by decide) sh0 rfl dX7_image_1 ?_
  refine z_aload_n C dX7_image_4 rfl 0 rfl ?_
  refine z_getr C ff_X7_62 0 (by decide) sh0 rfl dX7_image_5 ?_
  refine z_callVv C hm cl_X7_280 cv_X6_become 14 (by decide) sh14 ⟨_, _, rfl⟩ [.ref (zad w 5)] rfl (rest := []) rfl (k_X6_become_k w _ _) ⟨rfl, rfl, Nat.le_of_ble_eq_true rfl, Nat.le_of_ble_eq_true rfl⟩ (Nat.le_of_ble_eq_true rfl) dX7_image_8 (fun I_1 J_1 h_1 => ?_)
  obtain ⟨hb_1, ej_1⟩ := h_1
  replace ej_1 := ej_1.symm; subst ej_1
  refine z_aload_n C dX7_image_11 rfl 0 rfl ?_
  refine z_iconst C (v := 1) dX7_image_12 (by decide) ?_
  refine z_puti C ff_X7_284 0 (by decide) sh0 rfl rfl rfl dX7_image_13 ?_
  refine z_I (I' := zup I_1 0 (upd (I_1 0) 7 1)) rfl ?_
  refine z_aload_n C dX7_image_16 rfl 0 rfl ?_
  refine z_getr C ff_X7_62 0 (by decide) sh0 rfl dX7_image_17 ?_
  refine z_geti C ff_X7_153 5 (by decide) sh5 rfl (v := I_1 5 8) (by first | rfl | (simp [zup, zupJ, upd, vp_updL]; done)) dX7_image_20 ?_
  refine z_iret C hr rfl dX7_image_23 ?_
  refine ⟨_, rfl, ?_⟩
  exact ⟨congrFun (hb_1.2.2.2.2.2.2.2.2.2.2.2 5 (Or.inl (by decide))) 8, ⟨_, hb_1, rfl⟩, rfl⟩
abbrev rm_X7_undo : Room := { frames := 5, cells := 0, slots := 0, locals := 221 }
set_option maxRecDepth 100000 in
set_option maxHeartbeats 4000000 in
theorem k_X7_undo (w : zW) (I : zI) (J : zJ)    : zMet yX7_undo cX7_undo 1 (some .int) rm_X7_undo w [.ref (zad w 0)] I J (zpi (fun v I' J' => ((I 0 7 = 0 ∧ v = -3 ∧ I' = I) ∨ (I 0 7 ≠ 0 ∧ zBec 5 14 I' I ∧ v = I' 5 8)) ∧ J' = J)) := by
  refine zMet_of (by decide) (Nat.le_of_ble_eq_true rfl) (fun X C hm hr => ?_)
  refine z_sub (lv' := [(0, .ref (zad w 0))]) [0] rfl ?_
  refine z_aload_n C dX7_undo_0 rfl 0 rfl ?_
  refine z_geti C ff_X7_284 0 (by decide) sh0 rfl (v := I 0 7) rfl dX7_undo_1 ?_
  refine z_if_ne (tgt := 10) C dX7_undo_4 (by decide) (fun c4 => ?_) (fun c4 => ?_)
  · skip
    refine z_aload_n C dX7_undo_10 rfl 0 rfl ?_
    refine z_getr C ff_X7_62 0 (by decide) sh0 rfl dX7_undo_11 ?_
    refine z_aload_n C dX7_undo_14 rfl 0 rfl ?_
    refine z_getr C ff_X7_66 0 (by decide) sh0 rfl dX7_undo_15 ?_
    refine z_callVv C hm cl_X7_280 cv_X6_become 5 (by decide) sh5 ⟨_, _, rfl⟩ [.ref (zad w 14)] rfl (rest := []) rfl (k_X6_become_n w _ _) ⟨rfl, rfl, Nat.le_of_ble_eq_true rfl, Nat.le_of_ble_eq_true rfl⟩ (Nat.le_of_ble_eq_true rfl) dX7_undo_18 (fun I_1 J_1 h_1 => ?_)
    obtain ⟨hb_1, ej_1⟩ := h_1
    replace ej_1 := ej_1.symm; subst ej_1
    refine z_aload_n C dX7_undo_21 rfl 0 rfl ?_
    refine z_getr C ff_X7_62 0 (by decide) sh0 rfl dX7_undo_22 ?_
    refine z_geti C ff_X7_153 5 (by decide) sh5 rfl (v := I_1 5 8) rfl dX7_undo_25 ?_
    refine z_iret C hr rfl dX7_undo_28 ?_
    refine ⟨_, rfl, ?_⟩
    exact ⟨Or.inr ⟨c4, hb_1, rfl⟩, rfl⟩
  · skip
    refine z_bipush C (v := -3) dX7_undo_7 (by decide) ?_
    refine z_iret C hr rfl dX7_undo_9 ?_
    refine ⟨_, rfl, ?_⟩
    exact ⟨Or.inl ⟨c4, rfl, rfl⟩, rfl⟩
abbrev rm_X0_answer : Room := { frames := 16, cells := 0, slots := 0, locals := 628 }
set_option maxRecDepth 100000 in
set_option maxHeartbeats 4000000 in
theorem k_X0_answer (w : zW) (I : zI) (J : zJ) (k : Nat) (i n : Int32) (a : Nat) (x : Int32) (hbg : I 32 1 = nI 0) (hkd : I 32 3 = nI k) (hki : I 32 2 = i) (hkn : I 32 4 = n) (hk7 : k < 7) (ha3 : a < 3) : zMet yX0_answer cX0_answer 3 (some .int) rm_X0_answer w [.ref (zad w 32), .int (nI a), .int x] I J (zpi (fun v I' J' => v = (aPerf k i n 9 k a x (0, I 33)).1 ∧ I' = zup (zup I 33 (aPerf k i n 9 k a x (0, I 33)).2.2) 32 (upd (I 32) 1 (nI (aPerf k i n 9 k a x (0, I 33)).2.1)) ∧ J' = J)) := by
  refine zMet_of (by decide) (Nat.le_of_ble_eq_true rfl) (fun X C hm hr => ?_)
  refine z_sub (lv' := [(0, .ref (zad w 32)), (1, .int (nI a)), (2, .int x)]) [0, 1, 2] rfl ?_
  refine z_aload_n C dX0_answer_0 rfl 0 rfl ?_
  refine z_aload_n C dX0_answer_1 rfl 0 rfl ?_
  refine z_geti C ff_X0_22 32 (by decide) sh32 rfl (v := nI k) hkd dX0_answer_2 ?_
  refine z_iload_n C dX0_answer_5 rfl 1 rfl ?_
  refine z_iload_n C dX0_answer_6 rfl 2 rfl ?_
  refine z_iconst C (v := 0) dX0_answer_7 (by decide) ?_
  refine z_callVi C hm cl_X0_28 cv_X0_perform 32 (by decide) sh32 ⟨_, _, rfl⟩ [.int (nI k), .int (nI a), .int x, .int 0] rfl (rest := []) rfl (k_X0_perform w k i n 9 _ _ 0 k a x 0 hbg hkd hki hkn hk7 hk7 ha3 (aFu_all k hk7 a ha3) (by decide) (by decide)) ⟨rfl, rfl, by decide, by decide⟩ (Nat.le_of_ble_eq_true rfl) dX0_answer_8 (fun v_1 I_1 J_1 h_1 => ?_)
  obtain ⟨ev_1, ei_1, ej_1⟩ := h_1
  replace ev_1 := ev_1.symm; subst ev_1
  replace ei_1 := ei_1.symm; subst ei_1
  replace ej_1 := ej_1.symm; subst ej_1
  refine z_iret C hr rfl dX0_answer_11 ?_
  refine ⟨_, rfl, ?_⟩
  exact ⟨rfl, rfl, rfl⟩
abbrev rm_X7_act : Room := { frames := 17, cells := 0, slots := 0, locals := 650 }
set_option maxRecDepth 100000 in
set_option maxHeartbeats 4000000 in
theorem k_X7_act (w : zW) (I : zI) (J : zJ) (tr : Nat) (kd : Nat → Nat) (x : Int32) (y : Int32) (z : Int32) (hT : I 5 8 = nI tr) (htr : tr ≤ 16) (hKd : ∀ t, t < tr → I 8 t = nI (kd t) ∧ kd t < 7) : zMet yX7_act cX7_act 4 (some .int) rm_X7_act w [.ref (zad w 0), .int x, .int y, .int z] I J (zpi (fun v I' J' => v = cif (zin x tr ∧ zin y 3) (aPerf (kd (zn x)) x (I 12 (zn x)) 9 (kd (zn x)) (zn y) z (0, I 33)).1 0 ∧ J' = J ∧ (∀ k, k ≠ 32 → k ≠ 33 → I' k = I k) ∧ (¬ (zin x tr ∧ zin y 3) → I' = zup I 32 (upd (I 32) 1 0)) ∧ ((zin x tr ∧ zin y 3) → I' 33 = (aPerf (kd (zn x)) x (I 12 (zn x)) 9 (kd (zn x)) (zn y) z (0, I 33)).2.2 ∧ I' 32 1 = nI (aPerf (kd (zn x)) x (I 12 (zn x)) 9 (kd (zn x)) (zn y) z (0, I 33)).2.1))) := by
  refine zMet_of (by decide) (Nat.le_of_ble_eq_true rfl) (fun X C hm hr => ?_)
  refine z_sub (lv' := [(0, .ref (zad w 0)), (1, .int x), (2, .int y), (3, .int z)]) [0, 1, 2, 3] rfl ?_
  refine z_aload_n C dX7_act_0 rfl 0 rfl ?_
  refine z_getr C ff_X7_45 0 (by decide) sh0 rfl dX7_act_1 ?_
  refine z_callVv C hm cl_X7_288 cv_X0_forget 32 (by decide) sh32 ⟨_, _, rfl⟩ [] rfl (rest := []) rfl (k_X0_forget w _ _   ) ⟨rfl, rfl, Nat.le_of_ble_eq_true rfl, Nat.le_of_ble_eq_true rfl⟩ (Nat.le_of_ble_eq_true rfl) dX7_act_4 (fun I_1 J_1 h_1 => ?_)
  obtain ⟨ei_1, ej_1⟩ := h_1
  replace ei_1 := ei_1.symm; subst ei_1
  replace ej_1 := ej_1.symm; subst ej_1
  refine z_aload_n C dX7_act_7 rfl 0 rfl ?_
  refine z_iload_n C dX7_act_8 rfl 1 rfl ?_
  refine z_callVi C hm cl_X7_160 cv_X7_isTrade 0 (by decide) sh0 ⟨_, _, rfl⟩ [.int x] rfl (rest := []) rfl (k_X7_isTrade w _ _ tr x (by exact hT) htr) ⟨rfl, rfl, Nat.le_of_ble_eq_true rfl, Nat.le_of_ble_eq_true rfl⟩ (Nat.le_of_ble_eq_true rfl) dX7_act_9 (fun v_2 I_2 J_2 h_2 => ?_)
  obtain ⟨ev_2, ei_2, ej_2⟩ := h_2
  replace ev_2 := ev_2.symm; subst ev_2
  replace ei_2 := ei_2.symm; subst ei_2
  replace ej_2 := ej_2.symm; subst ej_2
  refine z_ifeq_b (tgt := 24) C dX7_act_12 (by decide) (fun c12 => ?_) (fun c12 => ?_)
  · skip
    refine z_iconst C (v := 0) dX7_act_24 (by decide) ?_
    refine z_iret C hr rfl dX7_act_25 ?_
    refine ⟨_, rfl, ?_⟩
    have hno : ¬ (zin x tr ∧ zin y 3) := fun q => c12 q.1
    exact ⟨by rw [cif_f hno], rfl, fun k h1 h2 => by simp only [zup]; rw [if_neg h1], fun _ => rfl, fun q => absurd q hno⟩
  · skip
    obtain ⟨t, ht, rfl⟩ := c12
    refine z_iload_n C dX7_act_15 rfl 2 rfl ?_
    refine z_if_lt (tgt := 24) C dX7_act_16 (by decide) (fun c16 => ?_) (fun c16 => ?_)
    · skip
      refine z_iconst C (v := 0) dX7_act_24 (by decide) ?_
      refine z_iret C hr rfl dX7_act_25 ?_
      refine ⟨_, rfl, ?_⟩
      have hno : ¬ (zin (nI t) tr ∧ zin y 3) := fun q => zin_neg c16 (by decide) q.2
      exact ⟨by rw [cif_f hno], rfl, fun k h1 h2 => by simp only [zup]; rw [if_neg h1], fun _ => rfl, fun q => absurd q hno⟩
    · skip
      refine z_iload_n C dX7_act_19 rfl 2 rfl ?_
      refine z_iconst C (v := 3) dX7_act_20 (by decide) ?_
      refine z_icmp_lt (tgt := 26) C dX7_act_21 (by decide) (fun c21 => ?_) (fun c21 => ?_)
      · skip
        obtain ⟨a, ha, rfl⟩ := zin_of (n := 3) c16 (Int32.not_le.mpr c21) (by decide)
        refine z_aload_n C dX7_act_26 rfl 0 rfl ?_
        refine z_getr C ff_X7_45 0 (by decide) sh0 rfl dX7_act_27 ?_
        refine z_iload_n C dX7_act_30 rfl 1 rfl ?_
        refine z_aload_n C dX7_act_31 rfl 0 rfl ?_
        refine z_getr C ff_X7_62 0 (by decide) sh0 rfl dX7_act_32 ?_
        refine z_getr C ff_X7_163 5 (by decide) sh5 rfl dX7_act_35 ?_
        refine z_iload_n C dX7_act_38 rfl 1 rfl ?_
        refine z_iald C 8 (by decide) sh8 t (by omega) (by decide) rfl (v := nI (kd t)) (by first | exact (hKd t ht).1 | (simp [zup, zupJ, upd, vp_updL]; exact (hKd t ht).1)) dX7_act_39 ?_
        refine z_aload_n C dX7_act_40 rfl 0 rfl ?_
        refine z_getr C ff_X7_62 0 (by decide) sh0 rfl dX7_act_41 ?_
        refine z_getr C ff_X7_175 5 (by decide) sh5 rfl dX7_act_44 ?_
        refine z_iload_n C dX7_act_47 rfl 1 rfl ?_
        refine z_iald C 12 (by decide) sh12 t (by omega) (by decide) rfl (v := I 12 t) (by first | rfl | (simp [zup, zupJ, upd, vp_updL]; done)) dX7_act_48 ?_
        refine z_callVv C hm cl_X7_291 cv_X0_takeOn 32 (by decide) sh32 ⟨_, _, rfl⟩ [.int (nI t), .int (nI (kd t)), .int (I 12 t)] rfl (rest := []) rfl (k_X0_takeOn w _ _  (nI t) (nI (kd t)) (I 12 t) ) ⟨rfl, rfl, Nat.le_of_ble_eq_true rfl, Nat.le_of_ble_eq_true rfl⟩ (Nat.le_of_ble_eq_true rfl) dX7_act_49 (fun I_3 J_3 h_3 => ?_)
        obtain ⟨ei_3, ej_3⟩ := h_3
        replace ei_3 := ei_3.symm; subst ei_3
        replace ej_3 := ej_3.symm; subst ej_3
        refine z_I (I' := zup I 32 (upd (upd (upd (upd (I 32) 1 0) 2 (nI t)) 3 (nI (kd t))) 4 (I 12 t))) (by funext zk; simp only [zup]; split <;> simp_all [zup]) ?_
        refine z_aload_n C dX7_act_52 rfl 0 rfl ?_
        refine z_getr C ff_X7_45 0 (by decide) sh0 rfl dX7_act_53 ?_
        refine z_iload_n C dX7_act_56 rfl 2 rfl ?_
        refine z_iload_n C dX7_act_57 rfl 3 rfl ?_
        refine z_callVi C hm cl_X7_295 cv_X0_answer 32 (by decide) sh32 ⟨_, _, rfl⟩ [.int (nI a), .int z] rfl (rest := []) rfl (k_X0_answer w _ _ (kd t) (nI t) (I 12 t) a z (by exact rfl) (by exact rfl) (by exact rfl) (by exact rfl) (hKd t ht).2 ha) ⟨rfl, rfl, Nat.le_of_ble_eq_true rfl, Nat.le_of_ble_eq_true rfl⟩ (Nat.le_of_ble_eq_true rfl) dX7_act_58 (fun v_4 I_4 J_4 h_4 => ?_)
        obtain ⟨ev_4, ei_4, ej_4⟩ := h_4
        replace ev_4 := ev_4.symm; subst ev_4
        replace ei_4 := ei_4.symm; subst ei_4
        replace ej_4 := ej_4.symm; subst ej_4
        refine z_iret C hr rfl dX7_act_61 ?_
        refine ⟨_, rfl, ?_⟩
        have hyes : zin (nI t) tr ∧ zin (nI a) 3 := ⟨⟨t, ht, rfl⟩, a, ha, rfl⟩
        exact ⟨by rw [cif_t hyes, zn_n (by omega), zn_n (by omega)]; rfl, rfl, fun k h1 h2 => by simp only [zup]; rw [if_neg h1, if_neg h2, if_neg h1], fun q => absurd hyes q, fun _ => by rw [zn_n (by omega), zn_n (by omega)]; exact ⟨rfl, rfl⟩⟩
      · skip
        refine z_iconst C (v := 0) dX7_act_24 (by decide) ?_
        refine z_iret C hr rfl dX7_act_25 ?_
        refine ⟨_, rfl, ?_⟩
        have hno : ¬ (zin (nI t) tr ∧ zin y 3) := fun q => zin_ge (n := 3) (Int32.not_lt.mp c21) (by decide) q.2
        exact ⟨by rw [cif_f hno], rfl, fun k h1 h2 => by simp only [zup]; rw [if_neg h1], fun _ => rfl, fun q => absurd q hno⟩
abbrev rm_X7_trace : Room := { frames := 4, cells := 0, slots := 0, locals := 200 }
set_option maxRecDepth 100000 in
set_option maxHeartbeats 4000000 in
theorem k_X7_trace (w : zW) (I : zI) (J : zJ) (bg : Nat) (x : Int32) (hbg : I 32 1 = nI bg) (hb1 : bg ≤ 10000) : zMet yX7_trace cX7_trace 2 (some .int) rm_X7_trace w [.ref (zad w 0), .int x] I J (zpi (fun v I' J' => v = cif (zin x (min bg 20)) (I 33 (zn x)) (-1) ∧ I' = I ∧ J' = J)) := by
  refine zMet_of (by decide) (Nat.le_of_ble_eq_true rfl) (fun X C hm hr => ?_)
  refine z_sub (lv' := [(0, .ref (zad w 0)), (1, .int x)]) [0, 1] rfl ?_
  refine z_iload_n C dX7_trace_0 rfl 1 rfl ?_
  refine z_if_lt (tgt := 32) C dX7_trace_1 (by decide) (fun c1 => ?_) (fun c1 => ?_)
  · skip
    refine z_iconst C (v := -1) dX7_trace_32 (by decide) ?_
    refine z_iret C hr rfl dX7_trace_33 ?_
    refine ⟨_, rfl, ?_⟩
    exact ⟨by rw [cif_f (zin_neg c1 (by omega))], rfl, rfl⟩
  · skip
    refine z_iload_n C dX7_trace_4 rfl 1 rfl ?_
    refine z_aload_n C dX7_trace_5 rfl 0 rfl ?_
    refine z_getr C ff_X7_45 0 (by decide) sh0 rfl dX7_trace_6 ?_
    refine z_geti C ff_X7_298 32 (by decide) sh32 rfl (v := nI bg) hbg dX7_trace_9 ?_
    refine z_bipush C (v := 20) dX7_trace_12 (by decide) ?_
    refine z_min C hm ml_X7_237 st_min in_math co_min (Nat.le_of_ble_eq_true rfl) (Nat.le_of_ble_eq_true rfl) dX7_trace_14 ?_
    refine z_ti (y := nI (min bg 20)) (mn_n (a := bg) (b := 20) (by omega) (by omega)) ?_
    refine z_icmp_ge (tgt := 32) C dX7_trace_17 (by decide) (fun c17 => ?_) (fun c17 => ?_)
    · skip
      refine z_iconst C (v := -1) dX7_trace_32 (by decide) ?_
      refine z_iret C hr rfl dX7_trace_33 ?_
      refine ⟨_, rfl, ?_⟩
      exact ⟨by rw [cif_f (zin_ge c17 (by omega))], rfl, rfl⟩
    · skip
      obtain ⟨i, hi, rfl⟩ := zin_of (n := min bg 20) c1 c17 (by omega)
      refine z_aload_n C dX7_trace_20 rfl 0 rfl ?_
      refine z_getr C ff_X7_45 0 (by decide) sh0 rfl dX7_trace_21 ?_
      refine z_getr C ff_X7_301 32 (by decide) sh32 rfl dX7_trace_24 ?_
      refine z_iload_n C dX7_trace_27 rfl 1 rfl ?_
      refine z_iald C 33 (by decide) sh33 i (by omega) (by decide) rfl (v := I 33 i) rfl dX7_trace_28 ?_
      refine z_goto (tgt := 33) C dX7_trace_29 (by decide) ?_
      refine z_iret C hr rfl dX7_trace_33 ?_
      refine ⟨_, rfl, ?_⟩
      exact ⟨by rw [cif_t ⟨i, hi, rfl⟩, zn_n (by omega)], rfl, rfl⟩
abbrev rm_X7_taken : Room := { frames := 5, cells := 0, slots := 0, locals := 221 }
set_option maxRecDepth 100000 in
set_option maxHeartbeats 4000000 in
theorem k_X7_taken (w : zW) (I : zI) (J : zJ) (tr : Nat) (kd : Nat → Nat) (x : Int32) (z : Int32) (hT : I 5 8 = nI tr) (htr : tr ≤ 16) (hKd : ∀ t, t < tr → I 8 t = nI (kd t) ∧ kd t < 7) : zMet yX7_taken cX7_taken 6 (some .int) rm_X7_taken w [.ref (zad w 0), .int x, .int z] I J (zpi (fun v I' J' => v = cif (zin z 7) (cif (zin x tr) (cif (zTak (kd (zn x)) (zn z) = true) (nI (kd (zn x))) (-12)) (-11)) (-2) ∧ I' = I ∧ J' = J)) := by
  refine zMet_of (by decide) (Nat.le_of_ble_eq_true rfl) (fun X C hm hr => ?_)
  refine z_sub (lv' := [(0, .ref (zad w 0)), (1, .int x), (2, .int z)]) [0, 1, 2] rfl ?_
  refine z_iload_n C dX7_taken_0 rfl 2 rfl ?_
  refine z_callSi C hm cl_X7_150 cs_X7_isKind [.int z] rfl (rest := []) rfl (k_X7_isKind w _ _  z ) ⟨rfl, rfl, Nat.le_of_ble_eq_true rfl, Nat.le_of_ble_eq_true rfl⟩ (Nat.le_of_ble_eq_true rfl) dX7_taken_1 (fun v_1 I_1 J_1 h_1 => ?_)
  obtain ⟨ev_1, ei_1, ej_1⟩ := h_1
  replace ev_1 := ev_1.symm; subst ev_1
  replace ei_1 := ei_1.symm; subst ei_1
  replace ej_1 := ej_1.symm; subst ej_1
  refine z_ifne_b (tgt := 10) C dX7_taken_4 (by decide) (fun c4 => ?_) (fun c4 => ?_)
  · skip
    obtain ⟨k, hk, rfl⟩ := c4
    refine z_aload_n C dX7_taken_10 rfl 0 rfl ?_
    refine z_iload_n C dX7_taken_11 rfl 1 rfl ?_
    refine z_callVi C hm cl_X7_160 cv_X7_isTrade 0 (by decide) sh0 ⟨_, _, rfl⟩ [.int x] rfl (rest := []) rfl (k_X7_isTrade w _ _ tr x hT htr) ⟨rfl, rfl, Nat.le_of_ble_eq_true rfl, Nat.le_of_ble_eq_true rfl⟩ (Nat.le_of_ble_eq_true rfl) dX7_taken_12 (fun v_2 I_2 J_2 h_2 => ?_)
    obtain ⟨ev_2, ei_2, ej_2⟩ := h_2
    replace ev_2 := ev_2.symm; subst ev_2
    replace ei_2 := ei_2.symm; subst ei_2
    replace ej_2 := ej_2.symm; subst ej_2
    refine z_ifne_b (tgt := 21) C dX7_taken_15 (by decide) (fun c15 => ?_) (fun c15 => ?_)
    · skip
      obtain ⟨t, ht, rfl⟩ := c15
      refine z_aload_n C dX7_taken_21 rfl 0 rfl ?_
      refine z_getr C ff_X7_62 0 (by decide) sh0 rfl dX7_taken_22 ?_
      refine z_getr C ff_X7_163 5 (by decide) sh5 rfl dX7_taken_25 ?_
      refine z_iload_n C dX7_taken_28 rfl 1 rfl ?_
      refine z_iald C 8 (by decide) sh8 t (by omega) (by decide) rfl (v := nI (kd t)) (hKd t ht).1 dX7_taken_29 ?_
      refine z_istore_n C hm (lv' := [(3, .int (nI (kd t))), (0, .ref (zad w 0)), (1, .int (nI t)), (2, .int (nI k))]) dX7_taken_30 rfl (by decide) rfl ?_
      refine z_iload_n C dX7_taken_31 rfl 0 rfl ?_
      refine z_istore C hm (lv' := [(4, .int (nI (kd t))), (3, .int (nI (kd t))), (0, .ref (zad w 0)), (1, .int (nI t)), (2, .int (nI k))]) dX7_taken_32 (by decide) rfl ?_
      refine z_iconst C (v := 0) dX7_taken_34 (by decide) ?_
      refine z_istore C hm (lv' := [(5, .int 0), (4, .int (nI (kd t))), (3, .int (nI (kd t))), (0, .ref (zad w 0)), (1, .int (nI t)), (2, .int (nI k))]) dX7_taken_35 (by decide) rfl ?_
      have L37 : ∀ (d : Nat) (i : Nat) (kv : Int32) (v37_4 : Int32) (v37_5 : Int32), (7 - i) < d → (i ≤ 7) → ((∃ c, c < 7 ∧ kv = nI c ∧ i + c ≤ 6 ∧ zTak c k = zTak (kd t) k) ∨ (kv = -1 ∧ zTak (kd t) k = false)) → v37_4 = kv → v37_5 = nI i → Z X w I J 37 [(0, .ref (zad w 0)), (1, .int (nI t)), (2, .int (nI k)), (3, .int (nI (kd t))), (4, .int v37_4), (5, .int v37_5)] [] := by
        intro d
        induction d with
        | zero => intro i kv v37_4 v37_5 hd; exact absurd hd (Nat.not_lt_zero _)
        | succ d ih37 => 
          intro i kv v37_4 v37_5 hd37 hi hkv e_v37_4 e_v37_5
          replace e_v37_4 := e_v37_4.symm; subst e_v37_4
          replace e_v37_5 := e_v37_5.symm; subst e_v37_5
          refine z_iload C dX7_taken_37 5 rfl ?_
          refine z_bipush C (v := 7) dX7_taken_39 (by decide) ?_
          refine z_icmp_ge_n i 7 (tgt := 71) C rfl rfl (by omega) (by omega) dX7_taken_41 (by decide) (fun c41 => ?_) (fun c41 => ?_)
          · skip
            have hno : zTak (kd t) k = false := hkv.elim (fun ⟨c, _, _, z, _⟩ => absurd z (by omega)) (fun z => z.2)
            refine z_bipush C (v := -12) dX7_taken_71 (by decide) ?_
            refine z_iret C hr rfl dX7_taken_73 ?_
            refine ⟨_, rfl, ?_⟩
            exact ⟨by rw [cif_t ⟨k, hk, rfl⟩, cif_t ⟨t, ht, rfl⟩, zn_n (by omega), zn_n (by omega), cif_f (by rw [hno]; decide)], rfl, rfl⟩
          · skip
            refine z_iload C dX7_taken_44 4 rfl ?_
            refine z_if_lt (tgt := 71) C dX7_taken_46 (by decide) (fun c46 => ?_) (fun c46 => ?_)
            · skip
              have hno : zTak (kd t) k = false := hkv.elim (fun ⟨c, z1, z2, _, _⟩ => absurd c46 (by rw [z2]; exact nI_pos (by omega))) (fun z => z.2)
              refine z_bipush C (v := -12) dX7_taken_71 (by decide) ?_
              refine z_iret C hr rfl dX7_taken_73 ?_
              refine ⟨_, rfl, ?_⟩
              exact ⟨by rw [cif_t ⟨k, hk, rfl⟩, cif_t ⟨t, ht, rfl⟩, zn_n (by omega), zn_n (by omega), cif_f (by rw [hno]; decide)], rfl, rfl⟩
            · skip
              obtain ⟨c, hc7, rfl, hic, hz⟩ := hkv.resolve_right (fun z => c46 (by rw [z.1]; decide))
              clear hkv
              refine z_iload C dX7_taken_49 4 rfl ?_
              refine z_iload_n C dX7_taken_51 rfl 2 rfl ?_
              refine z_icmp_ne_n c k (tgt := 57) C rfl rfl (by omega) (by omega) dX7_taken_52 (by decide) (fun c52 => ?_) (fun c52 => ?_)
              · skip
                refine z_tabs (t := 0) C (fun h => h.1) fl_X7_304 dX7_taken_57 ?_
                refine z_iload C dX7_taken_60 4 rfl ?_
                refine z_tabi C (fun h => h.2.1) c hc7 (by decide) rfl dX7_taken_62 ?_
                refine z_istore C hm (lv' := [(4, .int (zAbove c)), (0, .ref (zad w 0)), (1, .int (nI t)), (2, .int (nI k)), (3, .int (nI (kd t))), (5, .int (nI i))]) dX7_taken_63 (by decide) rfl ?_
                refine z_iinc C hm 5 (v := nI (i + 1)) (lv' := [(5, .int (nI (i + 1))), (4, .int (zAbove c)), (0, .ref (zad w 0)), (1, .int (nI t)), (2, .int (nI k)), (3, .int (nI (kd t)))]) dX7_taken_65 rfl (nI_add i 1) (by decide) rfl ?_
                refine z_goto (tgt := 37) C dX7_taken_68 (by decide) ?_
                exact z_sub [2, 3, 4, 5, 1, 0] rfl (ih37  (i + 1) (zAbove c) _ _ (by omega) (by omega) (by
                    by_cases c0 : c = 0
                    · subst c0; exact Or.inr ⟨by decide, by rw [← hz]; exact zTak_0 k hk c52⟩
                    · refine Or.inl ⟨aAb c, (aAb_lt c hc7).1, aAb_eq c hc7 c0, ?_, ?_⟩
                      · have := (aAb_lt c hc7).2 c0; omega
                      · rw [zTak_s c hc7 k hk c52 c0]; exact hz) rfl rfl)
              · skip
                have hyes : zTak (kd t) k = true := by rw [← hz, c52]; simp [zTak]
                refine z_iload_n C dX7_taken_55 rfl 3 rfl ?_
                refine z_iret C hr rfl dX7_taken_56 ?_
                refine ⟨_, rfl, ?_⟩
                exact ⟨by rw [cif_t ⟨k, hk, rfl⟩, cif_t ⟨t, ht, rfl⟩, zn_n (by omega), zn_n (by omega), cif_t hyes], rfl, rfl⟩
      exact z_sub [3, 4, 5, 2, 1, 0] rfl (L37 _ 0 (nI (kd t)) _ _ (Nat.lt_succ_self _) (by omega) (Or.inl ⟨kd t, (hKd t ht).2, rfl, by have := (hKd t ht).2; omega, rfl⟩) rfl rfl)
    · skip
      refine z_bipush C (v := -11) dX7_taken_18 (by decide) ?_
      refine z_iret C hr rfl dX7_taken_20 ?_
      refine ⟨_, rfl, ?_⟩
      exact ⟨by rw [cif_t ⟨k, hk, rfl⟩, cif_f c15], rfl, rfl⟩
  · skip
    refine z_bipush C (v := -2) dX7_taken_7 (by decide) ?_
    refine z_iret C hr rfl dX7_taken_9 ?_
    refine ⟨_, rfl, ?_⟩
    exact ⟨by rw [cif_f c4], rfl, rfl⟩
abbrev rm_X7_count : Room := { frames := 4, cells := 0, slots := 0, locals := 200 }
set_option maxRecDepth 100000 in
set_option maxHeartbeats 4000000 in
theorem k_X7_count (w : zW) (I : zI) (J : zJ)  (x : Int32)  : zMet yX7_count cX7_count 2 (some .int) rm_X7_count w [.ref (zad w 0), .int x] I J (zpi (fun v I' J' => v = zCt x (I 0 1) (I 5 8) (I 0 4) (I 5 10) (I 2 1) (I 32 1) ∧ I' = I ∧ J' = J)) := by
  refine zMet_of (by decide) (Nat.le_of_ble_eq_true rfl) (fun X C hm hr => ?_)
  refine z_sub (lv' := [(0, .ref (zad w 0)), (1, .int x)]) [0, 1] rfl ?_
  refine z_iload_n C dX7_count_0 rfl 1 rfl ?_
  by_cases c1_0 : x = 0
  · skip
    refine z_tableIn (tgt := 40) C dX7_count_1 (by rw [c1_0]; decide) (by rw [c1_0]; decide) (off := 39) (by rw [c1_0]; decide) (by decide) ?_
    refine z_aload_n C dX7_count_40 rfl 0 rfl ?_
    refine z_geti C ff_X7_73 0 (by decide) sh0 rfl (v := I 0 1) rfl dX7_count_41 ?_
    refine z_iret C hr rfl dX7_count_44 ?_
    refine ⟨_, rfl, ?_⟩
    exact ⟨by unfold zCt; rw [if_pos c1_0], rfl, rfl⟩
  by_cases c1_1 : x = 1
  · skip
    refine z_tableIn (tgt := 45) C dX7_count_1 (by rw [c1_1]; decide) (by rw [c1_1]; decide) (off := 44) (by rw [c1_1]; decide) (by decide) ?_
    refine z_aload_n C dX7_count_45 rfl 0 rfl ?_
    refine z_getr C ff_X7_62 0 (by decide) sh0 rfl dX7_count_46 ?_
    refine z_geti C ff_X7_153 5 (by decide) sh5 rfl (v := I 5 8) rfl dX7_count_49 ?_
    refine z_iret C hr rfl dX7_count_52 ?_
    refine ⟨_, rfl, ?_⟩
    exact ⟨by unfold zCt; rw [if_neg c1_0, if_pos c1_1], rfl, rfl⟩
  by_cases c1_2 : x = 2
  · skip
    refine z_tableIn (tgt := 53) C dX7_count_1 (by rw [c1_2]; decide) (by rw [c1_2]; decide) (off := 52) (by rw [c1_2]; decide) (by decide) ?_
    refine z_aload_n C dX7_count_53 rfl 0 rfl ?_
    refine z_geti C ff_X7_97 0 (by decide) sh0 rfl (v := I 0 4) rfl dX7_count_54 ?_
    refine z_iret C hr rfl dX7_count_57 ?_
    refine ⟨_, rfl, ?_⟩
    exact ⟨by unfold zCt; rw [if_neg c1_0, if_neg c1_1, if_pos c1_2], rfl, rfl⟩
  by_cases c1_3 : x = 3
  · skip
    refine z_tableIn (tgt := 58) C dX7_count_1 (by rw [c1_3]; decide) (by rw [c1_3]; decide) (off := 57) (by rw [c1_3]; decide) (by decide) ?_
    refine z_aload_n C dX7_count_58 rfl 0 rfl ?_
    refine z_getr C ff_X7_62 0 (by decide) sh0 rfl dX7_count_59 ?_
    refine z_geti C ff_X7_245 5 (by decide) sh5 rfl (v := I 5 10) rfl dX7_count_62 ?_
    refine z_iret C hr rfl dX7_count_65 ?_
    refine ⟨_, rfl, ?_⟩
    exact ⟨by unfold zCt; rw [if_neg c1_0, if_neg c1_1, if_neg c1_2, if_pos c1_3], rfl, rfl⟩
  by_cases c1_4 : x = 4
  · skip
    refine z_tableIn (tgt := 66) C dX7_count_1 (by rw [c1_4]; decide) (by rw [c1_4]; decide) (off := 65) (by rw [c1_4]; decide) (by decide) ?_
    refine z_aload_n C dX7_count_66 rfl 0 rfl ?_
    refine z_getr C ff_X7_18 0 (by decide) sh0 rfl dX7_count_67 ?_
    refine z_geti C ff_X7_90 2 (by decide) sh2 rfl (v := I 2 1) rfl dX7_count_70 ?_
    refine z_iret C hr rfl dX7_count_73 ?_
    refine ⟨_, rfl, ?_⟩
    exact ⟨by unfold zCt; rw [if_neg c1_0, if_neg c1_1, if_neg c1_2, if_neg c1_3, if_pos c1_4], rfl, rfl⟩
  by_cases c1_5 : x = 5
  · skip
    refine z_tableIn (tgt := 74) C dX7_count_1 (by rw [c1_5]; decide) (by rw [c1_5]; decide) (off := 73) (by rw [c1_5]; decide) (by decide) ?_
    refine z_aload_n C dX7_count_74 rfl 0 rfl ?_
    refine z_getr C ff_X7_45 0 (by decide) sh0 rfl dX7_count_75 ?_
    refine z_geti C ff_X7_298 32 (by decide) sh32 rfl (v := I 32 1) rfl dX7_count_78 ?_
    refine z_iret C hr rfl dX7_count_81 ?_
    refine ⟨_, rfl, ?_⟩
    exact ⟨by unfold zCt; rw [if_neg c1_0, if_neg c1_1, if_neg c1_2, if_neg c1_3, if_neg c1_4, if_pos c1_5], rfl, rfl⟩
  refine z_tableOut (tgt := 82) C dX7_count_1 (by have h0 := lv_neT c1_0 (a := 0) (by decide); have h1 := lv_neT c1_1 (a := 1) (by decide); have h2 := lv_neT c1_2 (a := 2) (by decide); have h3 := lv_neT c1_3 (a := 3) (by decide); have h4 := lv_neT c1_4 (a := 4) (by decide); have h5 := lv_neT c1_5 (a := 5) (by decide); omega) (by decide) ?_
  refine z_bipush C (v := -2) dX7_count_82 (by decide) ?_
  refine z_iret C hr rfl dX7_count_84 ?_
  refine ⟨_, rfl, ?_⟩
  exact ⟨by unfold zCt; rw [if_neg c1_0, if_neg c1_1, if_neg c1_2, if_neg c1_3, if_neg c1_4, if_neg c1_5], rfl, rfl⟩
