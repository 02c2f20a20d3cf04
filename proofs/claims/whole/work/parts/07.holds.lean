abbrev rm_X1_holds : Room := { frames := 5, cells := 0, slots := 0, locals := 225 }
set_option maxRecDepth 100000 in
set_option maxHeartbeats 4000000 in
theorem k_X1_holds (w : zW) (I : zI) (J : zJ) (i cn lo : Nat) (T : List zTok) (r : Bool) (c : Int32) (a : Int32) (b : Int32) (s : Int32) (l : Int32) (f : Int32) (hi : i < 7) (hc : c = nI cn) (hcn : cn < 10) (hlo : cn = 0 → lo = 0) (hlo2 : ∀ j, cn = j + 1 → I (47 + 5 * i + 3) j = nI lo) (hhi : I (47 + 5 * i + 3) cn = nI (lo + T.length)) (hb : lo + T.length ≤ 100) (hT : ∀ k, k < T.length → I (47 + 5 * i + 4) (lo + k) = cTok (T.getD k dTk)) (hok : ∀ t ∈ T, tkOk t) (hev : aEv (zenv a b s l f) T [] = some [r]) : zMet yX1_holds cX1_holds 12 (some .boolean) rm_X1_holds w [.ref (zad w (47 + 5 * i)), .int c, .int a, .int b, .int s, .int l, .int f] I J (zpi (fun v I' J' => v = bI (r = true) ∧ I' = I ∧ J' = J)) := by
  refine zMet_of (by decide) (Nat.le_of_ble_eq_true rfl) (fun X C hm hr => ?_)
  refine z_sub (lv' := [(0, .ref (zad w (47 + 5 * i))), (1, .int c), (2, .int a), (3, .int b), (4, .int s), (5, .int l), (6, .int f)]) [0, 1, 2, 3, 4, 5, 6] rfl ?_
  have hcz : c = 0 → cn = 0 := fun q => (nI_eq (b := 0) (by omega) (by decide)).mp (hc.symm.trans q)
  have L21 : ∀ (d : Nat) (k : Nat) (st : List Bool) (y7 : Int32) (v21_7 : Int32) (v21_8 : Int32), (T.length - k) < d → (k ≤ T.length) → (aEv (zenv a b s l f) (T.drop k) st = some [r]) → (st.length ≤ 30) → (zEnc y7 st) → v21_7 = y7 → v21_8 = nI (lo + k) → Z X w I J 21 [(0, .ref (zad w (47 + 5 * i))), (1, .int c), (2, .int a), (3, .int b), (4, .int s), (5, .int l), (6, .int f), (7, .int v21_7), (8, .int v21_8)] [] := by
    intro d
    induction d with
    | zero => intro k st y7 v21_7 v21_8 hd; exact absurd hd (Nat.not_lt_zero _)
    | succ d ih21 => 
      intro k st y7 v21_7 v21_8 hd21 hk hst hsl henc e_v21_7 e_v21_8
      replace e_v21_7 := e_v21_7.symm; subst e_v21_7
      replace e_v21_8 := e_v21_8.symm; subst e_v21_8
      refine z_iload C dX1_holds_21 8 rfl ?_
      refine z_aload_n C dX1_holds_23 rfl 0 rfl ?_
      refine z_getr C ff_X1_18 (47 + 5 * i) (shLn0 hi) (shL0 hi) rfl dX1_holds_24 ?_
      refine z_iload_n C dX1_holds_27 rfl 1 rfl ?_
      refine z_iald C (47 + 5 * i + 3) (shLn3 hi) (shL3 hi) cn (by omega) (by decide) hc (v := nI (lo + T.length)) hhi dX1_holds_28 ?_
      refine z_icmp_ge_n (lo + k) (lo + T.length) (tgt := 160) C rfl rfl (by omega) (by omega) dX1_holds_29 (by decide) (fun c29 => ?_) (fun c29 => ?_)
      · skip
        have hkT : k = T.length := by omega
        rw [hkT, List.drop_length] at hst
        simp only [aEv, Option.some.injEq] at hst
        subst hst
        have hb0 := henc 0 (by simp)
        refine z_iload C dX1_holds_160 7 rfl ?_
        refine z_iconst C (v := 1) dX1_holds_162 (by decide) ?_
        refine z_iand C dX1_holds_163 ?_
        refine z_if_eq (tgt := 171) C dX1_holds_164 (by decide) (fun c164 => ?_) (fun c164 => ?_)
        · skip
          refine z_iconst C (v := 0) dX1_holds_171 (by decide) ?_
          refine z_iret C hr (by decide) dX1_holds_172 ?_
          refine ⟨_, rfl, ?_⟩
          exact ⟨(bI_f (fun q => by rw [q] at hb0; rw [and1_0.mp c164] at hb0; cases hb0)).symm, rfl, rfl⟩
        · skip
          refine z_iconst C (v := 1) dX1_holds_167 (by decide) ?_
          refine z_goto (tgt := 172) C dX1_holds_168 (by decide) ?_
          refine z_iret C hr (by decide) dX1_holds_172 ?_
          refine ⟨_, rfl, ?_⟩
          exact ⟨(bI_t (by cases r with | true => rfl | false => exact absurd (and1_0.mpr hb0) c164)).symm, rfl, rfl⟩
      · skip
        have hkl : k < T.length := by omega
        have hok1 := hok _ (getD_mem dTk hkl)
        rw [drop_at dTk hkl] at hst
        refine z_aload_n C dX1_holds_32 rfl 0 rfl ?_
        refine z_getr C ff_X1_21 (47 + 5 * i) (shLn0 hi) (shL0 hi) rfl dX1_holds_33 ?_
        refine z_iload C dX1_holds_36 8 rfl ?_
        refine z_iald C (47 + 5 * i + 4) (shLn4 hi) (shL4 hi) (lo + k) (by omega) (by decide) rfl (v := cTok (T.getD k dTk)) (hT k hkl) dX1_holds_38 ?_
        refine z_istore C hm (lv' := [(9, .int (cTok (T.getD k dTk))), (0, .ref (zad w (47 + 5 * i))), (1, .int c), (2, .int a), (3, .int b), (4, .int s), (5, .int l), (6, .int f), (7, .int y7), (8, .int (nI (lo + k)))]) dX1_holds_39 (by decide) rfl ?_
        refine z_iload C dX1_holds_41 8 rfl ?_
        refine z_iconst C (v := 1) dX1_holds_43 (by decide) ?_
        refine z_iand C dX1_holds_44 ?_
        refine z_istore C hm (lv' := [(10, .int (y7 &&& 1)), (9, .int (cTok (T.getD k dTk))), (0, .ref (zad w (47 + 5 * i))), (1, .int c), (2, .int a), (3, .int b), (4, .int s), (5, .int l), (6, .int f), (7, .int y7), (8, .int (nI (lo + k)))]) dX1_holds_45 (by decide) rfl ?_
        refine z_iload C dX1_holds_47 1 rfl ?_
        refine z_bipush C (v := -3) dX1_holds_49 (by decide) ?_
        refine z_icmp_ne (tgt := 63) C dX1_holds_51 (by decide) (fun c51 => ?_) (fun c51 => ?_)
        · skip
          refine z_iload C dX1_holds_63 1 rfl ?_
          refine z_iconst C (v := -1) dX1_holds_65 (by decide) ?_
          refine z_icmp_ne (tgt := 84) C dX1_holds_66 (by decide) (fun c66 => ?_) (fun c66 => ?_)
          · skip
            refine z_iload C dX1_holds_84 1 rfl ?_
            refine z_bipush C (v := -2) dX1_holds_86 (by decide) ?_
            refine z_icmp_ne (tgt := 103) C dX1_holds_88 (by decide) (fun c88 => ?_) (fun c88 => ?_)
            · skip
              obtain ⟨l0, r0, n0, htk2, hl0, hr0, hn0, hce⟩ := cTok_test hok1 c51 c66 c88
              rw [htk2] at hst
              obtain ⟨hlen, hst⟩ := aEv_t hst
              rw [hce]
              refine z_iload C dX1_holds_103 1 rfl ?_
              refine z_sipush C (v := 300) dX1_holds_105 (by decide) ?_
              refine z_idiv C dX1_holds_108 (by decide) ?_
              refine z_ti (y := nI l0) (by rw [dv300 (by omega), show (((3 * l0 + r0) * 100 + n0) / 300) = l0 by omega]) ?_
              refine z_iload_n C dX1_holds_109 rfl 4 rfl ?_
              refine z_iload_n C dX1_holds_110 rfl 5 rfl ?_
              refine z_iload C dX1_holds_111 6 rfl ?_
              refine z_iload C dX1_holds_113 7 rfl ?_
              refine z_iload C dX1_holds_115 8 rfl ?_
              refine z_callSi C hm cl_X1_44 cs_X1_valueOf [.int (nI l0), .int a, .int b, .int s, .int l, .int f] rfl (rest := []) rfl (k_X1_valueOf w _ _ l0 (nI l0) a b s l f hl0 rfl) ⟨rfl, rfl, Nat.le_of_ble_eq_true rfl, Nat.le_of_ble_eq_true rfl⟩ (Nat.le_of_ble_eq_true rfl) dX1_holds_117 (fun v_1 I_1 J_1 h_1 => ?_)
              obtain ⟨ev_1, ei_1, ej_1⟩ := h_1
              replace ev_1 := ev_1.symm; subst ev_1
              replace ei_1 := ei_1.symm; subst ei_1
              replace ej_1 := ej_1.symm; subst ej_1
              refine z_istore C hm (lv' := [(11, .int (zenv a b s l f l0)), (10, .int (y7 &&& 1)), (9, .int (nI ((3 * l0 + r0) * 100 + n0))), (0, .ref (zad w (47 + 5 * i))), (1, .int c), (2, .int a), (3, .int b), (4, .int s), (5, .int l), (6, .int f), (7, .int y7), (8, .int (nI (lo + k)))]) dX1_holds_120 (by decide) rfl ?_
              refine z_iload C dX1_holds_122 10 rfl ?_
              refine z_iconst C (v := 1) dX1_holds_124 (by decide) ?_
              refine z_ishl C dX1_holds_125 ?_
              refine z_iload C dX1_holds_126 0 rfl ?_
              refine z_iload C dX1_holds_128 2 rfl ?_
              refine z_bipush C (v := 100) dX1_holds_130 (by decide) ?_
              refine z_idiv C dX1_holds_132 (by decide) ?_
              refine z_ti (y := nI (3 * l0 + r0)) (by rw [dv100 (by omega), show (((3 * l0 + r0) * 100 + n0) / 100) = 3 * l0 + r0 by omega]) ?_
              refine z_iconst C (v := 3) dX1_holds_133 (by decide) ?_
              refine z_irem C dX1_holds_134 (by decide) ?_
              refine z_ti (y := nI r0) (by rw [md3 (by omega), show ((3 * l0 + r0) % 3) = r0 by omega]) ?_
              refine z_iload C dX1_holds_135 2 rfl ?_
              refine z_bipush C (v := 100) dX1_holds_137 (by decide) ?_
              refine z_irem C dX1_holds_139 (by decide) ?_
              refine z_ti (y := nI n0) (by rw [md100 (by omega), show (((3 * l0 + r0) * 100 + n0) % 100) = n0 by omega]) ?_
              refine z_callSi C hm cl_X1_48 cs_X1_passes [.int (zenv a b s l f l0), .int (nI r0), .int (nI n0)] rfl (rest := [.int (y7 <<< (1 &&& 31))]) rfl (k_X1_passes w _ _ r0 (zenv a b s l f l0) (nI r0) (nI n0) hr0 rfl) ⟨rfl, rfl, Nat.le_of_ble_eq_true rfl, Nat.le_of_ble_eq_true rfl⟩ (Nat.le_of_ble_eq_true rfl) dX1_holds_140 (fun v_2 I_2 J_2 h_2 => ?_)
              obtain ⟨ev_2, ei_2, ej_2⟩ := h_2
              replace ev_2 := ev_2.symm; subst ev_2
              replace ei_2 := ei_2.symm; subst ei_2
              replace ej_2 := ej_2.symm; subst ej_2
              refine z_ifeq_b (tgt := 150) C dX1_holds_143 (by decide) (fun c143 => ?_) (fun c143 => ?_)
              · skip
                rw [show tkB (zenv a b s l f) l0 r0 n0 = false from @decide_eq_false _ (Classical.propDecidable _) c143] at hst
                refine z_iconst C (v := 0) dX1_holds_150 (by decide) ?_
                refine z_ior C dX1_holds_151 ?_
                refine z_istore C hm (lv' := [(7, .int ((y7 <<< (1 &&& 31)) ||| 0)), (11, .int (zenv a b s l f l0)), (10, .int (y7 &&& 1)), (9, .int (nI ((3 * l0 + r0) * 100 + n0))), (0, .ref (zad w (47 + 5 * i))), (1, .int c), (2, .int a), (3, .int b), (4, .int s), (5, .int l), (6, .int f), (8, .int (nI (lo + k)))]) dX1_holds_152 (by decide) rfl ?_
                refine z_iinc C hm 11 (v := nI (lo + k + 1)) (lv' := [(8, .int (nI (lo + k + 1))), (7, .int ((y7 <<< (1 &&& 31)) ||| 0)), (11, .int (zenv a b s l f l0)), (10, .int (y7 &&& 1)), (9, .int (nI ((3 * l0 + r0) * 100 + n0))), (0, .ref (zad w (47 + 5 * i))), (1, .int c), (2, .int a), (3, .int b), (4, .int s), (5, .int l), (6, .int f)]) dX1_holds_154 rfl (nI_add (lo + k) 1) (by decide) rfl ?_
                refine z_goto (tgt := 21) C dX1_holds_157 (by decide) ?_
                exact z_sub [5, 6, 7, 8, 9, 10, 11, 1, 0] rfl (ih21  (k + 1) (false :: st) _ _ _ (by omega) (by omega) hst (by simp; omega) (zEnc_f henc hlen) rfl rfl)
              · skip
                rw [show tkB (zenv a b s l f) l0 r0 n0 = true from @decide_eq_true _ (Classical.propDecidable _) c143] at hst
                refine z_iconst C (v := 1) dX1_holds_146 (by decide) ?_
                refine z_goto (tgt := 151) C dX1_holds_147 (by decide) ?_
                refine z_ior C dX1_holds_151 ?_
                refine z_istore C hm (lv' := [(7, .int ((y7 <<< (1 &&& 31)) ||| 1)), (11, .int (zenv a b s l f l0)), (10, .int (y7 &&& 1)), (9, .int (nI ((3 * l0 + r0) * 100 + n0))), (0, .ref (zad w (47 + 5 * i))), (1, .int c), (2, .int a), (3, .int b), (4, .int s), (5, .int l), (6, .int f), (8, .int (nI (lo + k)))]) dX1_holds_152 (by decide) rfl ?_
                refine z_iinc C hm 11 (v := nI (lo + k + 1)) (lv' := [(8, .int (nI (lo + k + 1))), (7, .int ((y7 <<< (1 &&& 31)) ||| 1)), (11, .int (zenv a b s l f l0)), (10, .int (y7 &&& 1)), (9, .int (nI ((3 * l0 + r0) * 100 + n0))), (0, .ref (zad w (47 + 5 * i))), (1, .int c), (2, .int a), (3, .int b), (4, .int s), (5, .int l), (6, .int f)]) dX1_holds_154 rfl (nI_add (lo + k) 1) (by decide) rfl ?_
                refine z_goto (tgt := 21) C dX1_holds_157 (by decide) ?_
                exact z_sub [5, 6, 7, 8, 9, 10, 11, 1, 0] rfl (ih21  (k + 1) (true :: st) _ _ _ (by omega) (by omega) hst (by simp; omega) (zEnc_t henc hlen) rfl rfl)
            · skip
              rw [cTok_or hok1 c88] at hst
              obtain ⟨b0, c0, st0, rfl, hst⟩ := aEv_2 hst
              refine z_iload C dX1_holds_91 9 rfl ?_
              refine z_iconst C (v := 1) dX1_holds_93 (by decide) ?_
              refine z_ishr C dX1_holds_94 ?_
              refine z_iload C dX1_holds_95 0 rfl ?_
              refine z_ior C dX1_holds_97 ?_
              refine z_istore C hm (lv' := [(7, .int ((y7 >>> (1 &&& 31)) ||| (y7 &&& 1))), (10, .int (y7 &&& 1)), (9, .int (cTok (T.getD k dTk))), (0, .ref (zad w (47 + 5 * i))), (1, .int c), (2, .int a), (3, .int b), (4, .int s), (5, .int l), (6, .int f), (8, .int (nI (lo + k)))]) dX1_holds_98 (by decide) rfl ?_
              refine z_goto (tgt := 154) C dX1_holds_100 (by decide) ?_
              refine z_iinc C hm 10 (v := nI (lo + k + 1)) (lv' := [(8, .int (nI (lo + k + 1))), (7, .int ((y7 >>> (1 &&& 31)) ||| (y7 &&& 1))), (10, .int (y7 &&& 1)), (9, .int (cTok (T.getD k dTk))), (0, .ref (zad w (47 + 5 * i))), (1, .int c), (2, .int a), (3, .int b), (4, .int s), (5, .int l), (6, .int f)]) dX1_holds_154 rfl (nI_add (lo + k) 1) (by decide) rfl ?_
              refine z_goto (tgt := 21) C dX1_holds_157 (by decide) ?_
              exact z_sub [4, 5, 6, 7, 8, 9, 10, 1, 0] rfl (ih21  (k + 1) ((c0 || b0) :: st0) _ _ _ (by omega) (by omega) hst (by simp at hsl ⊢; omega) (zEnc_or henc (by simp at hsl; omega)) rfl rfl)
          · skip
            rw [cTok_and hok1 c66] at hst
            obtain ⟨b0, c0, st0, rfl, hst⟩ := aEv_1 hst
            refine z_iload C dX1_holds_69 9 rfl ?_
            refine z_iconst C (v := 1) dX1_holds_71 (by decide) ?_
            refine z_ishr C dX1_holds_72 ?_
            refine z_iload C dX1_holds_73 0 rfl ?_
            refine z_bipush C (v := -2) dX1_holds_75 (by decide) ?_
            refine z_ior C dX1_holds_77 ?_
            refine z_iand C dX1_holds_78 ?_
            refine z_istore C hm (lv' := [(7, .int ((y7 >>> (1 &&& 31)) &&& ((y7 &&& 1) ||| (-2)))), (10, .int (y7 &&& 1)), (9, .int (cTok (T.getD k dTk))), (0, .ref (zad w (47 + 5 * i))), (1, .int c), (2, .int a), (3, .int b), (4, .int s), (5, .int l), (6, .int f), (8, .int (nI (lo + k)))]) dX1_holds_79 (by decide) rfl ?_
            refine z_goto (tgt := 154) C dX1_holds_81 (by decide) ?_
            refine z_iinc C hm 10 (v := nI (lo + k + 1)) (lv' := [(8, .int (nI (lo + k + 1))), (7, .int ((y7 >>> (1 &&& 31)) &&& ((y7 &&& 1) ||| (-2)))), (10, .int (y7 &&& 1)), (9, .int (cTok (T.getD k dTk))), (0, .ref (zad w (47 + 5 * i))), (1, .int c), (2, .int a), (3, .int b), (4, .int s), (5, .int l), (6, .int f)]) dX1_holds_154 rfl (nI_add (lo + k) 1) (by decide) rfl ?_
            refine z_goto (tgt := 21) C dX1_holds_157 (by decide) ?_
            exact z_sub [4, 5, 6, 7, 8, 9, 10, 1, 0] rfl (ih21  (k + 1) ((c0 && b0) :: st0) _ _ _ (by omega) (by omega) hst (by simp at hsl ⊢; omega) (zEnc_and henc (by simp at hsl; omega)) rfl rfl)
        · skip
          rw [cTok_not hok1 c51] at hst
          obtain ⟨b0, st0, rfl, hst⟩ := aEv_0 hst
          refine z_iload C dX1_holds_54 9 rfl ?_
          refine z_iconst C (v := 1) dX1_holds_56 (by decide) ?_
          refine z_ixor C dX1_holds_57 ?_
          refine z_istore C hm (lv' := [(7, .int (y7 ^^^ 1)), (10, .int (y7 &&& 1)), (9, .int (cTok (T.getD k dTk))), (0, .ref (zad w (47 + 5 * i))), (1, .int c), (2, .int a), (3, .int b), (4, .int s), (5, .int l), (6, .int f), (8, .int (nI (lo + k)))]) dX1_holds_58 (by decide) rfl ?_
          refine z_goto (tgt := 154) C dX1_holds_60 (by decide) ?_
          refine z_iinc C hm 10 (v := nI (lo + k + 1)) (lv' := [(8, .int (nI (lo + k + 1))), (7, .int (y7 ^^^ 1)), (10, .int (y7 &&& 1)), (9, .int (cTok (T.getD k dTk))), (0, .ref (zad w (47 + 5 * i))), (1, .int c), (2, .int a), (3, .int b), (4, .int s), (5, .int l), (6, .int f)]) dX1_holds_154 rfl (nI_add (lo + k) 1) (by decide) rfl ?_
          refine z_goto (tgt := 21) C dX1_holds_157 (by decide) ?_
          exact z_sub [4, 5, 6, 7, 8, 9, 10, 1, 0] rfl (ih21  (k + 1) ((!b0) :: st0) _ _ _ (by omega) (by omega) hst (by simp at hsl ⊢; omega) (zEnc_not henc) rfl rfl)
  refine z_iconst C (v := 0) dX1_holds_0 (by decide) ?_
  refine z_istore C hm (lv' := [(7, .int 0), (0, .ref (zad w (47 + 5 * i))), (1, .int c), (2, .int a), (3, .int b), (4, .int s), (5, .int l), (6, .int f)]) dX1_holds_1 (by decide) rfl ?_
  refine z_iload_n C dX1_holds_3 rfl 2 rfl ?_
  refine z_if_ne (tgt := 11) C dX1_holds_4 (by decide) (fun c4 => ?_) (fun c4 => ?_)
  · skip
    have hcp : 1 ≤ cn := Nat.pos_of_ne_zero (fun q => c4 (by rw [hc, q]; rfl))
    refine z_aload_n C dX1_holds_11 rfl 1 rfl ?_
    refine z_getr C ff_X1_18 (47 + 5 * i) (shLn0 hi) (shL0 hi) rfl dX1_holds_12 ?_
    refine z_iload_n C dX1_holds_15 rfl 2 rfl ?_
    refine z_iconst C (v := 1) dX1_holds_16 (by decide) ?_
    refine z_isub C dX1_holds_17 ?_
    refine z_ti (y := nI (cn - 1)) (by rw [hc]; exact pk_sub (b := 1) hcp) ?_
    refine z_iald C (47 + 5 * i + 3) (shLn3 hi) (shL3 hi) (cn - 1) (by omega) (by decide) rfl (v := nI lo) (hlo2 (cn - 1) (by omega)) dX1_holds_18 ?_
    refine z_istore C hm (lv' := [(8, .int (nI lo)), (7, .int 0), (0, .ref (zad w (47 + 5 * i))), (1, .int c), (2, .int a), (3, .int b), (4, .int s), (5, .int l), (6, .int f)]) dX1_holds_19 (by decide) rfl ?_
    exact z_sub [2, 3, 4, 5, 6, 7, 8, 1, 0] rfl (L21 _ 0 [] 0 _ _ (Nat.lt_succ_self _) (Nat.zero_le _) hev (Nat.zero_le _) zEnc_0 rfl rfl)
  · skip
    refine z_iconst C (v := 0) dX1_holds_7 (by decide) ?_
    refine z_goto (tgt := 19) C dX1_holds_8 (by decide) ?_
    refine z_istore C hm (lv' := [(8, .int 0), (7, .int 0), (0, .ref (zad w (47 + 5 * i))), (1, .int c), (2, .int a), (3, .int b), (4, .int s), (5, .int l), (6, .int f)]) dX1_holds_19 (by decide) rfl ?_
    exact z_sub [2, 3, 4, 5, 6, 7, 8, 1, 0] rfl (L21 _ 0 [] 0 _ _ (Nat.lt_succ_self _) (Nat.zero_le _) hev (Nat.zero_le _) zEnc_0 rfl (by rw [hlo (hcz c4)]; rfl))
