/-! readOne, one level more -/
theorem zPs_un {I K : zI} {i u q : Nat} {ts : List zTok} (h : zPs I K i u (q, some ts) 1) : zPs I K i u (q, none) 0 := ⟨h.1, h.2.1, rfl⟩
theorem zMe_w {w : zW} {y : MethodName} {cc : ByteArray} {mx : Nat} {rm : Room} {i d d' : Nat} {c : Nat → Nat} {L : Nat} {S : Nat → zR} (e : d = d') (h : zMe w y cc mx rm i d c L S) : zMe w y cc mx rm i d' c L S := by subst e; exact h
set_option maxRecDepth 100000 in
set_option maxHeartbeats 4000000 in
theorem k_X5_readOne_s (w : zW) (i dp r : Nat) (c : Nat → Nat) (L : Nat) (fr lc : Nat) (hi7 : i < 7) (hl : L ≤ 100) (hBe : ∀ q, L ≤ q → c q = 300) (hdp : dp < 4) (hfr : 20 ≤ fr) (hlc : 1000 ≤ lc)
    (hOne : zMe w yX5_readOne cX5_readOne 4 { frames := fr, cells := 0, slots := 0, locals := lc } i (dp + 1) c L (zFp c r)) (hEi : zMe w yX5_readEither cX5_readEither 4 { frames := fr + 1 + 1, cells := 0, slots := 0, locals := lc + 60 + 60 } i (dp + 1) c L (zEp c (zFp c r))) : zMe w yX5_readOne cX5_readOne 4 { frames := fr + 3, cells := 0, slots := 0, locals := lc + 180 } i dp c L (zFp c (r + 1)) := by
  intro I J u p hL hp hpl hBy hU hup
  refine zMet_of (by decide) (Nat.le_of_ble_eq_true rfl) (fun X C hm hr => ?_)
  refine z_sub (lv' := [(0, .ref (zad w 2)), (1, .ref (zad w (47 + 5 * i))), (2, .int (nI dp))]) [0, 1, 2] rfl ?_
  refine z_aload_n C dX5_readOne_0 rfl 0 rfl ?_
  refine z_geti C ff_X5_24 2 (by decide) sh2 rfl (v := nI p) hp dX5_readOne_1 ?_
  refine z_aload_n C dX5_readOne_4 rfl 0 rfl ?_
  refine z_geti C ff_X5_15 2 (by decide) sh2 rfl (v := nI L) hL dX5_readOne_5 ?_
  refine z_icmp_ge_n p L (tgt := 23) C rfl rfl (by omega) (by omega) dX5_readOne_8 (by decide) (fun c8 => ?_) (fun c8 => ?_)
  · skip
    have hce := hBe p (by omega)
    refine z_iconst C (v := -1) dX5_readOne_23 (by decide) ?_
    refine z_istore_n C hm (lv' := [(3, .int (-1)), (0, .ref (zad w 2)), (1, .ref (zad w (47 + 5 * i))), (2, .int (nI dp))]) dX5_readOne_24 rfl (by decide) rfl ?_
    refine z_iload_n C dX5_readOne_25 rfl 0 rfl ?_
    refine z_bipush C (v := 33) dX5_readOne_26 (by decide) ?_
    refine z_icmp_eq (tgt := 43) C dX5_readOne_28 (by decide) (fun c28 => ?_) (fun c28 => ?_)
    · skip
      exact absurd c28 (by decide)
    · skip
      refine z_iload_n C dX5_readOne_31 rfl 0 rfl ?_
      refine z_bipush C (v := 40) dX5_readOne_32 (by decide) ?_
      refine z_icmp_eq (tgt := 43) C dX5_readOne_34 (by decide) (fun c34 => ?_) (fun c34 => ?_)
      · skip
        exact absurd c34 (by decide)
      · skip
        refine z_aload_n C dX5_readOne_37 rfl 1 rfl ?_
        refine z_aload_n C dX5_readOne_38 rfl 2 rfl ?_
        refine z_callVi C hm cl_X5_89 cv_X5_readTest 2 (by decide) sh2 ⟨_, _, rfl⟩ [.ref (zad w (47 + 5 * i))] rfl (rest := []) rfl (k_X5_readTest w _ _ i u c L p hi7 hU hup hL hl hp hpl hBy hBe) ⟨rfl, rfl, by show 9 + 1 ≤ fr + 3; omega, by show 8 + (5 + 11) + 307 ≤ lc + 180; omega⟩ (Nat.le_of_ble_eq_true rfl) dX5_readOne_39 (fun v_1 I_1 J_1 h_1 => ?_)
        obtain ⟨hz_1, ej_1⟩ := h_1
        replace ej_1 := ej_1.symm; subst ej_1
        refine z_iret C hr (zPs_nar hz_1) dX5_readOne_42 ?_
        refine ⟨_, rfl, ?_⟩
        refine ⟨?_, rfl⟩
        rw [zFp, if_neg (by omega), if_neg (by omega)]; exact hz_1
  · skip
    have hpl2 : p < L := by omega
    have hb256 := (hBy p hpl2).2
    refine z_aload_n C dX5_readOne_11 rfl 0 rfl ?_
    refine z_getr C ff_X5_9 2 (by decide) sh2 rfl dX5_readOne_12 ?_
    refine z_aload_n C dX5_readOne_15 rfl 0 rfl ?_
    refine z_geti C ff_X5_24 2 (by decide) sh2 rfl (v := nI p) hp dX5_readOne_16 ?_
    refine z_iald C 3 (by decide) sh3 p (by omega) (by decide) rfl (v := nI (c p)) (hBy p (by omega)).1 dX5_readOne_19 ?_
    refine z_goto (tgt := 24) C dX5_readOne_20 (by decide) ?_
    refine z_istore_n C hm (lv' := [(3, .int (nI (c p))), (0, .ref (zad w 2)), (1, .ref (zad w (47 + 5 * i))), (2, .int (nI dp))]) dX5_readOne_24 rfl (by decide) rfl ?_
    refine z_iload_n C dX5_readOne_25 rfl 0 rfl ?_
    refine z_bipush C (v := 33) dX5_readOne_26 (by decide) ?_
    refine z_icmp_eq_n (c p) 33 (tgt := 43) C rfl rfl (by omega) (by omega) dX5_readOne_28 (by decide) (fun c28 => ?_) (fun c28 => ?_)
    · skip
      refine z_iload_n C dX5_readOne_43 rfl 3 rfl ?_
      refine z_iconst C (v := 4) dX5_readOne_44 (by decide) ?_
      refine z_icmp_lt_n dp 4 (tgt := 50) C rfl rfl (by omega) (by omega) dX5_readOne_45 (by decide) (fun c45 => ?_) (fun c45 => ?_)
      · skip
        refine z_aload_n C dX5_readOne_50 rfl 1 rfl ?_
        refine z_dup C dX5_readOne_51 rfl ?_
        refine z_geti C ff_X5_24 2 (by decide) sh2 rfl (v := nI p) hp dX5_readOne_52 ?_
        refine z_iconst C (v := 1) dX5_readOne_55 (by decide) ?_
        refine z_iadd C dX5_readOne_56 ?_
        refine z_ti (y := nI (p + 1)) (nI_add p 1) ?_
        refine z_puti C ff_X5_24 2 (by decide) sh2 rfl rfl rfl dX5_readOne_57 ?_
        refine z_I (I' := zup I 2 (upd (I 2) 2 (nI (p + 1)))) rfl ?_
        refine z_iload_n C dX5_readOne_60 rfl 0 rfl ?_
        refine z_bipush C (v := 40) dX5_readOne_61 (by decide) ?_
        refine z_icmp_ne_n (c p) 40 (tgt := 92) C rfl rfl (by omega) (by omega) dX5_readOne_63 (by decide) (fun c63 => ?_) (fun c63 => ?_)
        · skip
          refine z_aload_n C dX5_readOne_92 rfl 1 rfl ?_
          refine z_aload_n C dX5_readOne_93 rfl 2 rfl ?_
          refine z_iload_n C dX5_readOne_94 rfl 3 rfl ?_
          refine z_iconst C (v := 1) dX5_readOne_95 (by decide) ?_
          refine z_iadd C dX5_readOne_96 ?_
          refine z_ti (y := nI (dp + 1)) (nI_add dp 1) ?_
          refine z_callVi (rmc := { frames := fr, cells := 0, slots := 0, locals := lc }) C hm cl_X5_86 cv_X5_readOne 2 (by decide) sh2 ⟨_, _, rfl⟩ [.ref (zad w (47 + 5 * i)), .int (nI (dp + 1))] rfl (rest := []) rfl (hOne _ _ u (p + 1) hL (by rfl) (by omega) (by exact hBy) (by rw [zup_n (by omega)]; exact hU) (by omega)) ⟨rfl, rfl, by show fr + 1 ≤ fr + 3; omega, by show 8 + (4 + 11) + lc ≤ lc + 180; omega⟩ (Nat.le_of_ble_eq_true rfl) dX5_readOne_97 (fun v_2 I_2 J_2 h_2 => ?_)
          obtain ⟨hz_2, ej_2⟩ := h_2
          replace ej_2 := ej_2.symm; subst ej_2
          rcases hq_2 : zFp c r (p + 1) with ⟨q_2, _ | us_2⟩
          · skip
            rw [hq_2] at hz_2
            have hv_2 : v_2 = 0 := hz_2.2.2
            subst hv_2
            have hps := zPs_no (zPs_eat (q := p) hU) hz_2
            refine z_if_ne (tgt := 105) C dX5_readOne_100 (by decide) (fun c100 => ?_) (fun c100 => ?_)
            · skip
              exact absurd rfl c100
            · skip
              refine z_iconst C (v := 0) dX5_readOne_103 (by decide) ?_
              refine z_iret C hr (by decide) dX5_readOne_104 ?_
              refine ⟨_, rfl, ?_⟩
              refine ⟨?_, rfl⟩
              rw [zFp, if_pos (by omega)]; simp only [hq_2]
              exact hps
          · skip
            rw [hq_2] at hz_2
            have hv_2 : v_2 = 1 := hz_2.2.2.1
            subst hv_2
            have hps := zPs_tr (zPs_eat (q := p) hU) hz_2
            rw [List.nil_append] at hps
            obtain ⟨kp, kl, ku, k3⟩ := zPs_f hps
            have mu := ku
            have hgd := zGd_a (zFp_gd hBe r) (show p + 1 ≤ L by omega) hq_2
            refine z_if_ne (tgt := 105) C dX5_readOne_100 (by decide) (fun c100 => ?_) (fun c100 => ?_)
            · skip
              refine z_aload_n C dX5_readOne_105 rfl 2 rfl ?_
              refine z_bipush C (v := -3) dX5_readOne_106 (by decide) ?_
              have hul : u + us_2.length < 100 := by omega
              refine z_callVv C hm cl_X5_82 cv_X1_addSign (47 + 5 * i) (shLn0 hi7) (shL0 hi7) ⟨_, _, rfl⟩ [.int (-3)] rfl (rest := []) rfl (k_X1_addSign w _ _ i (u + us_2.length) (-3) hi7 mu hul) ⟨rfl, rfl, by show 4 + 1 ≤ fr + 3; omega, by show 8 + (2 + 11) + 200 ≤ lc + 180; omega⟩ (Nat.le_of_ble_eq_true rfl) dX5_readOne_108 (fun I_3 J_3 h_3 => ?_)
              obtain ⟨ei_3, ej_3⟩ := h_3
              replace ei_3 := ei_3.symm; subst ei_3
              replace ej_3 := ej_3.symm; subst ej_3
              refine z_iconst C (v := 1) dX5_readOne_111 (by decide) ?_
              refine z_iret C hr (by decide) dX5_readOne_112 ?_
              refine ⟨_, rfl, ?_⟩
              refine ⟨?_, rfl⟩
              rw [zFp, if_pos (by omega)]; simp only [hq_2]
              exact zPs_tr hps (zPs_add (t := .inl 0) kp)
            · skip
              exact absurd c100 (by decide)
        · skip
          exact absurd c63 (by omega)
      · skip
        exact absurd hdp (by omega)
    · skip
      refine z_iload_n C dX5_readOne_31 rfl 0 rfl ?_
      refine z_bipush C (v := 40) dX5_readOne_32 (by decide) ?_
      refine z_icmp_eq_n (c p) 40 (tgt := 43) C rfl rfl (by omega) (by omega) dX5_readOne_34 (by decide) (fun c34 => ?_) (fun c34 => ?_)
      · skip
        refine z_iload_n C dX5_readOne_43 rfl 3 rfl ?_
        refine z_iconst C (v := 4) dX5_readOne_44 (by decide) ?_
        refine z_icmp_lt_n dp 4 (tgt := 50) C rfl rfl (by omega) (by omega) dX5_readOne_45 (by decide) (fun c45 => ?_) (fun c45 => ?_)
        · skip
          refine z_aload_n C dX5_readOne_50 rfl 1 rfl ?_
          refine z_dup C dX5_readOne_51 rfl ?_
          refine z_geti C ff_X5_24 2 (by decide) sh2 rfl (v := nI p) hp dX5_readOne_52 ?_
          refine z_iconst C (v := 1) dX5_readOne_55 (by decide) ?_
          refine z_iadd C dX5_readOne_56 ?_
          refine z_ti (y := nI (p + 1)) (nI_add p 1) ?_
          refine z_puti C ff_X5_24 2 (by decide) sh2 rfl rfl rfl dX5_readOne_57 ?_
          refine z_I (I' := zup I 2 (upd (I 2) 2 (nI (p + 1)))) rfl ?_
          refine z_iload_n C dX5_readOne_60 rfl 0 rfl ?_
          refine z_bipush C (v := 40) dX5_readOne_61 (by decide) ?_
          refine z_icmp_ne_n (c p) 40 (tgt := 92) C rfl rfl (by omega) (by omega) dX5_readOne_63 (by decide) (fun c63 => ?_) (fun c63 => ?_)
          · skip
            exact absurd c34 (by omega)
          · skip
            refine z_aload_n C dX5_readOne_66 rfl 1 rfl ?_
            refine z_aload_n C dX5_readOne_67 rfl 2 rfl ?_
            refine z_iload_n C dX5_readOne_68 rfl 3 rfl ?_
            refine z_iconst C (v := 1) dX5_readOne_69 (by decide) ?_
            refine z_iadd C dX5_readOne_70 ?_
            refine z_ti (y := nI (dp + 1)) (nI_add dp 1) ?_
            refine z_callVi (rmc := { frames := fr + 1 + 1, cells := 0, slots := 0, locals := lc + 60 + 60 }) C hm cl_X5_43 cv_X5_readEither 2 (by decide) sh2 ⟨_, _, rfl⟩ [.ref (zad w (47 + 5 * i)), .int (nI (dp + 1))] rfl (rest := []) rfl (hEi _ _ u (p + 1) hL (by rfl) (by omega) (by exact hBy) (by rw [zup_n (by omega)]; exact hU) (by omega)) ⟨rfl, rfl, by show (fr + 1 + 1) + 1 ≤ fr + 3; omega, by show 8 + (4 + 11) + (lc + 60 + 60) ≤ lc + 180; omega⟩ (Nat.le_of_ble_eq_true rfl) dX5_readOne_71 (fun v_4 I_4 J_4 h_4 => ?_)
            obtain ⟨hz_4, ej_4⟩ := h_4
            replace ej_4 := ej_4.symm; subst ej_4
            rcases hq_4 : zEp c (zFp c r) (p + 1) with ⟨q_4, _ | us_4⟩
            · skip
              rw [hq_4] at hz_4
              have hv_4 : v_4 = 0 := hz_4.2.2
              subst hv_4
              have hps := zPs_no (zPs_eat (q := p) hU) hz_4
              refine z_if_eq (tgt := 90) C dX5_readOne_74 (by decide) (fun c74 => ?_) (fun c74 => ?_)
              · skip
                refine z_iconst C (v := 0) dX5_readOne_90 (by decide) ?_
                refine z_iret C hr (by decide) dX5_readOne_91 ?_
                refine ⟨_, rfl, ?_⟩
                refine ⟨?_, rfl⟩
                rw [zFp, if_neg (by omega), if_pos (by omega)]; simp only [hq_4]
                exact hps
              · skip
                exact absurd rfl c74
            · skip
              rw [hq_4] at hz_4
              have hv_4 : v_4 = 1 := hz_4.2.2.1
              subst hv_4
              have hps := zPs_tr (zPs_eat (q := p) hU) hz_4
              rw [List.nil_append] at hps
              obtain ⟨kp, kl, ku, k3⟩ := zPs_f hps
              have mu := ku
              have hgd := zGd_a (zEp_gd hBe (zFp_gd hBe r)) (show p + 1 ≤ L by omega) hq_4
              refine z_if_eq (tgt := 90) C dX5_readOne_74 (by decide) (fun c74 => ?_) (fun c74 => ?_)
              · skip
                exact absurd c74 (by decide)
              · skip
                refine z_aload_n C dX5_readOne_77 rfl 1 rfl ?_
                refine z_bipush C (v := 41) dX5_readOne_78 (by decide) ?_
                refine z_callVi C hm cl_X5_31 cv_X5_eats 2 (by decide) sh2 ⟨_, _, rfl⟩ [.int 41] rfl (rest := []) rfl (k_X5_eats w _ _ c L q_4 41 (kl.trans hL) hl kp hgd.1 (by rw [k3 hi7]; exact hBy) hBe (by decide)) ⟨rfl, rfl, by show 4 + 1 ≤ fr + 3; omega, by show 8 + (2 + 11) + 200 ≤ lc + 180; omega⟩ (Nat.le_of_ble_eq_true rfl) dX5_readOne_80 (fun v_5 I_5 J_5 h_5 => ?_)
                obtain ⟨ev_5, ei_5, ej_5⟩ := h_5
                replace ej_5 := ej_5.symm; subst ej_5
                by_cases ce : c q_4 = 41
                · skip
                  rw [bI_t ce] at ev_5; rw [cif_t ce] at ei_5; subst ev_5; subst ei_5
                  refine z_if_eq (tgt := 90) C dX5_readOne_83 (by decide) (fun c83 => ?_) (fun c83 => ?_)
                  · skip
                    exact absurd c83 (by decide)
                  · skip
                    refine z_iconst C (v := 1) dX5_readOne_86 (by decide) ?_
                    refine z_goto (tgt := 91) C dX5_readOne_87 (by decide) ?_
                    refine z_iret C hr (by decide) dX5_readOne_91 ?_
                    refine ⟨_, rfl, ?_⟩
                    refine ⟨?_, rfl⟩
                    rw [zFp, if_neg (by omega), if_pos (by omega)]; simp only [hq_4]
                    rw [if_pos ce]
                    have hf := zPs_tr hps (zPs_eat (q := q_4) ku)
                    rw [List.append_nil] at hf
                    exact hf
                · skip
                  rw [bI_f ce] at ev_5; rw [cif_f ce] at ei_5; subst ev_5; subst ei_5
                  refine z_if_eq (tgt := 90) C dX5_readOne_83 (by decide) (fun c83 => ?_) (fun c83 => ?_)
                  · skip
                    refine z_iconst C (v := 0) dX5_readOne_90 (by decide) ?_
                    refine z_iret C hr (by decide) dX5_readOne_91 ?_
                    refine ⟨_, rfl, ?_⟩
                    refine ⟨?_, rfl⟩
                    rw [zFp, if_neg (by omega), if_pos (by omega)]; simp only [hq_4]
                    rw [if_neg ce]
                    exact zPs_un hps
                  · skip
                    exact absurd rfl c83
        · skip
          exact absurd hdp (by omega)
      · skip
        refine z_aload_n C dX5_readOne_37 rfl 1 rfl ?_
        refine z_aload_n C dX5_readOne_38 rfl 2 rfl ?_
        refine z_callVi C hm cl_X5_89 cv_X5_readTest 2 (by decide) sh2 ⟨_, _, rfl⟩ [.ref (zad w (47 + 5 * i))] rfl (rest := []) rfl (k_X5_readTest w _ _ i u c L p hi7 hU hup hL hl hp hpl hBy hBe) ⟨rfl, rfl, by show 9 + 1 ≤ fr + 3; omega, by show 8 + (5 + 11) + 307 ≤ lc + 180; omega⟩ (Nat.le_of_ble_eq_true rfl) dX5_readOne_39 (fun v_6 I_6 J_6 h_6 => ?_)
        obtain ⟨hz_6, ej_6⟩ := h_6
        replace ej_6 := ej_6.symm; subst ej_6
        refine z_iret C hr (zPs_nar hz_6) dX5_readOne_42 ?_
        refine ⟨_, rfl, ?_⟩
        refine ⟨?_, rfl⟩
        rw [zFp, if_neg (by omega), if_neg (by omega)]; exact hz_6
/-- the readers of every level: r others may stand within -/
def zrF : Nat → Nat
  | 0 => 20
  | r + 1 => zrF r + 3
def zrL : Nat → Nat
  | 0 => 1000
  | r + 1 => zrL r + 180
theorem zrF_ge : ∀ r, 20 ≤ zrF r
  | 0 => Nat.le_refl _
  | r + 1 => by have := zrF_ge r; rw [zrF]; omega
theorem zrL_ge : ∀ r, 1000 ≤ zrL r
  | 0 => Nat.le_refl _
  | r + 1 => by have := zrL_ge r; rw [zrL]; omega
theorem k_X5_one (w : zW) (i : Nat) (c : Nat → Nat) (L : Nat) (hi7 : i < 7) (hl : L ≤ 100) (hBe : ∀ q, L ≤ q → c q = 300) : ∀ r, r ≤ 4 → zMe w yX5_readOne cX5_readOne 4 { frames := zrF r, cells := 0, slots := 0, locals := zrL r } i (4 - r) c L (zFp c r)
  | 0, _ => k_X5_readOne_0 w i c L hi7 hl hBe
  | r + 1, h => by
    have hF := zrF_ge r
    have hL := zrL_ge r
    have h1 := zMe_w (show 4 - r = 3 - r + 1 by omega) (k_X5_one w i c L hi7 hl hBe r (by omega))
    have h2 := k_X5_readAll w i (3 - r + 1) c L (zFp c r) (zrF r) (zrL r) hi7 hl hBe (zFp_gd hBe r) (by omega) (by omega) h1
    have h3 := k_X5_readEither w i (3 - r + 1) c L (zTp c (zFp c r)) (zrF r + 1) (zrL r + 60) hi7 hl hBe (zTp_gd hBe (zFp_gd hBe r)) (by omega) (by omega) h2
    exact zMe_w (show 3 - r = 4 - (r + 1) by omega) (k_X5_readOne_s w i (3 - r) r c L (zrF r) (zrL r) hi7 hl hBe (by omega) (by omega) (by omega) h1 h3)
theorem k_X5_ei (w : zW) (i : Nat) (c : Nat → Nat) (L : Nat) (hi7 : i < 7) (hl : L ≤ 100) (hBe : ∀ q, L ≤ q → c q = 300) : zMe w yX5_readEither cX5_readEither 4 { frames := 34, cells := 0, slots := 0, locals := 1840 } i 0 c L (zEp c (zFp c 4)) := by
  have h1 := k_X5_one w i c L hi7 hl hBe 4 (Nat.le_refl _)
  have h2 := k_X5_readAll w i 0 c L (zFp c 4) (zrF 4) (zrL 4) hi7 hl hBe (zFp_gd hBe 4) (by decide) (by decide) h1
  have h3 := k_X5_readEither w i 0 c L (zTp c (zFp c 4)) (zrF 4 + 1) (zrL 4 + 60) hi7 hl hBe (zTp_gd hBe (zFp_gd hBe 4)) (by decide) (by decide) h2
  have e1 : zrF 4 + 1 + 1 = 34 := by decide
  have e2 : zrL 4 + 60 + 60 = 1840 := by decide
  rw [e1, e2] at h3
  exact h3
