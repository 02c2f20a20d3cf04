/-! readAll, readEither over a reader of one -/
def zMe (w : zW) (y : MethodName) (cc : ByteArray) (mx : Nat) (rm : Room) (i d : Nat) (c : Nat → Nat) (L : Nat) (S : Nat → zR) : Prop :=
  ∀ (I : zI) (J : zJ) (u p : Nat), I 2 1 = nI L → I 2 2 = nI p → p ≤ L → (∀ q, q < L → I 3 q = nI (c q) ∧ c q < 256) → I (47 + 5 * i) 5 = nI u → u ≤ p → zMet y cc mx (some .boolean) rm w [.ref (zad w 2), .ref (zad w (47 + 5 * i)), .int (nI d)] I J (zpi (fun v I' J' => zPs I I' i u (S p) v ∧ J' = J))
def zEp0 (c : Nat → Nat) (T : Nat → zR) (p : Nat) : zR := match T p with
  | (q, none) => (q, none)
  | (q, some ts) => zLp c T 124 2 100 q ts
set_option maxRecDepth 100000 in
set_option maxHeartbeats 4000000 in
theorem k_X5_readAll (w : zW) (i dp : Nat) (c : Nat → Nat) (L : Nat) (S : Nat → zR) (fr lc : Nat) (hi7 : i < 7) (hl : L ≤ 100) (hBe : ∀ q, L ≤ q → c q = 300) (hS : zGd L S) (hfr : 4 ≤ fr) (hlc : 200 ≤ lc)
    (hOne : zMe w yX5_readOne cX5_readOne 4 { frames := fr, cells := 0, slots := 0, locals := lc } i dp c L S) : zMe w yX5_readAll cX5_readAll 4 { frames := fr + 1, cells := 0, slots := 0, locals := lc + 60 } i dp c L (zTp c S) := by
  intro I J u p hL hp hpl hBy hU hup
  refine zMet_of (by decide) (Nat.le_of_ble_eq_true rfl) (fun X C hm hr => ?_)
  refine z_sub (lv' := [(0, .ref (zad w 2)), (1, .ref (zad w (47 + 5 * i))), (2, .int (nI dp))]) [0, 1, 2] rfl ?_
  refine z_aload_n C dX5_readAll_0 rfl 0 rfl ?_
  refine z_aload_n C dX5_readAll_1 rfl 1 rfl ?_
  refine z_iload_n C dX5_readAll_2 rfl 2 rfl ?_
  refine z_callVi (rmc := { frames := fr, cells := 0, slots := 0, locals := lc }) C hm cl_X5_86 cv_X5_readOne 2 (by decide) sh2 ⟨_, _, rfl⟩ [.ref (zad w (47 + 5 * i)), .int (nI dp)] rfl (rest := []) rfl (hOne _ _ u p hL hp hpl hBy hU hup) ⟨rfl, rfl, by show fr + 1 ≤ fr + 1; omega, by show 8 + (4 + 11) + lc ≤ lc + 60; omega⟩ (Nat.le_of_ble_eq_true rfl) dX5_readAll_3 (fun v_1 I_1 J_1 h_1 => ?_)
  obtain ⟨hz_1, ej_1⟩ := h_1
  replace ej_1 := ej_1.symm; subst ej_1
  rcases hq_1 : S p with ⟨q_1, _ | us_1⟩
  · skip
    rw [hq_1] at hz_1
    have hv_1 : v_1 = 0 := hz_1.2.2
    subst hv_1
    skip
    refine z_if_ne (tgt := 11) C dX5_readAll_6 (by decide) (fun c6 => ?_) (fun c6 => ?_)
    · skip
      exact absurd rfl c6
    · skip
      refine z_iconst C (v := 0) dX5_readAll_9 (by decide) ?_
      refine z_iret C hr (by decide) dX5_readAll_10 ?_
      refine ⟨_, rfl, ?_⟩
      exact ⟨by unfold zTp; rw [hq_1]; exact hz_1, rfl⟩
  · skip
    rw [hq_1] at hz_1
    have hv_1 : v_1 = 1 := hz_1.2.2.1
    subst hv_1
    have hgd := zGd_a hS hpl hq_1
    refine z_if_ne (tgt := 11) C dX5_readAll_6 (by decide) (fun c6 => ?_) (fun c6 => ?_)
    · skip
      refine z_iconst C (v := 0) dX5_readAll_11 (by decide) ?_
      refine z_istore_n C hm (lv' := [(3, .int 0), (0, .ref (zad w 2)), (1, .ref (zad w (47 + 5 * i))), (2, .int (nI dp))]) dX5_readAll_12 rfl (by decide) rfl ?_
      have L13 : ∀ (d : Nat) (k q : Nat) (ts : List zTok) (K : zI) (v13_3 : Int32) (I13 : zI), (100 - k) < d → (k ≤ 100) → (zPs I K i u (q, some ts) 1) → (zLp c S 38 1 (100 - k) q ts = zTp c S p) → (q ≤ L) → (p < q) → (ts.length ≤ q - p) → v13_3 = nI k → I13 = K → Z X w I13 J 13 [(0, .ref (zad w 2)), (1, .ref (zad w (47 + 5 * i))), (2, .int (nI dp)), (3, .int v13_3)] [] := by
        intro d
        induction d with
        | zero => intro k q ts K v13_3 I13 hd; exact absurd hd (Nat.not_lt_zero _)
        | succ d ih13 => 
          intro k q ts K v13_3 I13 hd13 hk hps hE hqL hpq htl e_v13_3 e_I13
          replace e_v13_3 := e_v13_3.symm; subst e_v13_3
          replace e_I13 := e_I13.symm; subst e_I13
          obtain ⟨kp, kl, ku, k3⟩ := zPs_f hps
          refine z_iload_n C dX5_readAll_13 rfl 3 rfl ?_
          refine z_bipush C (v := 100) dX5_readAll_14 (by decide) ?_
          refine z_icmp_ge_n k 100 (tgt := 50) C rfl rfl (by omega) (by omega) dX5_readAll_16 (by decide) (fun c16 => ?_) (fun c16 => ?_)
          · skip
            refine z_iconst C (v := 1) dX5_readAll_50 (by decide) ?_
            refine z_iret C hr (by decide) dX5_readAll_51 ?_
            refine ⟨_, rfl, ?_⟩
            exact ⟨by rw [← hE, show 100 - k = 0 by omega, zLp]; exact hps, rfl⟩
          · skip
            refine z_aload_n C dX5_readAll_19 rfl 0 rfl ?_
            refine z_bipush C (v := 38) dX5_readAll_20 (by decide) ?_
            refine z_callVi C hm cl_X5_31 cv_X5_eats 2 (by decide) sh2 ⟨_, _, rfl⟩ [.int 38] rfl (rest := []) rfl (k_X5_eats w _ _ c L q 38 (kl.trans hL) hl kp hqL (by rw [k3 hi7]; exact hBy) hBe (by decide)) ⟨rfl, rfl, by show 4 + 1 ≤ fr + 1; omega, by show 8 + (2 + 11) + 200 ≤ lc + 60; omega⟩ (Nat.le_of_ble_eq_true rfl) dX5_readAll_22 (fun v_2 I_2 J_2 h_2 => ?_)
            obtain ⟨ev_2, ei_2, ej_2⟩ := h_2
            replace ej_2 := ej_2.symm; subst ej_2
            by_cases ce : c q = 38
            · skip
              rw [bI_t ce] at ev_2; rw [cif_t ce] at ei_2; subst ev_2; subst ei_2
              rw [show 100 - k = 100 - k - 1 + 1 by omega, zLp, if_pos ce] at hE
              have hqL2 : q < L := Nat.lt_of_not_le (fun z => by have := hBe q z; omega)
              have hps2 := zPs_tr hps (zPs_eat (q := q) ku)
              rw [List.append_nil] at hps2
              obtain ⟨mp2, ml2, mu2, m32⟩ := zPs_f hps2
              refine z_if_eq (tgt := 50) C dX5_readAll_25 (by decide) (fun c25 => ?_) (fun c25 => ?_)
              · skip
                exact absurd c25 (by decide)
              · skip
                refine z_aload_n C dX5_readAll_28 rfl 0 rfl ?_
                refine z_aload_n C dX5_readAll_29 rfl 1 rfl ?_
                refine z_iload_n C dX5_readAll_30 rfl 2 rfl ?_
                refine z_callVi (rmc := { frames := fr, cells := 0, slots := 0, locals := lc }) C hm cl_X5_86 cv_X5_readOne 2 (by decide) sh2 ⟨_, _, rfl⟩ [.ref (zad w (47 + 5 * i)), .int (nI dp)] rfl (rest := []) rfl (hOne _ _ (u + ts.length) (q + 1) (ml2.trans hL) mp2 hqL2 (by rw [m32 hi7]; exact hBy) mu2 (by omega)) ⟨rfl, rfl, by show fr + 1 ≤ fr + 1; omega, by show 8 + (4 + 11) + lc ≤ lc + 60; omega⟩ (Nat.le_of_ble_eq_true rfl) dX5_readAll_31 (fun v_3 I_3 J_3 h_3 => ?_)
                obtain ⟨hz_3, ej_3⟩ := h_3
                replace ej_3 := ej_3.symm; subst ej_3
                rcases hq_3 : S (q + 1) with ⟨q_3, _ | us_3⟩
                · skip
                  rw [hq_3] at hz_3
                  have hv_3 : v_3 = 0 := hz_3.2.2
                  subst hv_3
                  rw [hq_3] at hE
                  simp only at hE
                  have hf4 := zPs_no hps2 hz_3
                  refine z_if_ne (tgt := 39) C dX5_readAll_34 (by decide) (fun c34 => ?_) (fun c34 => ?_)
                  · skip
                    exact absurd rfl c34
                  · skip
                    refine z_iconst C (v := 0) dX5_readAll_37 (by decide) ?_
                    refine z_iret C hr (by decide) dX5_readAll_38 ?_
                    refine ⟨_, rfl, ?_⟩
                    exact ⟨by rw [← hE]; exact hf4, rfl⟩
                · skip
                  rw [hq_3] at hz_3
                  have hv_3 : v_3 = 1 := hz_3.2.2.1
                  subst hv_3
                  rw [hq_3] at hE
                  simp only at hE
                  have hgd2 := zGd_a hS (show q + 1 ≤ L from hqL2) hq_3
                  have hps3 := zPs_tr hps2 hz_3
                  obtain ⟨mp, ml, mu, m3⟩ := zPs_f hps3
                  have hul : u + (ts ++ us_3).length < 100 := by rw [List.length_append]; omega
                  refine z_if_ne (tgt := 39) C dX5_readAll_34 (by decide) (fun c34 => ?_) (fun c34 => ?_)
                  · skip
                    refine z_aload_n C dX5_readAll_39 rfl 1 rfl ?_
                    refine z_iconst C (v := -1) dX5_readAll_40 (by decide) ?_
                    refine z_callVv C hm cl_X5_82 cv_X1_addSign (47 + 5 * i) (shLn0 hi7) (shL0 hi7) ⟨_, _, rfl⟩ [.int (-1)] rfl (rest := []) rfl (k_X1_addSign w _ _ i (u + (ts ++ us_3).length) (-1) hi7 mu hul) ⟨rfl, rfl, by show 4 + 1 ≤ fr + 1; omega, by show 8 + (2 + 11) + 200 ≤ lc + 60; omega⟩ (Nat.le_of_ble_eq_true rfl) dX5_readAll_41 (fun I_4 J_4 h_4 => ?_)
                    obtain ⟨ei_4, ej_4⟩ := h_4
                    replace ei_4 := ei_4.symm; subst ei_4
                    replace ej_4 := ej_4.symm; subst ej_4
                    refine z_iinc C hm 3 (v := nI (k + 1)) (lv' := [(3, .int (nI (k + 1))), (0, .ref (zad w 2)), (1, .ref (zad w (47 + 5 * i))), (2, .int (nI dp))]) dX5_readAll_44 rfl (nI_add k 1) (by decide) rfl ?_
                    refine z_goto (tgt := 13) C dX5_readAll_47 (by decide) ?_
                    exact z_sub [1, 2, 3, 0] rfl (ih13  (k + 1) q_3 (ts ++ us_3 ++ [.inl 1]) _ _ _ (by omega) (by omega) (zPs_tr hps3 (zPs_add (t := .inl 1) mp)) (by rw [show 100 - (k + 1) = 100 - k - 1 by omega]; exact hE) hgd2.1 (by omega) (by simp only [List.length_append, List.length_cons, List.length_nil]; omega) rfl rfl)
                  · skip
                    exact absurd c34 (by decide)
            · skip
              rw [bI_f ce] at ev_2; rw [cif_f ce] at ei_2; subst ev_2; subst ei_2
              rw [show 100 - k = 100 - k - 1 + 1 by omega, zLp, if_neg ce] at hE
              refine z_if_eq (tgt := 50) C dX5_readAll_25 (by decide) (fun c25 => ?_) (fun c25 => ?_)
              · skip
                refine z_iconst C (v := 1) dX5_readAll_50 (by decide) ?_
                refine z_iret C hr (by decide) dX5_readAll_51 ?_
                refine ⟨_, rfl, ?_⟩
                exact ⟨by rw [← hE]; exact hps, rfl⟩
              · skip
                exact absurd rfl c25
      exact z_sub [1, 2, 3, 0] rfl (L13 _ 0 q_1 us_1 I_1 _ _ (Nat.lt_succ_self _) (by omega) hz_1 (by unfold zTp; rw [hq_1]) hgd.1 hgd.2.1 hgd.2.2.1 rfl rfl)
    · skip
      exact absurd c6 (by decide)
set_option maxRecDepth 100000 in
set_option maxHeartbeats 4000000 in
theorem k_X5_readEither (w : zW) (i dp : Nat) (c : Nat → Nat) (L : Nat) (S : Nat → zR) (fr lc : Nat) (hi7 : i < 7) (hl : L ≤ 100) (hBe : ∀ q, L ≤ q → c q = 300) (hS : zGd L S) (hfr : 4 ≤ fr) (hlc : 200 ≤ lc)
    (hOne : zMe w yX5_readAll cX5_readAll 4 { frames := fr, cells := 0, slots := 0, locals := lc } i dp c L S) : zMe w yX5_readEither cX5_readEither 4 { frames := fr + 1, cells := 0, slots := 0, locals := lc + 60 } i dp c L (zEp0 c S) := by
  intro I J u p hL hp hpl hBy hU hup
  refine zMet_of (by decide) (Nat.le_of_ble_eq_true rfl) (fun X C hm hr => ?_)
  refine z_sub (lv' := [(0, .ref (zad w 2)), (1, .ref (zad w (47 + 5 * i))), (2, .int (nI dp))]) [0, 1, 2] rfl ?_
  refine z_aload_n C dX5_readEither_0 rfl 0 rfl ?_
  refine z_aload_n C dX5_readEither_1 rfl 1 rfl ?_
  refine z_iload_n C dX5_readEither_2 rfl 2 rfl ?_
  refine z_callVi (rmc := { frames := fr, cells := 0, slots := 0, locals := lc }) C hm cl_X5_79 cv_X5_readAll 2 (by decide) sh2 ⟨_, _, rfl⟩ [.ref (zad w (47 + 5 * i)), .int (nI dp)] rfl (rest := []) rfl (hOne _ _ u p hL hp hpl hBy hU hup) ⟨rfl, rfl, by show fr + 1 ≤ fr + 1; omega, by show 8 + (4 + 11) + lc ≤ lc + 60; omega⟩ (Nat.le_of_ble_eq_true rfl) dX5_readEither_3 (fun v_1 I_1 J_1 h_1 => ?_)
  obtain ⟨hz_1, ej_1⟩ := h_1
  replace ej_1 := ej_1.symm; subst ej_1
  rcases hq_1 : S p with ⟨q_1, _ | us_1⟩
  · skip
    rw [hq_1] at hz_1
    have hv_1 : v_1 = 0 := hz_1.2.2
    subst hv_1
    skip
    refine z_if_ne (tgt := 11) C dX5_readEither_6 (by decide) (fun c6 => ?_) (fun c6 => ?_)
    · skip
      exact absurd rfl c6
    · skip
      refine z_iconst C (v := 0) dX5_readEither_9 (by decide) ?_
      refine z_iret C hr (by decide) dX5_readEither_10 ?_
      refine ⟨_, rfl, ?_⟩
      exact ⟨by unfold zEp0; rw [hq_1]; exact hz_1, rfl⟩
  · skip
    rw [hq_1] at hz_1
    have hv_1 : v_1 = 1 := hz_1.2.2.1
    subst hv_1
    have hgd := zGd_a hS hpl hq_1
    refine z_if_ne (tgt := 11) C dX5_readEither_6 (by decide) (fun c6 => ?_) (fun c6 => ?_)
    · skip
      refine z_iconst C (v := 0) dX5_readEither_11 (by decide) ?_
      refine z_istore_n C hm (lv' := [(3, .int 0), (0, .ref (zad w 2)), (1, .ref (zad w (47 + 5 * i))), (2, .int (nI dp))]) dX5_readEither_12 rfl (by decide) rfl ?_
      have L13 : ∀ (d : Nat) (k q : Nat) (ts : List zTok) (K : zI) (v13_3 : Int32) (I13 : zI), (100 - k) < d → (k ≤ 100) → (zPs I K i u (q, some ts) 1) → (zLp c S 124 2 (100 - k) q ts = zEp0 c S p) → (q ≤ L) → (p < q) → (ts.length ≤ q - p) → v13_3 = nI k → I13 = K → Z X w I13 J 13 [(0, .ref (zad w 2)), (1, .ref (zad w (47 + 5 * i))), (2, .int (nI dp)), (3, .int v13_3)] [] := by
        intro d
        induction d with
        | zero => intro k q ts K v13_3 I13 hd; exact absurd hd (Nat.not_lt_zero _)
        | succ d ih13 => 
          intro k q ts K v13_3 I13 hd13 hk hps hE hqL hpq htl e_v13_3 e_I13
          replace e_v13_3 := e_v13_3.symm; subst e_v13_3
          replace e_I13 := e_I13.symm; subst e_I13
          obtain ⟨kp, kl, ku, k3⟩ := zPs_f hps
          refine z_iload_n C dX5_readEither_13 rfl 3 rfl ?_
          refine z_bipush C (v := 100) dX5_readEither_14 (by decide) ?_
          refine z_icmp_ge_n k 100 (tgt := 51) C rfl rfl (by omega) (by omega) dX5_readEither_16 (by decide) (fun c16 => ?_) (fun c16 => ?_)
          · skip
            refine z_iconst C (v := 1) dX5_readEither_51 (by decide) ?_
            refine z_iret C hr (by decide) dX5_readEither_52 ?_
            refine ⟨_, rfl, ?_⟩
            exact ⟨by rw [← hE, show 100 - k = 0 by omega, zLp]; exact hps, rfl⟩
          · skip
            refine z_aload_n C dX5_readEither_19 rfl 0 rfl ?_
            refine z_bipush C (v := 124) dX5_readEither_20 (by decide) ?_
            refine z_callVi C hm cl_X5_31 cv_X5_eats 2 (by decide) sh2 ⟨_, _, rfl⟩ [.int 124] rfl (rest := []) rfl (k_X5_eats w _ _ c L q 124 (kl.trans hL) hl kp hqL (by rw [k3 hi7]; exact hBy) hBe (by decide)) ⟨rfl, rfl, by show 4 + 1 ≤ fr + 1; omega, by show 8 + (2 + 11) + 200 ≤ lc + 60; omega⟩ (Nat.le_of_ble_eq_true rfl) dX5_readEither_22 (fun v_2 I_2 J_2 h_2 => ?_)
            obtain ⟨ev_2, ei_2, ej_2⟩ := h_2
            replace ej_2 := ej_2.symm; subst ej_2
            by_cases ce : c q = 124
            · skip
              rw [bI_t ce] at ev_2; rw [cif_t ce] at ei_2; subst ev_2; subst ei_2
              rw [show 100 - k = 100 - k - 1 + 1 by omega, zLp, if_pos ce] at hE
              have hqL2 : q < L := Nat.lt_of_not_le (fun z => by have := hBe q z; omega)
              have hps2 := zPs_tr hps (zPs_eat (q := q) ku)
              rw [List.append_nil] at hps2
              obtain ⟨mp2, ml2, mu2, m32⟩ := zPs_f hps2
              refine z_if_eq (tgt := 51) C dX5_readEither_25 (by decide) (fun c25 => ?_) (fun c25 => ?_)
              · skip
                exact absurd c25 (by decide)
              · skip
                refine z_aload_n C dX5_readEither_28 rfl 0 rfl ?_
                refine z_aload_n C dX5_readEither_29 rfl 1 rfl ?_
                refine z_iload_n C dX5_readEither_30 rfl 2 rfl ?_
                refine z_callVi (rmc := { frames := fr, cells := 0, slots := 0, locals := lc }) C hm cl_X5_79 cv_X5_readAll 2 (by decide) sh2 ⟨_, _, rfl⟩ [.ref (zad w (47 + 5 * i)), .int (nI dp)] rfl (rest := []) rfl (hOne _ _ (u + ts.length) (q + 1) (ml2.trans hL) mp2 hqL2 (by rw [m32 hi7]; exact hBy) mu2 (by omega)) ⟨rfl, rfl, by show fr + 1 ≤ fr + 1; omega, by show 8 + (4 + 11) + lc ≤ lc + 60; omega⟩ (Nat.le_of_ble_eq_true rfl) dX5_readEither_31 (fun v_3 I_3 J_3 h_3 => ?_)
                obtain ⟨hz_3, ej_3⟩ := h_3
                replace ej_3 := ej_3.symm; subst ej_3
                rcases hq_3 : S (q + 1) with ⟨q_3, _ | us_3⟩
                · skip
                  rw [hq_3] at hz_3
                  have hv_3 : v_3 = 0 := hz_3.2.2
                  subst hv_3
                  rw [hq_3] at hE
                  simp only at hE
                  have hf4 := zPs_no hps2 hz_3
                  refine z_if_ne (tgt := 39) C dX5_readEither_34 (by decide) (fun c34 => ?_) (fun c34 => ?_)
                  · skip
                    exact absurd rfl c34
                  · skip
                    refine z_iconst C (v := 0) dX5_readEither_37 (by decide) ?_
                    refine z_iret C hr (by decide) dX5_readEither_38 ?_
                    refine ⟨_, rfl, ?_⟩
                    exact ⟨by rw [← hE]; exact hf4, rfl⟩
                · skip
                  rw [hq_3] at hz_3
                  have hv_3 : v_3 = 1 := hz_3.2.2.1
                  subst hv_3
                  rw [hq_3] at hE
                  simp only at hE
                  have hgd2 := zGd_a hS (show q + 1 ≤ L from hqL2) hq_3
                  have hps3 := zPs_tr hps2 hz_3
                  obtain ⟨mp, ml, mu, m3⟩ := zPs_f hps3
                  have hul : u + (ts ++ us_3).length < 100 := by rw [List.length_append]; omega
                  refine z_if_ne (tgt := 39) C dX5_readEither_34 (by decide) (fun c34 => ?_) (fun c34 => ?_)
                  · skip
                    refine z_aload_n C dX5_readEither_39 rfl 1 rfl ?_
                    refine z_bipush C (v := -2) dX5_readEither_40 (by decide) ?_
                    refine z_callVv C hm cl_X5_82 cv_X1_addSign (47 + 5 * i) (shLn0 hi7) (shL0 hi7) ⟨_, _, rfl⟩ [.int (-2)] rfl (rest := []) rfl (k_X1_addSign w _ _ i (u + (ts ++ us_3).length) (-2) hi7 mu hul) ⟨rfl, rfl, by show 4 + 1 ≤ fr + 1; omega, by show 8 + (2 + 11) + 200 ≤ lc + 60; omega⟩ (Nat.le_of_ble_eq_true rfl) dX5_readEither_42 (fun I_4 J_4 h_4 => ?_)
                    obtain ⟨ei_4, ej_4⟩ := h_4
                    replace ei_4 := ei_4.symm; subst ei_4
                    replace ej_4 := ej_4.symm; subst ej_4
                    refine z_iinc C hm 3 (v := nI (k + 1)) (lv' := [(3, .int (nI (k + 1))), (0, .ref (zad w 2)), (1, .ref (zad w (47 + 5 * i))), (2, .int (nI dp))]) dX5_readEither_45 rfl (nI_add k 1) (by decide) rfl ?_
                    refine z_goto (tgt := 13) C dX5_readEither_48 (by decide) ?_
                    exact z_sub [1, 2, 3, 0] rfl (ih13  (k + 1) q_3 (ts ++ us_3 ++ [.inl 2]) _ _ _ (by omega) (by omega) (zPs_tr hps3 (zPs_add (t := .inl 2) mp)) (by rw [show 100 - (k + 1) = 100 - k - 1 by omega]; exact hE) hgd2.1 (by omega) (by simp only [List.length_append, List.length_cons, List.length_nil]; omega) rfl rfl)
                  · skip
                    exact absurd c34 (by decide)
            · skip
              rw [bI_f ce] at ev_2; rw [cif_f ce] at ei_2; subst ev_2; subst ei_2
              rw [show 100 - k = 100 - k - 1 + 1 by omega, zLp, if_neg ce] at hE
              refine z_if_eq (tgt := 51) C dX5_readEither_25 (by decide) (fun c25 => ?_) (fun c25 => ?_)
              · skip
                refine z_iconst C (v := 1) dX5_readEither_51 (by decide) ?_
                refine z_iret C hr (by decide) dX5_readEither_52 ?_
                refine ⟨_, rfl, ?_⟩
                exact ⟨by rw [← hE]; exact hps, rfl⟩
              · skip
                exact absurd rfl c25
      exact z_sub [1, 2, 3, 0] rfl (L13 _ 0 q_1 us_1 I_1 _ _ (Nat.lt_succ_self _) (by omega) hz_1 (by unfold zEp0; rw [hq_1]) hgd.1 hgd.2.1 hgd.2.2.1 rfl rfl)
    · skip
      exact absurd c6 (by decide)
