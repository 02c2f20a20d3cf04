/-! the component's public calls, first part -/
theorem shl1 {a : Nat} (ha : a < 31) : ((1 : Int32) <<< (nI a &&& 31)) = nI (2 ^ a) := by
  have h := pk_shlN (n := 1) (nI a &&& 31) a (s_l a (by omega)) (by rw [Nat.one_mul]; exact Nat.pow_lt_pow_right (by decide) (by omega))
  rw [Nat.one_mul] at h; exact h
theorem zpop_le (m : Nat) : zpop m ≤ 9 := by unfold zpop; omega
theorem zpop_lt : ∀ n, n < 9 → ∀ s, s < 2 ^ n → ∀ a, a < n → zb s a = false → zpop s < n := by decide +kernel
theorem zin_5 {x : Int32} (h : ¬ x < 0) (h2 : x ≤ 5) : zin x 6 := zin_le (m := 5) h (Int32.not_lt.mpr h2) (by decide)
theorem zin_5n {x : Int32} (h2 : ¬ x ≤ 5) : ¬ zin x 6 := zin_gt (m := 5) (Int32.not_le.mp h2) (by decide)
theorem nI_le0 {k : Nat} (hk : k < 2 ^ 31) : nI k ≤ 0 ↔ k = 0 := by
  constructor
  · intro h
    rcases Nat.eq_zero_or_pos k with q | q
    · exact q
    · exact absurd h (nI_nle q hk)
  · intro h; subst h; decide
noncomputable def zExp (oft la2 la3 hr lo E : Nat) (hdn fel : Prop) : Int32 := exV (pB (0 < oft)) (pB (la2 ≤ hr)) (pB (E ≤ hr)) (pB (50 ≤ oft)) (pB hdn) (pB (lo < la3 ∧ fel))
/-- the least set among those of a sort -/
def silR (n : Nat) (OK : Nat → Prop) (v : Int32) : Prop := (∃ s, s < 2 ^ n ∧ OK s ∧ v = nI s ∧ ∀ s', s' < 2 ^ n → OK s' → zpop s < zpop s' ∨ (zpop s = zpop s' ∧ s ≤ s')) ∨ ((∀ s, s < 2 ^ n → ¬ OK s) ∧ v = -5)
def zOf (w k b f h l e : Int32) : Int32 := if w = 0 then k else if w = 1 then b else if w = 2 then f else if w = 3 then h else if w = 4 then l else if w = 5 then e else -1
abbrev rm_X7_name : Room := { frames := 5, cells := 0, slots := 0, locals := 220 }
set_option maxRecDepth 100000 in
set_option maxHeartbeats 4000000 in
theorem k_X7_name (w : zW) (I : zI) (J : zJ) (n : Nat) (x : Int32) (hN : I 0 1 = nI n) (hn : n ≤ 8) : zMet yX7_name cX7_name 2 (some .int) rm_X7_name w [.ref (zad w 0), .int x] I J (zpi (fun v I' J' => v = cif (zi1 x 12) (cif (n < 8) (nI n) (-4)) (-2) ∧ I' = cif (zi1 x 12 ∧ n < 8) (zup (zup I 1 (upd (I 1) n x)) 0 (upd (I 0) 1 (nI (n + 1)))) I ∧ J' = J)) := by
  refine zMet_of (by decide) (Nat.le_of_ble_eq_true rfl) (fun X C hm hr => ?_)
  refine z_sub (lv' := [(0, .ref (zad w 0)), (1, .int x)]) [0, 1] rfl ?_
  refine z_iload_n C dX7_name_0 rfl 1 rfl ?_
  refine z_callSi C hm cl_X7_69 cs_X7_isLetters [.int x] rfl (rest := []) rfl (k_X7_isLetters w _ _  x ) ⟨rfl, rfl, Nat.le_of_ble_eq_true rfl, Nat.le_of_ble_eq_true rfl⟩ (Nat.le_of_ble_eq_true rfl) dX7_name_1 (fun v_1 I_1 J_1 h_1 => ?_)
  obtain ⟨ev_1, ei_1, ej_1⟩ := h_1
  replace ev_1 := ev_1.symm; subst ev_1
  replace ei_1 := ei_1.symm; subst ei_1
  replace ej_1 := ej_1.symm; subst ej_1
  refine z_ifne_b (tgt := 10) C dX7_name_4 (by decide) (fun c4 => ?_) (fun c4 => ?_)
  · skip
    refine z_aload_n C dX7_name_10 rfl 0 rfl ?_
    refine z_geti C ff_X7_73 0 (by decide) sh0 rfl (v := nI n) hN dX7_name_11 ?_
    refine z_bipush C (v := 8) dX7_name_14 (by decide) ?_
    refine z_icmp_lt_n n 8 (tgt := 22) C rfl rfl (by omega) (by omega) dX7_name_16 (by decide) (fun c16 => ?_) (fun c16 => ?_)
    · skip
      refine z_aload_n C dX7_name_22 rfl 0 rfl ?_
      refine z_getr C ff_X7_11 0 (by decide) sh0 rfl dX7_name_23 ?_
      refine z_aload_n C dX7_name_26 rfl 0 rfl ?_
      refine z_geti C ff_X7_73 0 (by decide) sh0 rfl (v := nI n) hN dX7_name_27 ?_
      refine z_iload_n C dX7_name_30 rfl 1 rfl ?_
      refine z_iast C 1 (by decide) sh1 n (by omega) (by decide) rfl dX7_name_31 ?_
      refine z_I (I' := zup I 1 (upd (I 1) n x)) rfl ?_
      refine z_aload_n C dX7_name_32 rfl 0 rfl ?_
      refine z_dup C dX7_name_33 rfl ?_
      refine z_geti C ff_X7_73 0 (by decide) sh0 rfl (v := nI n) (by first | exact hN | (simp [zup, zupJ, upd, vp_updL]; exact hN)) dX7_name_34 ?_
      refine z_iconst C (v := 1) dX7_name_37 (by decide) ?_
      refine z_iadd C dX7_name_38 ?_
      refine z_ti (y := nI (n + 1)) (nI_add n 1) ?_
      refine z_puti C ff_X7_73 0 (by decide) sh0 rfl rfl rfl dX7_name_39 ?_
      refine z_I (I' := zup (zup I 1 (upd (I 1) n x)) 0 (upd (I 0) 1 (nI (n + 1)))) (by first | rfl | (rw [zup_n] <;> omega)) ?_
      refine z_aload_n C dX7_name_42 rfl 0 rfl ?_
      refine z_geti C ff_X7_73 0 (by decide) sh0 rfl (v := nI (n + 1)) (by first | rfl | (simp [zup, zupJ, upd, vp_updL]; done)) dX7_name_43 ?_
      refine z_iconst C (v := 1) dX7_name_46 (by decide) ?_
      refine z_isub C dX7_name_47 ?_
      refine z_ti (y := nI n) (nI_pred n) ?_
      refine z_iret C hr rfl dX7_name_48 ?_
      refine ⟨_, rfl, ?_⟩
      exact ⟨by rw [cif_t c4, cif_t c16], by rw [cif_t ⟨c4, c16⟩], rfl⟩
    · skip
      refine z_bipush C (v := -4) dX7_name_19 (by decide) ?_
      refine z_iret C hr rfl dX7_name_21 ?_
      refine ⟨_, rfl, ?_⟩
      exact ⟨by rw [cif_t c4, cif_f (by omega)], by rw [cif_f (fun q => by omega)], rfl⟩
  · skip
    refine z_bipush C (v := -2) dX7_name_7 (by decide) ?_
    refine z_iret C hr rfl dX7_name_9 ?_
    refine ⟨_, rfl, ?_⟩
    exact ⟨by rw [cif_f c4], by rw [cif_f (fun q => c4 q.1)], rfl⟩
abbrev rm_X7_join : Room := { frames := 5, cells := 0, slots := 0, locals := 224 }
set_option maxRecDepth 100000 in
set_option maxHeartbeats 4000000 in
theorem k_X7_join (w : zW) (I : zI) (J : zJ) (n : Nat) (x : Int32) (y : Int32) (s : Int32) (hN : I 0 1 = nI n) (hn : n ≤ 8) : zMet yX7_join cX7_join 4 (some .int) rm_X7_join w [.ref (zad w 0), .int x, .int y, .int s] I J (zpi (fun v I' J' => v = cif (zin x n ∧ zin y n) (cif (x ≠ y ∧ zin s 6) (I 6 (zn x * 8 + zn y)) (-2)) (-1) ∧ I' = cif (zin x n ∧ zin y n ∧ x ≠ y ∧ zin s 6) (zup I 6 (upd (upd (I 6) (zn x * 8 + zn y) s) (zn y * 8 + zn x) s)) I ∧ J' = J)) := by
  refine zMet_of (by decide) (Nat.le_of_ble_eq_true rfl) (fun X C hm hr => ?_)
  refine z_sub (lv' := [(0, .ref (zad w 0)), (1, .int x), (2, .int y), (3, .int s)]) [0, 1, 2, 3] rfl ?_
  refine z_aload_n C dX7_join_0 rfl 0 rfl ?_
  refine z_iload_n C dX7_join_1 rfl 1 rfl ?_
  refine z_callVi C hm cl_X7_77 cv_X7_isName 0 (by decide) sh0 ⟨_, _, rfl⟩ [.int x] rfl (rest := []) rfl (k_X7_isName w _ _ n x hN hn) ⟨rfl, rfl, Nat.le_of_ble_eq_true rfl, Nat.le_of_ble_eq_true rfl⟩ (Nat.le_of_ble_eq_true rfl) dX7_join_2 (fun v_1 I_1 J_1 h_1 => ?_)
  obtain ⟨ev_1, ei_1, ej_1⟩ := h_1
  replace ev_1 := ev_1.symm; subst ev_1
  replace ei_1 := ei_1.symm; subst ei_1
  replace ej_1 := ej_1.symm; subst ej_1
  refine z_ifeq_b (tgt := 16) C dX7_join_5 (by decide) (fun c5 => ?_) (fun c5 => ?_)
  · skip
    refine z_iconst C (v := -1) dX7_join_16 (by decide) ?_
    refine z_iret C hr rfl dX7_join_17 ?_
    refine ⟨_, rfl, ?_⟩
    exact ⟨by rw [cif_f (fun q => c5 q.1)], by rw [cif_f (fun q => c5 q.1)], rfl⟩
  · skip
    obtain ⟨a, ha, rfl⟩ := c5
    refine z_aload_n C dX7_join_8 rfl 0 rfl ?_
    refine z_iload_n C dX7_join_9 rfl 2 rfl ?_
    refine z_callVi C hm cl_X7_77 cv_X7_isName 0 (by decide) sh0 ⟨_, _, rfl⟩ [.int y] rfl (rest := []) rfl (k_X7_isName w _ _ n y hN hn) ⟨rfl, rfl, Nat.le_of_ble_eq_true rfl, Nat.le_of_ble_eq_true rfl⟩ (Nat.le_of_ble_eq_true rfl) dX7_join_10 (fun v_2 I_2 J_2 h_2 => ?_)
    obtain ⟨ev_2, ei_2, ej_2⟩ := h_2
    replace ev_2 := ev_2.symm; subst ev_2
    replace ei_2 := ei_2.symm; subst ei_2
    replace ej_2 := ej_2.symm; subst ej_2
    refine z_ifne_b (tgt := 18) C dX7_join_13 (by decide) (fun c13 => ?_) (fun c13 => ?_)
    · skip
      obtain ⟨b, hb, rfl⟩ := c13
      refine z_iload_n C dX7_join_18 rfl 1 rfl ?_
      refine z_iload_n C dX7_join_19 rfl 2 rfl ?_
      refine z_icmp_eq_n a b (tgt := 32) C rfl rfl (by omega) (by omega) dX7_join_20 (by decide) (fun c20 => ?_) (fun c20 => ?_)
      · skip
        refine z_bipush C (v := -2) dX7_join_32 (by decide) ?_
        refine z_iret C hr rfl dX7_join_34 ?_
        refine ⟨_, rfl, ?_⟩
        exact ⟨by rw [cif_t ⟨⟨a, ha, rfl⟩, ⟨b, hb, rfl⟩⟩, cif_f (fun q => q.1 (by rw [c20]))], by rw [cif_f (fun q => q.2.2.1 (by rw [c20]))], rfl⟩
      · skip
        refine z_iload_n C dX7_join_23 rfl 3 rfl ?_
        refine z_if_lt (tgt := 32) C dX7_join_24 (by decide) (fun c24 => ?_) (fun c24 => ?_)
        · skip
          refine z_bipush C (v := -2) dX7_join_32 (by decide) ?_
          refine z_iret C hr rfl dX7_join_34 ?_
          refine ⟨_, rfl, ?_⟩
          exact ⟨by rw [cif_t ⟨⟨a, ha, rfl⟩, ⟨b, hb, rfl⟩⟩, cif_f (fun q => zin_neg c24 (by decide) q.2)], by rw [cif_f (fun q => zin_neg c24 (by decide) q.2.2.2)], rfl⟩
        · skip
          refine z_iload_n C dX7_join_27 rfl 3 rfl ?_
          refine z_iconst C (v := 5) dX7_join_28 (by decide) ?_
          refine z_icmp_le (tgt := 35) C dX7_join_29 (by decide) (fun c29 => ?_) (fun c29 => ?_)
          · skip
            refine z_aload_n C dX7_join_35 rfl 0 rfl ?_
            refine z_getr C ff_X7_62 0 (by decide) sh0 rfl dX7_join_36 ?_
            refine z_iload_n C dX7_join_39 rfl 1 rfl ?_
            refine z_iload_n C dX7_join_40 rfl 2 rfl ?_
            refine z_iload_n C dX7_join_41 rfl 3 rfl ?_
            refine z_callVi C hm cl_X7_80 cv_X6_joinBoth 5 (by decide) sh5 ⟨_, _, rfl⟩ [.int (nI a), .int (nI b), .int s] rfl (rest := []) rfl (k_X6_joinBoth w _ _  a b s (by omega) (by omega)) ⟨rfl, rfl, Nat.le_of_ble_eq_true rfl, Nat.le_of_ble_eq_true rfl⟩ (Nat.le_of_ble_eq_true rfl) dX7_join_42 (fun v_3 I_3 J_3 h_3 => ?_)
            obtain ⟨ev_3, ei_3, ej_3⟩ := h_3
            replace ev_3 := ev_3.symm; subst ev_3
            replace ei_3 := ei_3.symm; subst ei_3
            replace ej_3 := ej_3.symm; subst ej_3
            refine z_iret C hr rfl dX7_join_45 ?_
            refine ⟨_, rfl, ?_⟩
            exact ⟨by rw [cif_t ⟨⟨a, ha, rfl⟩, ⟨b, hb, rfl⟩⟩, cif_t ⟨(fun q => c20 ((nI_eq (by omega) (by omega)).mp q)), zin_5 c24 c29⟩, zn_n (by omega), zn_n (by omega)], by rw [cif_t ⟨⟨a, ha, rfl⟩, ⟨b, hb, rfl⟩, (fun q => c20 ((nI_eq (by omega) (by omega)).mp q)), zin_5 c24 c29⟩, zn_n (by omega), zn_n (by omega)], rfl⟩
          · skip
            refine z_bipush C (v := -2) dX7_join_32 (by decide) ?_
            refine z_iret C hr rfl dX7_join_34 ?_
            refine ⟨_, rfl, ?_⟩
            exact ⟨by rw [cif_t ⟨⟨a, ha, rfl⟩, ⟨b, hb, rfl⟩⟩, cif_f (fun q => zin_5n c29 q.2)], by rw [cif_f (fun q => zin_5n c29 q.2.2.2)], rfl⟩
    · skip
      refine z_iconst C (v := -1) dX7_join_16 (by decide) ?_
      refine z_iret C hr rfl dX7_join_17 ?_
      refine ⟨_, rfl, ?_⟩
      exact ⟨by rw [cif_f (fun q => c13 q.2)], by rw [cif_f (fun q => c13 q.2.1)], rfl⟩
abbrev rm_X7_news : Room := { frames := 5, cells := 0, slots := 0, locals := 221 }
set_option maxRecDepth 100000 in
set_option maxHeartbeats 4000000 in
theorem k_X7_news (w : zW) (I : zI) (J : zJ) (n : Nat) (x : Int32) (y : Int32) (hN : I 0 1 = nI n) (hn : n ≤ 8) : zMet yX7_news cX7_news 4 (some .int) rm_X7_news w [.ref (zad w 0), .int x, .int y] I J (zpi (fun v I' J' => v = cif (zin x n) (cif (y = -1 ∨ zin y 100) (I 7 (zn x)) (-2)) (-1) ∧ I' = cif (zin x n ∧ (y = -1 ∨ zin y 100)) (zup I 7 (upd (I 7) (zn x) (cif (y = -1) (-5) y))) I ∧ J' = J)) := by
  refine zMet_of (by decide) (Nat.le_of_ble_eq_true rfl) (fun X C hm hr => ?_)
  refine z_sub (lv' := [(0, .ref (zad w 0)), (1, .int x), (2, .int y)]) [0, 1, 2] rfl ?_
  refine z_aload_n C dX7_news_0 rfl 0 rfl ?_
  refine z_iload_n C dX7_news_1 rfl 1 rfl ?_
  refine z_callVi C hm cl_X7_77 cv_X7_isName 0 (by decide) sh0 ⟨_, _, rfl⟩ [.int x] rfl (rest := []) rfl (k_X7_isName w _ _ n x hN hn) ⟨rfl, rfl, Nat.le_of_ble_eq_true rfl, Nat.le_of_ble_eq_true rfl⟩ (Nat.le_of_ble_eq_true rfl) dX7_news_2 (fun v_1 I_1 J_1 h_1 => ?_)
  obtain ⟨ev_1, ei_1, ej_1⟩ := h_1
  replace ev_1 := ev_1.symm; subst ev_1
  replace ei_1 := ei_1.symm; subst ei_1
  replace ej_1 := ej_1.symm; subst ej_1
  refine z_ifne_b (tgt := 10) C dX7_news_5 (by decide) (fun c5 => ?_) (fun c5 => ?_)
  · skip
    obtain ⟨a, ha, rfl⟩ := c5
    refine z_iload_n C dX7_news_10 rfl 2 rfl ?_
    refine z_iconst C (v := -1) dX7_news_11 (by decide) ?_
    refine z_icmp_eq (tgt := 25) C dX7_news_12 (by decide) (fun c12 => ?_) (fun c12 => ?_)
    · skip
      refine z_aload_n C dX7_news_25 rfl 0 rfl ?_
      refine z_getr C ff_X7_62 0 (by decide) sh0 rfl dX7_news_26 ?_
      refine z_getr C ff_X7_87 5 (by decide) sh5 rfl dX7_news_29 ?_
      refine z_iload_n C dX7_news_32 rfl 1 rfl ?_
      refine z_iald C 7 (by decide) sh7 a (by omega) (by decide) rfl (v := I 7 a) rfl dX7_news_33 ?_
      refine z_istore_n C hm (lv' := [(3, .int (I 7 a)), (0, .ref (zad w 0)), (1, .int (nI a)), (2, .int y)]) dX7_news_34 rfl (by decide) rfl ?_
      refine z_aload_n C dX7_news_35 rfl 1 rfl ?_
      refine z_getr C ff_X7_62 0 (by decide) sh0 rfl dX7_news_36 ?_
      refine z_getr C ff_X7_87 5 (by decide) sh5 rfl dX7_news_39 ?_
      refine z_iload_n C dX7_news_42 rfl 2 rfl ?_
      refine z_iload_n C dX7_news_43 rfl 3 rfl ?_
      refine z_iconst C (v := -1) dX7_news_44 (by decide) ?_
      refine z_icmp_ne (tgt := 53) C dX7_news_45 (by decide) (fun c45 => ?_) (fun c45 => ?_)
      · skip
        exact absurd c12 c45
      · skip
        refine z_bipush C (v := -5) dX7_news_48 (by decide) ?_
        refine z_goto (tgt := 54) C dX7_news_50 (by decide) ?_
        refine z_iast C 7 (by decide) sh7 a (by omega) (by decide) rfl dX7_news_54 ?_
        refine z_I (I' := zup I 7 (upd (I 7) a (-5))) rfl ?_
        refine z_iload_n C dX7_news_55 rfl 0 rfl ?_
        refine z_iret C hr rfl dX7_news_56 ?_
        refine ⟨_, rfl, ?_⟩
        exact ⟨by rw [cif_t ⟨a, ha, rfl⟩, cif_t (Or.inl c12), zn_n (by omega)], by rw [cif_t ⟨⟨a, ha, rfl⟩, (Or.inl c12)⟩, cif_t c45, zn_n (by omega)], rfl⟩
    · skip
      refine z_iload_n C dX7_news_15 rfl 2 rfl ?_
      refine z_callSi C hm cl_X7_84 cs_X7_isHour [.int y] rfl (rest := []) rfl (k_X7_isHour w _ _  y ) ⟨rfl, rfl, Nat.le_of_ble_eq_true rfl, Nat.le_of_ble_eq_true rfl⟩ (Nat.le_of_ble_eq_true rfl) dX7_news_16 (fun v_2 I_2 J_2 h_2 => ?_)
      obtain ⟨ev_2, ei_2, ej_2⟩ := h_2
      replace ev_2 := ev_2.symm; subst ev_2
      replace ei_2 := ei_2.symm; subst ei_2
      replace ej_2 := ej_2.symm; subst ej_2
      refine z_ifne_b (tgt := 25) C dX7_news_19 (by decide) (fun c19 => ?_) (fun c19 => ?_)
      · skip
        refine z_aload_n C dX7_news_25 rfl 0 rfl ?_
        refine z_getr C ff_X7_62 0 (by decide) sh0 rfl dX7_news_26 ?_
        refine z_getr C ff_X7_87 5 (by decide) sh5 rfl dX7_news_29 ?_
        refine z_iload_n C dX7_news_32 rfl 1 rfl ?_
        refine z_iald C 7 (by decide) sh7 a (by omega) (by decide) rfl (v := I 7 a) rfl dX7_news_33 ?_
        refine z_istore_n C hm (lv' := [(3, .int (I 7 a)), (0, .ref (zad w 0)), (1, .int (nI a)), (2, .int y)]) dX7_news_34 rfl (by decide) rfl ?_
        refine z_aload_n C dX7_news_35 rfl 1 rfl ?_
        refine z_getr C ff_X7_62 0 (by decide) sh0 rfl dX7_news_36 ?_
        refine z_getr C ff_X7_87 5 (by decide) sh5 rfl dX7_news_39 ?_
        refine z_iload_n C dX7_news_42 rfl 2 rfl ?_
        refine z_iload_n C dX7_news_43 rfl 3 rfl ?_
        refine z_iconst C (v := -1) dX7_news_44 (by decide) ?_
        refine z_icmp_ne (tgt := 53) C dX7_news_45 (by decide) (fun c45 => ?_) (fun c45 => ?_)
        · skip
          refine z_iload_n C dX7_news_53 rfl 3 rfl ?_
          refine z_iast C 7 (by decide) sh7 a (by omega) (by decide) rfl dX7_news_54 ?_
          refine z_I (I' := zup I 7 (upd (I 7) a y)) rfl ?_
          refine z_iload_n C dX7_news_55 rfl 0 rfl ?_
          refine z_iret C hr rfl dX7_news_56 ?_
          refine ⟨_, rfl, ?_⟩
          exact ⟨by rw [cif_t ⟨a, ha, rfl⟩, cif_t (Or.inr c19), zn_n (by omega)], by rw [cif_t ⟨⟨a, ha, rfl⟩, (Or.inr c19)⟩, cif_f c45, zn_n (by omega)], rfl⟩
        · skip
          exact absurd c45 c12
      · skip
        refine z_bipush C (v := -2) dX7_news_22 (by decide) ?_
        refine z_iret C hr rfl dX7_news_24 ?_
        refine ⟨_, rfl, ?_⟩
        exact ⟨by rw [cif_t ⟨a, ha, rfl⟩, cif_f (fun q => q.elim c12 c19)], by rw [cif_f (fun q => q.2.elim c12 c19)], rfl⟩
  · skip
    refine z_iconst C (v := -1) dX7_news_8 (by decide) ?_
    refine z_iret C hr rfl dX7_news_9 ?_
    refine ⟨_, rfl, ?_⟩
    exact ⟨by rw [cif_f c5], by rw [cif_f (fun q => c5 q.1)], rfl⟩
abbrev rm_X7_goes : Room := { frames := 8, cells := 0, slots := 0, locals := 303 }
set_option maxRecDepth 100000 in
set_option maxHeartbeats 4000000 in
theorem k_X7_goes (w : zW) (I : zI) (J : zJ) (n : Nat) (h : Nat) (A : List zCla) (x : Int32) (y : Int32) (hN : I 0 1 = nI n) (hn : n ≤ 8) (hh : h < 7) (hH : I 5 2 = nI h) (hL : cLaw I h A) : zMet yX7_goes cX7_goes 3 (some .int) rm_X7_goes w [.ref (zad w 0), .int x, .int y] I J (zpi (fun v I' J' => v = cif (zin x n ∧ zin y n) (cif (x ≠ y) (oI (aGo (I 6) A (zn x) (zn y))) (-2)) (-1) ∧ I' = I ∧ J' = J)) := by
  refine zMet_of (by decide) (Nat.le_of_ble_eq_true rfl) (fun X C hm hr => ?_)
  refine z_sub (lv' := [(0, .ref (zad w 0)), (1, .int x), (2, .int y)]) [0, 1, 2] rfl ?_
  refine z_aload_n C dX7_goes_0 rfl 0 rfl ?_
  refine z_iload_n C dX7_goes_1 rfl 1 rfl ?_
  refine z_callVi C hm cl_X7_77 cv_X7_isName 0 (by decide) sh0 ⟨_, _, rfl⟩ [.int x] rfl (rest := []) rfl (k_X7_isName w _ _ n x hN hn) ⟨rfl, rfl, Nat.le_of_ble_eq_true rfl, Nat.le_of_ble_eq_true rfl⟩ (Nat.le_of_ble_eq_true rfl) dX7_goes_2 (fun v_1 I_1 J_1 h_1 => ?_)
  obtain ⟨ev_1, ei_1, ej_1⟩ := h_1
  replace ev_1 := ev_1.symm; subst ev_1
  replace ei_1 := ei_1.symm; subst ei_1
  replace ej_1 := ej_1.symm; subst ej_1
  refine z_ifeq_b (tgt := 16) C dX7_goes_5 (by decide) (fun c5 => ?_) (fun c5 => ?_)
  · skip
    refine z_iconst C (v := -1) dX7_goes_16 (by decide) ?_
    refine z_iret C hr rfl dX7_goes_17 ?_
    refine ⟨_, rfl, ?_⟩
    exact ⟨by rw [cif_f (fun q => c5 q.1)], rfl, rfl⟩
  · skip
    obtain ⟨a, ha, rfl⟩ := c5
    refine z_aload_n C dX7_goes_8 rfl 0 rfl ?_
    refine z_iload_n C dX7_goes_9 rfl 2 rfl ?_
    refine z_callVi C hm cl_X7_77 cv_X7_isName 0 (by decide) sh0 ⟨_, _, rfl⟩ [.int y] rfl (rest := []) rfl (k_X7_isName w _ _ n y hN hn) ⟨rfl, rfl, Nat.le_of_ble_eq_true rfl, Nat.le_of_ble_eq_true rfl⟩ (Nat.le_of_ble_eq_true rfl) dX7_goes_10 (fun v_2 I_2 J_2 h_2 => ?_)
    obtain ⟨ev_2, ei_2, ej_2⟩ := h_2
    replace ev_2 := ev_2.symm; subst ev_2
    replace ei_2 := ei_2.symm; subst ei_2
    replace ej_2 := ej_2.symm; subst ej_2
    refine z_ifne_b (tgt := 18) C dX7_goes_13 (by decide) (fun c13 => ?_) (fun c13 => ?_)
    · skip
      obtain ⟨b, hb, rfl⟩ := c13
      refine z_iload_n C dX7_goes_18 rfl 1 rfl ?_
      refine z_iload_n C dX7_goes_19 rfl 2 rfl ?_
      refine z_icmp_ne_n a b (tgt := 26) C rfl rfl (by omega) (by omega) dX7_goes_20 (by decide) (fun c20 => ?_) (fun c20 => ?_)
      · skip
        refine z_aload_n C dX7_goes_26 rfl 0 rfl ?_
        refine z_getr C ff_X7_62 0 (by decide) sh0 rfl dX7_goes_27 ?_
        refine z_iload_n C dX7_goes_30 rfl 1 rfl ?_
        refine z_iload_n C dX7_goes_31 rfl 2 rfl ?_
        refine z_callVi C hm cl_X7_108 cv_X6_hoursBetween 5 (by decide) sh5 ⟨_, _, rfl⟩ [.int (nI a), .int (nI b)] rfl (rest := []) rfl (k_X6_hoursBetween w _ _ h A a b (by omega) (by omega) hh hH hL) ⟨rfl, rfl, Nat.le_of_ble_eq_true rfl, Nat.le_of_ble_eq_true rfl⟩ (Nat.le_of_ble_eq_true rfl) dX7_goes_32 (fun v_3 I_3 J_3 h_3 => ?_)
        obtain ⟨ev_3, ei_3, ej_3⟩ := h_3
        replace ev_3 := ev_3.symm; subst ev_3
        replace ei_3 := ei_3.symm; subst ei_3
        replace ej_3 := ej_3.symm; subst ej_3
        refine z_iret C hr rfl dX7_goes_35 ?_
        refine ⟨_, rfl, ?_⟩
        exact ⟨by rw [cif_t ⟨⟨a, ha, rfl⟩, ⟨b, hb, rfl⟩⟩, cif_t (fun q => c20 ((nI_eq (by omega) (by omega)).mp q)), zn_n (by omega), zn_n (by omega)], rfl, rfl⟩
      · skip
        refine z_bipush C (v := -2) dX7_goes_23 (by decide) ?_
        refine z_iret C hr rfl dX7_goes_25 ?_
        refine ⟨_, rfl, ?_⟩
        exact ⟨by rw [cif_t ⟨⟨a, ha, rfl⟩, ⟨b, hb, rfl⟩⟩, cif_f (fun q => q (by rw [c20]))], rfl, rfl⟩
    · skip
      refine z_iconst C (v := -1) dX7_goes_16 (by decide) ?_
      refine z_iret C hr rfl dX7_goes_17 ?_
      refine ⟨_, rfl, ?_⟩
      exact ⟨by rw [cif_f (fun q => c13 q.2)], rfl, rfl⟩
abbrev rm_X7_habit : Room := { frames := 8, cells := 0, slots := 0, locals := 303 }
set_option maxRecDepth 100000 in
set_option maxHeartbeats 4000000 in
theorem k_X7_habit (w : zW) (I : zI) (J : zJ) (n : Nat) (h : Nat) (A : List zCla) (x : Int32) (f : Int32) (hN : I 0 1 = nI n) (hn : n ≤ 8) (hh : h < 7) (hH : I 5 2 = nI h) (hL : cLaw I h A) : zMet yX7_habit cX7_habit 3 (some .int) rm_X7_habit w [.ref (zad w 0), .int x, .int f] I J (zpi (fun v I' J' => v = cif (zin x n ∧ zin f 9) (nI (aHab x (I 1 (zn x)) f A)) (-1) ∧ I' = I ∧ J' = J)) := by
  refine zMet_of (by decide) (Nat.le_of_ble_eq_true rfl) (fun X C hm hr => ?_)
  refine z_sub (lv' := [(0, .ref (zad w 0)), (1, .int x), (2, .int f)]) [0, 1, 2] rfl ?_
  refine z_aload_n C dX7_habit_0 rfl 0 rfl ?_
  refine z_iload_n C dX7_habit_1 rfl 1 rfl ?_
  refine z_callVi C hm cl_X7_77 cv_X7_isName 0 (by decide) sh0 ⟨_, _, rfl⟩ [.int x] rfl (rest := []) rfl (k_X7_isName w _ _ n x hN hn) ⟨rfl, rfl, Nat.le_of_ble_eq_true rfl, Nat.le_of_ble_eq_true rfl⟩ (Nat.le_of_ble_eq_true rfl) dX7_habit_2 (fun v_1 I_1 J_1 h_1 => ?_)
  obtain ⟨ev_1, ei_1, ej_1⟩ := h_1
  replace ev_1 := ev_1.symm; subst ev_1
  replace ei_1 := ei_1.symm; subst ei_1
  replace ej_1 := ej_1.symm; subst ej_1
  refine z_ifeq_b (tgt := 15) C dX7_habit_5 (by decide) (fun c5 => ?_) (fun c5 => ?_)
  · skip
    refine z_iconst C (v := -1) dX7_habit_15 (by decide) ?_
    refine z_iret C hr rfl dX7_habit_16 ?_
    refine ⟨_, rfl, ?_⟩
    exact ⟨by rw [cif_f (fun q => c5 q.1)], rfl, rfl⟩
  · skip
    obtain ⟨a, ha, rfl⟩ := c5
    refine z_iload_n C dX7_habit_8 rfl 2 rfl ?_
    refine z_callSi C hm cl_X7_112 cs_X7_isFriday [.int f] rfl (rest := []) rfl (k_X7_isFriday w _ _  f ) ⟨rfl, rfl, Nat.le_of_ble_eq_true rfl, Nat.le_of_ble_eq_true rfl⟩ (Nat.le_of_ble_eq_true rfl) dX7_habit_9 (fun v_2 I_2 J_2 h_2 => ?_)
    obtain ⟨ev_2, ei_2, ej_2⟩ := h_2
    replace ev_2 := ev_2.symm; subst ev_2
    replace ei_2 := ei_2.symm; subst ei_2
    replace ej_2 := ej_2.symm; subst ej_2
    refine z_ifne_b (tgt := 17) C dX7_habit_12 (by decide) (fun c12 => ?_) (fun c12 => ?_)
    · skip
      refine z_aload_n C dX7_habit_17 rfl 0 rfl ?_
      refine z_iload_n C dX7_habit_18 rfl 1 rfl ?_
      refine z_iload_n C dX7_habit_19 rfl 2 rfl ?_
      refine z_callVi C hm cl_X7_115 cv_X7_habitOf 0 (by decide) sh0 ⟨_, _, rfl⟩ [.int (nI a), .int f] rfl (rest := []) rfl (k_X7_habitOf w _ _ h A a f (by omega) hh hH hL) ⟨rfl, rfl, Nat.le_of_ble_eq_true rfl, Nat.le_of_ble_eq_true rfl⟩ (Nat.le_of_ble_eq_true rfl) dX7_habit_20 (fun v_3 I_3 J_3 h_3 => ?_)
      obtain ⟨ev_3, ei_3, ej_3⟩ := h_3
      replace ev_3 := ev_3.symm; subst ev_3
      replace ei_3 := ei_3.symm; subst ei_3
      replace ej_3 := ej_3.symm; subst ej_3
      refine z_iret C hr rfl dX7_habit_23 ?_
      refine ⟨_, rfl, ?_⟩
      exact ⟨by rw [cif_t ⟨⟨a, ha, rfl⟩, c12⟩, zn_n (by omega)], rfl, rfl⟩
    · skip
      refine z_iconst C (v := -1) dX7_habit_15 (by decide) ?_
      refine z_iret C hr rfl dX7_habit_16 ?_
      refine ⟨_, rfl, ?_⟩
      exact ⟨by rw [cif_f (fun q => c12 q.2)], rfl, rfl⟩
abbrev rm_X7_knows : Room := { frames := 10, cells := 0, slots := 0, locals := 348 }
set_option maxRecDepth 100000 in
set_option maxHeartbeats 4000000 in
theorem k_X7_knows (w : zW) (I : zI) (J : zJ) (n : Nat) (h : Nat) (A : List zCla) (hd : Nat → Option Nat) (x : Int32) (hN : I 0 1 = nI n) (hn : n ≤ 8) (hh : h < 7) (hH : I 5 2 = nI h) (hL : cLaw I h A) (hd7 : ∀ a, a < n → I 7 a = oI (hd a)) (hd99 : ∀ a k, hd a = some k → k ≤ 99) : zMet yX7_knows cX7_knows 2 (some .int) rm_X7_knows w [.ref (zad w 0), .int x] I J (zpi (fun v I' J' => v = cif (zin x n) (aKn (ern 0 n (I 6) A hd (zn x))) (-1) ∧ J' = J ∧ frS I' I)) := by
  refine zMet_of (by decide) (Nat.le_of_ble_eq_true rfl) (fun X C hm hr => ?_)
  refine z_sub (lv' := [(0, .ref (zad w 0)), (1, .int x)]) [0, 1] rfl ?_
  refine z_aload_n C dX7_knows_0 rfl 0 rfl ?_
  refine z_iload_n C dX7_knows_1 rfl 1 rfl ?_
  refine z_callVi C hm cl_X7_77 cv_X7_isName 0 (by decide) sh0 ⟨_, _, rfl⟩ [.int x] rfl (rest := []) rfl (k_X7_isName w _ _ n x hN hn) ⟨rfl, rfl, Nat.le_of_ble_eq_true rfl, Nat.le_of_ble_eq_true rfl⟩ (Nat.le_of_ble_eq_true rfl) dX7_knows_2 (fun v_1 I_1 J_1 h_1 => ?_)
  obtain ⟨ev_1, ei_1, ej_1⟩ := h_1
  replace ev_1 := ev_1.symm; subst ev_1
  replace ei_1 := ei_1.symm; subst ei_1
  replace ej_1 := ej_1.symm; subst ej_1
  refine z_ifne_b (tgt := 10) C dX7_knows_5 (by decide) (fun c5 => ?_) (fun c5 => ?_)
  · skip
    obtain ⟨a, ha, rfl⟩ := c5
    refine z_aload_n C dX7_knows_10 rfl 0 rfl ?_
    refine z_callVv C hm cl_X7_118 cv_X7_spreadAll 0 (by decide) sh0 ⟨_, _, rfl⟩ [] rfl (rest := []) rfl (k_X7_spreadAll w _ _ n h A hd  (by exact hN) hn hh (by exact hH) hL hd7 hd99) ⟨rfl, rfl, Nat.le_of_ble_eq_true rfl, Nat.le_of_ble_eq_true rfl⟩ (Nat.le_of_ble_eq_true rfl) dX7_knows_11 (fun I_2 J_2 h_2 => ?_)
    obtain ⟨eJ_2, H_2, Gr_2, R_2, Q_2, eI_2, hH_2, hG_2, hR_2⟩ := h_2
    replace eJ_2 := eJ_2.symm; subst eJ_2
    subst eI_2
    refine z_aload_n C dX7_knows_14 rfl 0 rfl ?_
    refine z_getr C ff_X7_31 0 (by decide) sh0 rfl dX7_knows_15 ?_
    refine z_iload_n C dX7_knows_18 rfl 1 rfl ?_
    refine z_callVi C hm cl_X7_121 cv_X3_hourOf 23 (by decide) sh23 ⟨_, _, rfl⟩ [.int (nI a)] rfl (rest := []) rfl (k_X3_hourOf w _ _ (ern 0 n (I 6) A hd a) a (by omega) (hR_2 a ha) (ern_le hd99 a)) ⟨rfl, rfl, Nat.le_of_ble_eq_true rfl, Nat.le_of_ble_eq_true rfl⟩ (Nat.le_of_ble_eq_true rfl) dX7_knows_19 (fun v_3 I_3 J_3 h_3 => ?_)
    obtain ⟨ev_3, ei_3, ej_3⟩ := h_3
    replace ev_3 := ev_3.symm; subst ev_3
    replace ei_3 := ei_3.symm; subst ei_3
    replace ej_3 := ej_3.symm; subst ej_3
    refine z_iret C hr rfl dX7_knows_22 ?_
    refine ⟨_, rfl, ?_⟩
    exact ⟨by
      show aKn (ern 0 n (I 6) A hd a) = _
      rw [cif_t ⟨a, ha, rfl⟩, zn_n (by omega)], rfl, (by intro zk hzk; simp only [zup]; rw [if_neg (by omega), if_neg (by omega), if_neg (by omega), if_neg (by omega), if_neg (by omega)])⟩
  · skip
    refine z_iconst C (v := -1) dX7_knows_8 (by decide) ?_
    refine z_iret C hr rfl dX7_knows_9 ?_
    refine ⟨_, rfl, ?_⟩
    exact ⟨by rw [cif_f c5], rfl, frS_id⟩
theorem wayR_len {n st : Nat} {G : Nat → Nat → Nat} {T : Nat → Nat} {go len : Nat} {row : Nat → Nat} (hs : st ≤ 9) (h : wayR n st G T go len row) : len ≤ 10 := by
  rcases h with ⟨_, h⟩ | ⟨_, ⟨u, c, h1, _, _, _, _, h2, _⟩ | ⟨_, h⟩⟩
  · omega
  · omega
  · omega
abbrev rm_X7_way : Room := { frames := 9, cells := 0, slots := 0, locals := 328 }
set_option maxRecDepth 100000 in
set_option maxHeartbeats 4000000 in
theorem k_X7_way (w : zW) (I : zI) (J : zJ) (n : Nat) (h : Nat) (A : List zCla) (hd : Nat → Option Nat) (x : Int32) (i : Int32) (hN : I 0 1 = nI n) (hn : n ≤ 8) (hh : h < 7) (hH : I 5 2 = nI h) (hL : cLaw I h A) (hd7 : ∀ a, a < n → I 7 a = oI (hd a)) (hd99 : ∀ a k, hd a = some k → k ≤ 99) : zMet yX7_way cX7_way 4 (some .int) rm_X7_way w [.ref (zad w 0), .int x, .int i] I J (zpi (fun v I' J' => J' = J ∧ frS I' I ∧ ((¬ zin x n ∧ v = -1) ∨ ∃ a, a < n ∧ x = nI a ∧ ∃ len row, wayR n (aSteps A) (zGt (I 6) A) (zT0 hd) a len row ∧ ((i = -1 ∧ v = nI len) ∨ (i ≠ -1 ∧ ∃ k, k < len ∧ i = nI k ∧ v = nI (row k)) ∨ (i ≠ -1 ∧ ¬ zin i len ∧ v = -1))))) := by
  refine zMet_of (by decide) (Nat.le_of_ble_eq_true rfl) (fun X C hm hr => ?_)
  refine z_sub (lv' := [(0, .ref (zad w 0)), (1, .int x), (2, .int i)]) [0, 1, 2] rfl ?_
  refine z_aload_n C dX7_way_0 rfl 0 rfl ?_
  refine z_iload_n C dX7_way_1 rfl 1 rfl ?_
  refine z_callVi C hm cl_X7_77 cv_X7_isName 0 (by decide) sh0 ⟨_, _, rfl⟩ [.int x] rfl (rest := []) rfl (k_X7_isName w _ _ n x hN hn) ⟨rfl, rfl, Nat.le_of_ble_eq_true rfl, Nat.le_of_ble_eq_true rfl⟩ (Nat.le_of_ble_eq_true rfl) dX7_way_2 (fun v_1 I_1 J_1 h_1 => ?_)
  obtain ⟨ev_1, ei_1, ej_1⟩ := h_1
  replace ev_1 := ev_1.symm; subst ev_1
  replace ei_1 := ei_1.symm; subst ei_1
  replace ej_1 := ej_1.symm; subst ej_1
  refine z_ifne_b (tgt := 10) C dX7_way_5 (by decide) (fun c5 => ?_) (fun c5 => ?_)
  · skip
    obtain ⟨a, ha, rfl⟩ := c5
    refine z_aload_n C dX7_way_10 rfl 0 rfl ?_
    refine z_getr C ff_X7_31 0 (by decide) sh0 rfl dX7_way_11 ?_
    refine z_aload_n C dX7_way_14 rfl 0 rfl ?_
    refine z_getr C ff_X7_62 0 (by decide) sh0 rfl dX7_way_15 ?_
    refine z_aload_n C dX7_way_18 rfl 0 rfl ?_
    refine z_geti C ff_X7_73 0 (by decide) sh0 rfl (v := nI n) hN dX7_way_19 ?_
    refine z_callVv C hm cl_X7_125 cv_X3_take 23 (by decide) sh23 ⟨_, _, rfl⟩ [.ref (zad w 5), .int (nI n)] rfl (rest := []) rfl (k_X3_take w _ _ h A hd n hn hh hH hL hd7 hd99) ⟨rfl, rfl, Nat.le_of_ble_eq_true rfl, Nat.le_of_ble_eq_true rfl⟩ (Nat.le_of_ble_eq_true rfl) dX7_way_22 (fun I_2 J_2 h_2 => ?_)
    obtain ⟨eJ_2, H_2, Gr_2, eI_2, hH_2, hG_2⟩ := h_2
    replace eJ_2 := eJ_2.symm; subst eJ_2
    subst eI_2
    refine z_aload_n C dX7_way_25 rfl 0 rfl ?_
    refine z_getr C ff_X7_31 0 (by decide) sh0 rfl dX7_way_26 ?_
    refine z_iload_n C dX7_way_29 rfl 1 rfl ?_
    refine z_callVi C hm cl_X7_129 cv_X3_rowTo 23 (by decide) sh23 ⟨_, _, rfl⟩ [.int (nI a)] rfl (rest := []) rfl (k_X3_rowTo w _ _ n (aSteps A) (zGt (I 6) A) (zT0 hd) a hn rfl rfl (aSteps_le A) hH_2 (fun b _ => zT0_le hd99 b) hG_2 (fun a b _ _ => zGt_le hL.1 a b) ha) ⟨rfl, rfl, Nat.le_of_ble_eq_true rfl, Nat.le_of_ble_eq_true rfl⟩ (Nat.le_of_ble_eq_true rfl) dX7_way_30 (fun v_3 I_3 J_3 h_3 => ?_)
    obtain ⟨eJ_3, ⟨R_3, Q_3, S_3, P_3, eI_3⟩, len_3, row_3, hw_3, hv_3, hr_3⟩ := h_3
    replace eJ_3 := eJ_3.symm; subst eJ_3
    subst eI_3
    refine z_istore_n C hm (lv' := [(3, .int v_3), (0, .ref (zad w 0)), (1, .int (nI a)), (2, .int i)]) dX7_way_33 rfl (by decide) rfl ?_
    have hlen : len_3 ≤ 10 := wayR_len (aSteps_le A) hw_3
    rw [hv_3]
    refine z_iload_n C dX7_way_34 rfl 3 rfl ?_
    refine z_iconst C (v := -1) dX7_way_35 (by decide) ?_
    refine z_icmp_ne (tgt := 41) C dX7_way_36 (by decide) (fun c36 => ?_) (fun c36 => ?_)
    · skip
      refine z_iload_n C dX7_way_41 rfl 3 rfl ?_
      refine z_if_lt (tgt := 62) C dX7_way_42 (by decide) (fun c42 => ?_) (fun c42 => ?_)
      · skip
        refine z_iconst C (v := -1) dX7_way_62 (by decide) ?_
        refine z_iret C hr rfl dX7_way_63 ?_
        refine ⟨_, rfl, ?_⟩
        exact ⟨rfl, (by intro zk hzk; simp only [zup]; rw [if_neg (by omega), if_neg (by omega), if_neg (by omega), if_neg (by omega), if_neg (by omega), if_neg (by omega), if_neg (by omega)]), Or.inr ⟨a, ha, rfl, len_3, row_3, hw_3, Or.inr (Or.inr ⟨c36, zin_neg c42 (by omega), rfl⟩)⟩⟩
      · skip
        obtain ⟨ii, hii, rfl⟩ := nI_of c42
        refine z_iload_n C dX7_way_45 rfl 3 rfl ?_
        refine z_iload_n C dX7_way_46 rfl 0 rfl ?_
        refine z_icmp_ge_n ii len_3 (tgt := 62) C rfl rfl (by omega) (by omega) dX7_way_47 (by decide) (fun c47 => ?_) (fun c47 => ?_)
        · skip
          refine z_iconst C (v := -1) dX7_way_62 (by decide) ?_
          refine z_iret C hr rfl dX7_way_63 ?_
          refine ⟨_, rfl, ?_⟩
          exact ⟨rfl, (by intro zk hzk; simp only [zup]; rw [if_neg (by omega), if_neg (by omega), if_neg (by omega), if_neg (by omega), if_neg (by omega), if_neg (by omega), if_neg (by omega)]), Or.inr ⟨a, ha, rfl, len_3, row_3, hw_3, Or.inr (Or.inr ⟨c36, fun ⟨k2, q1, q2⟩ => by have := (nI_eq (by omega) (by omega)).mp q2; omega, rfl⟩)⟩⟩
        · skip
          refine z_aload_n C dX7_way_50 rfl 1 rfl ?_
          refine z_getr C ff_X7_31 0 (by decide) sh0 rfl dX7_way_51 ?_
          refine z_getr C ff_X7_132 23 (by decide) sh23 rfl dX7_way_54 ?_
          refine z_iload_n C dX7_way_57 rfl 3 rfl ?_
          refine z_iald C 29 (by decide) sh29 ii (by omega) (by decide) rfl (v := nI (row_3 ii)) (by first | exact (hr_3 ii (by omega)) | (simp [zup, zupJ, upd, vp_updL]; exact (hr_3 ii (by omega)))) dX7_way_58 ?_
          refine z_goto (tgt := 63) C dX7_way_59 (by decide) ?_
          refine z_iret C hr rfl dX7_way_63 ?_
          refine ⟨_, rfl, ?_⟩
          exact ⟨rfl, (by intro zk hzk; simp only [zup]; rw [if_neg (by omega), if_neg (by omega), if_neg (by omega), if_neg (by omega), if_neg (by omega), if_neg (by omega), if_neg (by omega)]), Or.inr ⟨a, ha, rfl, len_3, row_3, hw_3, Or.inr (Or.inl ⟨c36, ii, by omega, rfl, rfl⟩)⟩⟩
    · skip
      refine z_iload_n C dX7_way_39 rfl 0 rfl ?_
      refine z_iret C hr rfl dX7_way_40 ?_
      refine ⟨_, rfl, ?_⟩
      exact ⟨rfl, (by intro zk hzk; simp only [zup]; rw [if_neg (by omega), if_neg (by omega), if_neg (by omega), if_neg (by omega), if_neg (by omega), if_neg (by omega), if_neg (by omega)]), Or.inr ⟨a, ha, rfl, len_3, row_3, hw_3, Or.inl ⟨c36, rfl⟩⟩⟩
  · skip
    refine z_iconst C (v := -1) dX7_way_8 (by decide) ?_
    refine z_iret C hr rfl dX7_way_9 ?_
    refine ⟨_, rfl, ?_⟩
    exact ⟨rfl, frS_id, Or.inl ⟨c5, rfl⟩⟩
abbrev rm_X7_trade : Room := { frames := 5, cells := 0, slots := 0, locals := 225 }
set_option maxRecDepth 100000 in
set_option maxHeartbeats 4000000 in
theorem k_X7_trade (w : zW) (I : zI) (J : zJ) (n tr : Nat) (k : Int32) (x : Int32) (f : Int32) (y : Int32) (l : Int32) (hN : I 0 1 = nI n) (hn : n ≤ 8) (hT : I 5 8 = nI tr) (htr : tr ≤ 16) : zMet yX7_trade cX7_trade 6 (some .int) rm_X7_trade w [.ref (zad w 0), .int k, .int x, .int f, .int y, .int l] I J (zpi (fun v I' J' => v = cif (zin k 7 ∧ zin x n ∧ zin f 9) (cif (zin y 100 ∧ zi1 l 99) (cif (tr < 16) (nI tr) (-4)) (-2)) (-1) ∧ I' = cif ((zin k 7 ∧ zin x n ∧ zin f 9) ∧ (zin y 100 ∧ zi1 l 99) ∧ tr < 16) (zup (zup (zup (zup (zup (zup I 8 (upd (I 8) tr k)) 9 (upd (I 9) tr x)) 10 (upd (I 10) tr f)) 11 (upd (I 11) tr y)) 12 (upd (I 12) tr l)) 5 (upd (I 5) 8 (nI (tr + 1)))) I ∧ J' = J)) := by
  refine zMet_of (by decide) (Nat.le_of_ble_eq_true rfl) (fun X C hm hr => ?_)
  refine z_sub (lv' := [(0, .ref (zad w 0)), (1, .int k), (2, .int x), (3, .int f), (4, .int y), (5, .int l)]) [0, 1, 2, 3, 4, 5] rfl ?_
  refine z_iload_n C dX7_trade_0 rfl 1 rfl ?_
  refine z_callSi C hm cl_X7_150 cs_X7_isKind [.int k] rfl (rest := []) rfl (k_X7_isKind w _ _  k ) ⟨rfl, rfl, Nat.le_of_ble_eq_true rfl, Nat.le_of_ble_eq_true rfl⟩ (Nat.le_of_ble_eq_true rfl) dX7_trade_1 (fun v_1 I_1 J_1 h_1 => ?_)
  obtain ⟨ev_1, ei_1, ej_1⟩ := h_1
  replace ev_1 := ev_1.symm; subst ev_1
  replace ei_1 := ei_1.symm; subst ei_1
  replace ej_1 := ej_1.symm; subst ej_1
  refine z_ifeq_b (tgt := 22) C dX7_trade_4 (by decide) (fun c4 => ?_) (fun c4 => ?_)
  · skip
    refine z_iconst C (v := -1) dX7_trade_22 (by decide) ?_
    refine z_iret C hr rfl dX7_trade_23 ?_
    refine ⟨_, rfl, ?_⟩
    exact ⟨by rw [cif_f (fun q => c4 q.1)], by rw [cif_f (fun q => c4 q.1.1)], rfl⟩
  · skip
    refine z_aload_n C dX7_trade_7 rfl 0 rfl ?_
    refine z_iload_n C dX7_trade_8 rfl 2 rfl ?_
    refine z_callVi C hm cl_X7_77 cv_X7_isName 0 (by decide) sh0 ⟨_, _, rfl⟩ [.int x] rfl (rest := []) rfl (k_X7_isName w _ _ n x hN hn) ⟨rfl, rfl, Nat.le_of_ble_eq_true rfl, Nat.le_of_ble_eq_true rfl⟩ (Nat.le_of_ble_eq_true rfl) dX7_trade_9 (fun v_2 I_2 J_2 h_2 => ?_)
    obtain ⟨ev_2, ei_2, ej_2⟩ := h_2
    replace ev_2 := ev_2.symm; subst ev_2
    replace ei_2 := ei_2.symm; subst ei_2
    replace ej_2 := ej_2.symm; subst ej_2
    refine z_ifeq_b (tgt := 22) C dX7_trade_12 (by decide) (fun c12 => ?_) (fun c12 => ?_)
    · skip
      refine z_iconst C (v := -1) dX7_trade_22 (by decide) ?_
      refine z_iret C hr rfl dX7_trade_23 ?_
      refine ⟨_, rfl, ?_⟩
      exact ⟨by rw [cif_f (fun q => c12 q.2.1)], by rw [cif_f (fun q => c12 q.1.2.1)], rfl⟩
    · skip
      refine z_iload_n C dX7_trade_15 rfl 3 rfl ?_
      refine z_callSi C hm cl_X7_112 cs_X7_isFriday [.int f] rfl (rest := []) rfl (k_X7_isFriday w _ _  f ) ⟨rfl, rfl, Nat.le_of_ble_eq_true rfl, Nat.le_of_ble_eq_true rfl⟩ (Nat.le_of_ble_eq_true rfl) dX7_trade_16 (fun v_3 I_3 J_3 h_3 => ?_)
      obtain ⟨ev_3, ei_3, ej_3⟩ := h_3
      replace ev_3 := ev_3.symm; subst ev_3
      replace ei_3 := ei_3.symm; subst ei_3
      replace ej_3 := ej_3.symm; subst ej_3
      refine z_ifne_b (tgt := 24) C dX7_trade_19 (by decide) (fun c19 => ?_) (fun c19 => ?_)
      · skip
        refine z_iload C dX7_trade_24 4 rfl ?_
        refine z_callSi C hm cl_X7_84 cs_X7_isHour [.int y] rfl (rest := []) rfl (k_X7_isHour w _ _  y ) ⟨rfl, rfl, Nat.le_of_ble_eq_true rfl, Nat.le_of_ble_eq_true rfl⟩ (Nat.le_of_ble_eq_true rfl) dX7_trade_26 (fun v_4 I_4 J_4 h_4 => ?_)
        obtain ⟨ev_4, ei_4, ej_4⟩ := h_4
        replace ev_4 := ev_4.symm; subst ev_4
        replace ei_4 := ei_4.symm; subst ei_4
        replace ej_4 := ej_4.symm; subst ej_4
        refine z_ifeq_b (tgt := 45) C dX7_trade_29 (by decide) (fun c29 => ?_) (fun c29 => ?_)
        · skip
          refine z_bipush C (v := -2) dX7_trade_45 (by decide) ?_
          refine z_iret C hr rfl dX7_trade_47 ?_
          refine ⟨_, rfl, ?_⟩
          exact ⟨by rw [cif_t ⟨c4, c12, c19⟩, cif_f (fun q => c29 q.1)], by rw [cif_f (fun q => c29 q.2.1.1)], rfl⟩
        · skip
          refine z_iload C dX7_trade_32 5 rfl ?_
          refine z_iconst C (v := 1) dX7_trade_34 (by decide) ?_
          refine z_icmp_lt (tgt := 45) C dX7_trade_35 (by decide) (fun c35 => ?_) (fun c35 => ?_)
          · skip
            refine z_bipush C (v := -2) dX7_trade_45 (by decide) ?_
            refine z_iret C hr rfl dX7_trade_47 ?_
            refine ⟨_, rfl, ?_⟩
            exact ⟨by rw [cif_t ⟨c4, c12, c19⟩, cif_f (fun q => zi1_lt c35 (by decide) q.2)], by rw [cif_f (fun q => zi1_lt c35 (by decide) q.2.1.2)], rfl⟩
          · skip
            refine z_iload C dX7_trade_38 5 rfl ?_
            refine z_bipush C (v := 99) dX7_trade_40 (by decide) ?_
            refine z_icmp_le (tgt := 48) C dX7_trade_42 (by decide) (fun c42 => ?_) (fun c42 => ?_)
            · skip
              refine z_aload_n C dX7_trade_48 rfl 0 rfl ?_
              refine z_getr C ff_X7_62 0 (by decide) sh0 rfl dX7_trade_49 ?_
              refine z_geti C ff_X7_153 5 (by decide) sh5 rfl (v := nI tr) hT dX7_trade_52 ?_
              refine z_bipush C (v := 16) dX7_trade_55 (by decide) ?_
              refine z_icmp_lt_n tr 16 (tgt := 63) C rfl rfl (by omega) (by omega) dX7_trade_57 (by decide) (fun c57 => ?_) (fun c57 => ?_)
              · skip
                refine z_aload_n C dX7_trade_63 rfl 0 rfl ?_
                refine z_getr C ff_X7_62 0 (by decide) sh0 rfl dX7_trade_64 ?_
                refine z_iload_n C dX7_trade_67 rfl 1 rfl ?_
                refine z_iload_n C dX7_trade_68 rfl 2 rfl ?_
                refine z_iload_n C dX7_trade_69 rfl 3 rfl ?_
                refine z_iload C dX7_trade_70 4 rfl ?_
                refine z_iload C dX7_trade_72 5 rfl ?_
                refine z_callVi C hm cl_X7_156 cv_X6_addTrade 5 (by decide) sh5 ⟨_, _, rfl⟩ [.int k, .int x, .int f, .int y, .int l] rfl (rest := []) rfl (k_X6_addTrade w _ _ tr k x f y l c57 hT) ⟨rfl, rfl, Nat.le_of_ble_eq_true rfl, Nat.le_of_ble_eq_true rfl⟩ (Nat.le_of_ble_eq_true rfl) dX7_trade_74 (fun v_5 I_5 J_5 h_5 => ?_)
                obtain ⟨ev_5, ei_5, ej_5⟩ := h_5
                replace ev_5 := ev_5.symm; subst ev_5
                replace ei_5 := ei_5.symm; subst ei_5
                replace ej_5 := ej_5.symm; subst ej_5
                refine z_iret C hr rfl dX7_trade_77 ?_
                refine ⟨_, rfl, ?_⟩
                exact ⟨by rw [cif_t ⟨c4, c12, c19⟩, cif_t ⟨c29, zi1_of (n := 99) c35 (Int32.not_lt.mpr c42) (by decide)⟩, cif_t c57], by rw [cif_t ⟨⟨c4, c12, c19⟩, ⟨c29, zi1_of (n := 99) c35 (Int32.not_lt.mpr c42) (by decide)⟩, c57⟩], rfl⟩
              · skip
                refine z_bipush C (v := -4) dX7_trade_60 (by decide) ?_
                refine z_iret C hr rfl dX7_trade_62 ?_
                refine ⟨_, rfl, ?_⟩
                exact ⟨by rw [cif_t ⟨c4, c12, c19⟩, cif_t ⟨c29, zi1_of (n := 99) c35 (Int32.not_lt.mpr c42) (by decide)⟩, cif_f (by omega)], by rw [cif_f (fun q => by omega)], rfl⟩
            · skip
              refine z_bipush C (v := -2) dX7_trade_45 (by decide) ?_
              refine z_iret C hr rfl dX7_trade_47 ?_
              refine ⟨_, rfl, ?_⟩
              exact ⟨by rw [cif_t ⟨c4, c12, c19⟩, cif_f (fun q => zi1_gt (n := 99) (Int32.not_le.mp c42) (by decide) q.2)], by rw [cif_f (fun q => zi1_gt (n := 99) (Int32.not_le.mp c42) (by decide) q.2.1.2)], rfl⟩
      · skip
        refine z_iconst C (v := -1) dX7_trade_22 (by decide) ?_
        refine z_iret C hr rfl dX7_trade_23 ?_
        refine ⟨_, rfl, ?_⟩
        exact ⟨by rw [cif_f (fun q => c19 q.2.2)], by rw [cif_f (fun q => c19 q.1.2.2)], rfl⟩
abbrev rm_X7_fridays : Room := { frames := 5, cells := 0, slots := 0, locals := 223 }
set_option maxRecDepth 100000 in
set_option maxHeartbeats 4000000 in
theorem k_X7_fridays (w : zW) (I : zI) (J : zJ) (n tr : Nat) (x : Int32) (hN : I 0 1 = nI n) (hn : n ≤ 8) (hT : I 5 8 = nI tr) (htr : tr ≤ 16) : zMet yX7_fridays cX7_fridays 2 (some .int) rm_X7_fridays w [.ref (zad w 0), .int x] I J (zpi (fun v I' J' => v = cif (zin x n) (aDays (I 9) (I 10) x tr) (-1) ∧ I' = I ∧ J' = J)) := by
  refine zMet_of (by decide) (Nat.le_of_ble_eq_true rfl) (fun X C hm hr => ?_)
  refine z_sub (lv' := [(0, .ref (zad w 0)), (1, .int x)]) [0, 1] rfl ?_
  refine z_aload_n C dX7_fridays_0 rfl 0 rfl ?_
  refine z_iload_n C dX7_fridays_1 rfl 1 rfl ?_
  refine z_callVi C hm cl_X7_77 cv_X7_isName 0 (by decide) sh0 ⟨_, _, rfl⟩ [.int x] rfl (rest := []) rfl (k_X7_isName w _ _ n x hN hn) ⟨rfl, rfl, Nat.le_of_ble_eq_true rfl, Nat.le_of_ble_eq_true rfl⟩ (Nat.le_of_ble_eq_true rfl) dX7_fridays_2 (fun v_1 I_1 J_1 h_1 => ?_)
  obtain ⟨ev_1, ei_1, ej_1⟩ := h_1
  replace ev_1 := ev_1.symm; subst ev_1
  replace ei_1 := ei_1.symm; subst ei_1
  replace ej_1 := ej_1.symm; subst ej_1
  refine z_ifne_b (tgt := 10) C dX7_fridays_5 (by decide) (fun c5 => ?_) (fun c5 => ?_)
  · skip
    refine z_aload_n C dX7_fridays_10 rfl 0 rfl ?_
    refine z_getr C ff_X7_62 0 (by decide) sh0 rfl dX7_fridays_11 ?_
    refine z_iload_n C dX7_fridays_14 rfl 1 rfl ?_
    refine z_callVi C hm cl_X7_184 cv_X6_fridaysOf 5 (by decide) sh5 ⟨_, _, rfl⟩ [.int x] rfl (rest := []) rfl (k_X6_fridaysOf w _ _ tr x htr hT) ⟨rfl, rfl, Nat.le_of_ble_eq_true rfl, Nat.le_of_ble_eq_true rfl⟩ (Nat.le_of_ble_eq_true rfl) dX7_fridays_15 (fun v_2 I_2 J_2 h_2 => ?_)
    obtain ⟨ev_2, ei_2, ej_2⟩ := h_2
    replace ev_2 := ev_2.symm; subst ev_2
    replace ei_2 := ei_2.symm; subst ei_2
    replace ej_2 := ej_2.symm; subst ej_2
    refine z_iret C hr rfl dX7_fridays_18 ?_
    refine ⟨_, rfl, ?_⟩
    exact ⟨by rw [cif_t c5], rfl, rfl⟩
  · skip
    refine z_iconst C (v := -1) dX7_fridays_8 (by decide) ?_
    refine z_iret C hr rfl dX7_fridays_9 ?_
    refine ⟨_, rfl, ?_⟩
    exact ⟨by rw [cif_f c5], rfl, rfl⟩
