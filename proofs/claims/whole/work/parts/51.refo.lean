/-! the reference: tapes, feed -/
def zfp (g : Nat → Int64) (t c : Nat) : Nat → Int64 := fun j => if 60 * t ≤ j ∧ j < 60 * t + c then 0 else g j
theorem zfp_0 {g : Nat → Int64} {t : Nat} : zfp g t 0 = g := by funext j; simp only [zfp]; rw [if_neg (by omega)]
theorem zfp_s {g : Nat → Int64} {t c : Nat} : vp_updL (zfp g t c) (60 * t + c) 0 = zfp g t (c + 1) := by
  funext j; simp only [vp_updL, zfp]
  by_cases h : j = 60 * t + c
  · rw [if_pos h, if_pos (by omega)]
  · rw [if_neg h]; by_cases q : 60 * t ≤ j ∧ j < 60 * t + c
    · rw [if_pos q, if_pos (by omega)]
    · rw [if_neg q, if_neg (by omega)]
theorem le_sub {k a m : Nat} (hk : k < 2 ^ 31) (ha : a ≤ 60) (hm : m < 2 ^ 31) : nI k ≤ nI a - nI m ↔ k + m ≤ a := by
  by_cases q : m ≤ a
  · rw [pk_sub q, nI_leI hk (by omega)]; omega
  · have h1 : (nI a - nI m).toInt = (a : Int) - m := by
      rw [Int32.toInt_sub, nI_toInt (by omega), nI_toInt hm]
      exact Int.bmod_eq_of_le (by omega) (by omega)
    rw [Int32.le_iff_toInt_le, h1, nI_toInt hk]; omega
theorem va_cpy_s {f g : Nat → Int64} {a b c : Nat} : vp_updL (va_cpy f g a b c) (b + c) (f (a + c)) = va_cpy f g a b (c + 1) := by
  funext j; simp only [vp_updL, va_cpy]
  by_cases h : j = b + c
  · rw [if_pos h, if_pos (by omega)]; congr 1; omega
  · rw [if_neg h]; by_cases q : b ≤ j ∧ j < b + c
    · rw [if_pos q, if_pos (by omega)]
    · rw [if_neg q, if_neg (by omega)]
theorem va_cpy_0 {f g : Nat → Int64} {a b : Nat} : va_cpy f g a b 0 = g := by funext j; simp only [va_cpy]; rw [if_neg (by omega)]
noncomputable def zbm (x : Int32) (j : Nat) : Int32 := (x >>> (nI (8 * j) &&& 31)).toInt8.toInt32
theorem not_m1 {s : Int32} (h : ¬ (s = -1 ∨ zin s 5)) : s < -1 ∨ 4 < s := by
  by_cases q : s < -1
  · exact Or.inl q
  · right
    refine Int32.not_le.mp (fun z => h ?_)
    exact (in_m (m := 4) (by decide)).mp ⟨Int32.not_lt.mp q, z⟩
theorem is_m1 {s : Int32} (h : s = -1 ∨ zin s 5) (h0 : s < 0) : s = -1 := h.resolve_right (fun ⟨k, h1, h2⟩ => nI_pos (show k < 2 ^ 31 by omega) (h2 ▸ h0))
theorem is_05 {s : Int32} (h : s = -1 ∨ zin s 5) (h0 : (0 : Int32) ≤ s) : zin s 5 := h.resolve_left (fun q => by rw [q] at h0; exact absurd h0 (by decide))
abbrev rm_X8_tape : Room := { frames := 6, cells := 0, slots := 0, locals := 244 }
set_option maxRecDepth 100000 in
set_option maxHeartbeats 4000000 in
theorem k_X8_tape (w : zW) (I : zI) (J : zJ)  (x : Int32) (sr : Int32) (z : Int32)  : zMet yX8_tape cX8_tape 5 (some .int) rm_X8_tape w [.ref (zad w 82), .int x, .int sr, .int z] I J (zpi (fun v I' J' => (¬ zin x 6 ∧ v = -1 ∧ I' = I ∧ J' = J) ∨ ∃ t, t < 6 ∧ x = nI t ∧ (((sr < -1 ∨ 4 < sr) ∧ v = -2 ∧ I' = I ∧ J' = J) ∨ (sr = -1 ∧ v = 1 ∧ I' = zup (zup I 119 (upd (I 119) t (-1))) 120 (upd (I 120) t 0) ∧ J' = zupJ J 121 (zfp (J 121) t 60)) ∨ (zin sr 5 ∧ ((60 < z ∧ v = -2 ∧ I' = I ∧ J' = J) ∨ (z < 0 ∧ v = -14 ∧ I' = I ∧ J' = J) ∨ ((∃ k, k ≤ 60 ∧ z = nI k) ∧ v = 1 ∧ I' = zup (zup I 119 (upd (I 119) t sr)) 120 (upd (I 120) t z) ∧ J' = zupJ J 121 (zfp (J 121) t 60))))))) := by
  refine zMet_of (by decide) (Nat.le_of_ble_eq_true rfl) (fun X C hm hr => ?_)
  refine z_sub (lv' := [(0, .ref (zad w 82)), (1, .int x), (2, .int sr), (3, .int z)]) [0, 1, 2, 3] rfl ?_
  refine z_aload_n C dX8_tape_0 rfl 0 rfl ?_
  refine z_iload_n C dX8_tape_1 rfl 1 rfl ?_
  refine z_callVi C hm cl_X8_333 cv_X8_isTape 82 (by decide) sh82 ⟨_, _, rfl⟩ [.int x] rfl (rest := []) rfl (k_X8_isTape w _ _  x ) ⟨rfl, rfl, Nat.le_of_ble_eq_true rfl, Nat.le_of_ble_eq_true rfl⟩ (Nat.le_of_ble_eq_true rfl) dX8_tape_2 (fun v_1 I_1 J_1 h_1 => ?_)
  obtain ⟨ev_1, ei_1, ej_1⟩ := h_1
  replace ev_1 := ev_1.symm; subst ev_1
  replace ei_1 := ei_1.symm; subst ei_1
  replace ej_1 := ej_1.symm; subst ej_1
  refine z_ifne_b (tgt := 10) C dX8_tape_5 (by decide) (fun c5 => ?_) (fun c5 => ?_)
  · skip
    obtain ⟨t, ht, rfl⟩ := c5
    refine z_aload_n C dX8_tape_10 rfl 0 rfl ?_
    refine z_iload_n C dX8_tape_11 rfl 2 rfl ?_
    refine z_iconst C (v := -1) dX8_tape_12 (by decide) ?_
    refine z_iconst C (v := 4) dX8_tape_13 (by decide) ?_
    refine z_callVi C hm cl_X8_189 cv_X8_in 82 (by decide) sh82 ⟨_, _, rfl⟩ [.int sr, .int (-1), .int 4] rfl (rest := []) rfl (k_X8_in w _ _ sr (-1) (4)) ⟨rfl, rfl, Nat.le_of_ble_eq_true rfl, Nat.le_of_ble_eq_true rfl⟩ (Nat.le_of_ble_eq_true rfl) dX8_tape_14 (fun v_2 I_2 J_2 h_2 => ?_)
    obtain ⟨ev_2, ei_2, ej_2⟩ := h_2
    replace ei_2 := ei_2.symm; subst ei_2
    replace ej_2 := ej_2.symm; subst ej_2
    replace ev_2 := ev_2.trans (bI_c (in_m (m := 4) (by decide))); subst ev_2
    refine z_ifeq_b (tgt := 30) C dX8_tape_17 (by decide) (fun c17 => ?_) (fun c17 => ?_)
    · skip
      refine z_bipush C (v := -2) dX8_tape_30 (by decide) ?_
      refine z_iret C hr rfl dX8_tape_32 ?_
      refine ⟨_, rfl, ?_⟩
      exact Or.inr ⟨t, ht, rfl, Or.inl ⟨not_m1 c17, rfl, rfl, rfl⟩⟩
    · skip
      refine z_iload_n C dX8_tape_20 rfl 2 rfl ?_
      refine z_if_lt (tgt := 33) C dX8_tape_21 (by decide) (fun c21 => ?_) (fun c21 => ?_)
      · skip
        have hsm := is_m1 c17 c21
        refine z_iload_n C dX8_tape_33 rfl 2 rfl ?_
        refine z_if_lt (tgt := 44) C dX8_tape_34 (by decide) (fun c34 => ?_) (fun c34 => ?_)
        · skip
          refine z_aload_n C dX8_tape_44 rfl 0 rfl ?_
          refine z_getr C ff_X8_177 82 (by decide) sh82 rfl dX8_tape_45 ?_
          refine z_iload_n C dX8_tape_48 rfl 1 rfl ?_
          refine z_iload_n C dX8_tape_49 rfl 2 rfl ?_
          refine z_iast C 119 (by decide) sh119 t (by omega) (by decide) rfl dX8_tape_50 ?_
          refine z_I (I' := zup I 119 (upd (I 119) t sr)) rfl ?_
          refine z_aload_n C dX8_tape_51 rfl 0 rfl ?_
          refine z_getr C ff_X8_180 82 (by decide) sh82 rfl dX8_tape_52 ?_
          refine z_iload_n C dX8_tape_55 rfl 1 rfl ?_
          refine z_iload_n C dX8_tape_56 rfl 2 rfl ?_
          refine z_if_ge (tgt := 64) C dX8_tape_57 (by decide) (fun c57 => ?_) (fun c57 => ?_)
          · skip
            exact absurd c21 (Int32.not_lt.mpr c57)
          · skip
            refine z_iconst C (v := 0) dX8_tape_60 (by decide) ?_
            refine z_goto (tgt := 65) C dX8_tape_61 (by decide) ?_
            refine z_iast C 120 (by decide) sh120 t (by omega) (by decide) rfl dX8_tape_65 ?_
            refine z_I (I' := zup (zup I 119 (upd (I 119) t sr)) 120 (upd (I 120) t 0)) (by first | rfl | (rw [zup_n] <;> omega)) ?_
            refine z_iconst C (v := 0) dX8_tape_66 (by decide) ?_
            refine z_istore C hm (lv' := [(4, .int 0), (0, .ref (zad w 82)), (1, .int (nI t)), (2, .int sr), (3, .int z)]) dX8_tape_67 (by decide) rfl ?_
            have L69 : ∀ (d : Nat) (k : Nat) (v69_4 : Int32) (J69 : zJ), (60 - k) < d → (k ≤ 60) → v69_4 = nI k → J69 = zupJ J 121 (zfp (J 121) t k) → Z X w (zup (zup I 119 (upd (I 119) t sr)) 120 (upd (I 120) t 0)) J69 69 [(0, .ref (zad w 82)), (1, .int (nI t)), (2, .int sr), (3, .int z), (4, .int v69_4)] [] := by
              intro d
              induction d with
              | zero => intro k v69_4 J69 hd; exact absurd hd (Nat.not_lt_zero _)
              | succ d ih69 => 
                intro k v69_4 J69 hd69 hk e_v69_4 e_J69
                replace e_v69_4 := e_v69_4.symm; subst e_v69_4
                replace e_J69 := e_J69.symm; subst e_J69
                refine z_iload C dX8_tape_69 4 rfl ?_
                refine z_bipush C (v := 60) dX8_tape_71 (by decide) ?_
                refine z_icmp_ge_n k 60 (tgt := 95) C rfl rfl (by omega) (by omega) dX8_tape_73 (by decide) (fun c73 => ?_) (fun c73 => ?_)
                · skip
                  have hk60 : k = 60 := by omega
                  refine z_iconst C (v := 1) dX8_tape_95 (by decide) ?_
                  refine z_iret C hr rfl dX8_tape_96 ?_
                  refine ⟨_, rfl, ?_⟩
                  exact Or.inr ⟨t, ht, rfl, Or.inr (Or.inl ⟨hsm, rfl, by rw [hsm], by rw [hk60]⟩)⟩
                · skip
                  refine z_aload_n C dX8_tape_76 rfl 0 rfl ?_
                  refine z_getr C ff_X8_183 82 (by decide) sh82 rfl dX8_tape_77 ?_
                  refine z_bipush C (v := 60) dX8_tape_80 (by decide) ?_
                  refine z_iload_n C dX8_tape_82 rfl 1 rfl ?_
                  refine z_imul C dX8_tape_83 ?_
                  refine z_ti (y := nI (60 * t)) (pk_mul 60 t) ?_
                  refine z_iload C dX8_tape_84 4 rfl ?_
                  refine z_iadd C dX8_tape_86 ?_
                  refine z_ti (y := nI (60 * t + k)) (nI_add (60 * t) k) ?_
                  refine z_lconst C (v := 0) dX8_tape_87 (by decide) ?_
                  refine z_last C 121 (by decide) sh121 (60 * t + k) (by omega) (by decide) rfl dX8_tape_88 ?_
                  refine z_J (J' := zupJ J 121 (vp_updL (zfp (J 121) t k) (60 * t + k) 0)) (by rw [zupJ_s, zupJ_up]) ?_
                  refine z_iinc C hm 4 (v := nI (k + 1)) (lv' := [(4, .int (nI (k + 1))), (0, .ref (zad w 82)), (1, .int (nI t)), (2, .int sr), (3, .int z)]) dX8_tape_89 rfl (nI_add k 1) (by decide) rfl ?_
                  refine z_goto (tgt := 69) C dX8_tape_92 (by decide) ?_
                  exact z_sub [1, 2, 3, 4, 0] rfl (ih69  (k + 1) _ _ (by omega) (by omega) rfl (by rw [zfp_s]))
            exact z_sub [1, 2, 3, 4, 0] rfl (L69 _ 0 _ _ (Nat.lt_succ_self _) (by omega) rfl (by rw [zfp_0, zupJ_id]))
        · skip
          exact absurd c21 c34
      · skip
        have hs5 := is_05 c17 (Int32.not_lt.mp c21)
        refine z_iload_n C dX8_tape_24 rfl 3 rfl ?_
        refine z_bipush C (v := 60) dX8_tape_25 (by decide) ?_
        refine z_icmp_le (tgt := 33) C dX8_tape_27 (by decide) (fun c27 => ?_) (fun c27 => ?_)
        · skip
          refine z_iload_n C dX8_tape_33 rfl 2 rfl ?_
          refine z_if_lt (tgt := 44) C dX8_tape_34 (by decide) (fun c34 => ?_) (fun c34 => ?_)
          · skip
            exact absurd c34 c21
          · skip
            refine z_iload_n C dX8_tape_37 rfl 3 rfl ?_
            refine z_if_ge (tgt := 44) C dX8_tape_38 (by decide) (fun c38 => ?_) (fun c38 => ?_)
            · skip
              refine z_aload_n C dX8_tape_44 rfl 0 rfl ?_
              refine z_getr C ff_X8_177 82 (by decide) sh82 rfl dX8_tape_45 ?_
              refine z_iload_n C dX8_tape_48 rfl 1 rfl ?_
              refine z_iload_n C dX8_tape_49 rfl 2 rfl ?_
              refine z_iast C 119 (by decide) sh119 t (by omega) (by decide) rfl dX8_tape_50 ?_
              refine z_I (I' := zup I 119 (upd (I 119) t sr)) rfl ?_
              refine z_aload_n C dX8_tape_51 rfl 0 rfl ?_
              refine z_getr C ff_X8_180 82 (by decide) sh82 rfl dX8_tape_52 ?_
              refine z_iload_n C dX8_tape_55 rfl 1 rfl ?_
              refine z_iload_n C dX8_tape_56 rfl 2 rfl ?_
              refine z_if_ge (tgt := 64) C dX8_tape_57 (by decide) (fun c57 => ?_) (fun c57 => ?_)
              · skip
                refine z_iload_n C dX8_tape_64 rfl 3 rfl ?_
                refine z_iast C 120 (by decide) sh120 t (by omega) (by decide) rfl dX8_tape_65 ?_
                refine z_I (I' := zup (zup I 119 (upd (I 119) t sr)) 120 (upd (I 120) t z)) (by first | rfl | (rw [zup_n] <;> omega)) ?_
                refine z_iconst C (v := 0) dX8_tape_66 (by decide) ?_
                refine z_istore C hm (lv' := [(4, .int 0), (0, .ref (zad w 82)), (1, .int (nI t)), (2, .int sr), (3, .int z)]) dX8_tape_67 (by decide) rfl ?_
                have L69 : ∀ (d : Nat) (k : Nat) (v69_4 : Int32) (J69 : zJ), (60 - k) < d → (k ≤ 60) → v69_4 = nI k → J69 = zupJ J 121 (zfp (J 121) t k) → Z X w (zup (zup I 119 (upd (I 119) t sr)) 120 (upd (I 120) t z)) J69 69 [(0, .ref (zad w 82)), (1, .int (nI t)), (2, .int sr), (3, .int z), (4, .int v69_4)] [] := by
                  intro d
                  induction d with
                  | zero => intro k v69_4 J69 hd; exact absurd hd (Nat.not_lt_zero _)
                  | succ d ih69 => 
                    intro k v69_4 J69 hd69 hk e_v69_4 e_J69
                    replace e_v69_4 := e_v69_4.symm; subst e_v69_4
                    replace e_J69 := e_J69.symm; subst e_J69
                    refine z_iload C dX8_tape_69 4 rfl ?_
                    refine z_bipush C (v := 60) dX8_tape_71 (by decide) ?_
                    refine z_icmp_ge_n k 60 (tgt := 95) C rfl rfl (by omega) (by omega) dX8_tape_73 (by decide) (fun c73 => ?_) (fun c73 => ?_)
                    · skip
                      have hk60 : k = 60 := by omega
                      refine z_iconst C (v := 1) dX8_tape_95 (by decide) ?_
                      refine z_iret C hr rfl dX8_tape_96 ?_
                      refine ⟨_, rfl, ?_⟩
                      exact Or.inr ⟨t, ht, rfl, Or.inr (Or.inr ⟨hs5, Or.inr (Or.inr ⟨nI_60 (Int32.not_lt.mpr c38) c27, rfl, rfl, by rw [hk60]⟩)⟩)⟩
                    · skip
                      refine z_aload_n C dX8_tape_76 rfl 0 rfl ?_
                      refine z_getr C ff_X8_183 82 (by decide) sh82 rfl dX8_tape_77 ?_
                      refine z_bipush C (v := 60) dX8_tape_80 (by decide) ?_
                      refine z_iload_n C dX8_tape_82 rfl 1 rfl ?_
                      refine z_imul C dX8_tape_83 ?_
                      refine z_ti (y := nI (60 * t)) (pk_mul 60 t) ?_
                      refine z_iload C dX8_tape_84 4 rfl ?_
                      refine z_iadd C dX8_tape_86 ?_
                      refine z_ti (y := nI (60 * t + k)) (nI_add (60 * t) k) ?_
                      refine z_lconst C (v := 0) dX8_tape_87 (by decide) ?_
                      refine z_last C 121 (by decide) sh121 (60 * t + k) (by omega) (by decide) rfl dX8_tape_88 ?_
                      refine z_J (J' := zupJ J 121 (vp_updL (zfp (J 121) t k) (60 * t + k) 0)) (by rw [zupJ_s, zupJ_up]) ?_
                      refine z_iinc C hm 4 (v := nI (k + 1)) (lv' := [(4, .int (nI (k + 1))), (0, .ref (zad w 82)), (1, .int (nI t)), (2, .int sr), (3, .int z)]) dX8_tape_89 rfl (nI_add k 1) (by decide) rfl ?_
                      refine z_goto (tgt := 69) C dX8_tape_92 (by decide) ?_
                      exact z_sub [1, 2, 3, 4, 0] rfl (ih69  (k + 1) _ _ (by omega) (by omega) rfl (by rw [zfp_s]))
                exact z_sub [1, 2, 3, 4, 0] rfl (L69 _ 0 _ _ (Nat.lt_succ_self _) (by omega) rfl (by rw [zfp_0, zupJ_id]))
              · skip
                exact absurd (Int32.not_lt.mp c21) c57
            · skip
              refine z_bipush C (v := -14) dX8_tape_41 (by decide) ?_
              refine z_iret C hr rfl dX8_tape_43 ?_
              refine ⟨_, rfl, ?_⟩
              exact Or.inr ⟨t, ht, rfl, Or.inr (Or.inr ⟨hs5, Or.inr (Or.inl ⟨Int32.not_le.mp c38, rfl, rfl, rfl⟩)⟩)⟩
        · skip
          refine z_bipush C (v := -2) dX8_tape_30 (by decide) ?_
          refine z_iret C hr rfl dX8_tape_32 ?_
          refine ⟨_, rfl, ?_⟩
          exact Or.inr ⟨t, ht, rfl, Or.inr (Or.inr ⟨hs5, Or.inl ⟨Int32.not_le.mp c27, rfl, rfl, rfl⟩⟩)⟩
  · skip
    refine z_iconst C (v := -1) dX8_tape_8 (by decide) ?_
    refine z_iret C hr rfl dX8_tape_9 ?_
    refine ⟨_, rfl, ?_⟩
    exact Or.inl ⟨c5, rfl, rfl, rfl⟩
theorem zin_53 {s : Int32} (h : zin s 5) (h0 : ¬ s = 0) (h1 : ¬ s = 1) (h2 : ¬ s = 2) (h4 : ¬ s = 4) : s = 3 := by
  obtain ⟨k, k1, k2⟩ := h
  have q0 : k ≠ 0 := fun q => h0 (by rw [k2, q]; rfl)
  have q1 : k ≠ 1 := fun q => h1 (by rw [k2, q]; rfl)
  have q2 : k ≠ 2 := fun q => h2 (by rw [k2, q]; rfl)
  have q4 : k ≠ 4 := fun q => h4 (by rw [k2, q]; rfl)
  rw [k2, show k = 3 by omega]; rfl
abbrev rm_X8_narrow : Room := { frames := 4, cells := 0, slots := 0, locals := 200 }
set_option maxRecDepth 100000 in
set_option maxHeartbeats 4000000 in
theorem k_X8_narrow (w : zW) (I : zI) (J : zJ)  (so : Int32) (q : Int64) (hs5 : zin so 5) : zMet yX8_narrow cX8_narrow 4 (some .long) rm_X8_narrow w [.ref (zad w 82), .int so, .long q] I J (zpl (fun v I' J' => v = zcut so q ∧ I' = I ∧ J' = J)) := by
  refine zMet_of (by decide) (Nat.le_of_ble_eq_true rfl) (fun X C hm hr => ?_)
  refine z_sub (lv' := [(0, .ref (zad w 82)), (1, .int so), (2, .long q)]) [0, 1, 2] rfl ?_
  refine z_iload_n C dX8_narrow_0 rfl 1 rfl ?_
  refine z_if_ne (tgt := 11) C dX8_narrow_1 (by decide) (fun c1 => ?_) (fun c1 => ?_)
  · skip
    refine z_iload_n C dX8_narrow_11 rfl 1 rfl ?_
    refine z_iconst C (v := 1) dX8_narrow_12 (by decide) ?_
    refine z_icmp_ne (tgt := 23) C dX8_narrow_13 (by decide) (fun c13 => ?_) (fun c13 => ?_)
    · skip
      have c13n := c13
      refine z_iload_n C dX8_narrow_23 rfl 1 rfl ?_
      refine z_iconst C (v := 2) dX8_narrow_24 (by decide) ?_
      refine z_icmp_ne (tgt := 34) C dX8_narrow_25 (by decide) (fun c25 => ?_) (fun c25 => ?_)
      · skip
        have c25n := c25
        refine z_iload_n C dX8_narrow_34 rfl 1 rfl ?_
        refine z_iconst C (v := 4) dX8_narrow_35 (by decide) ?_
        refine z_icmp_ne (tgt := 53) C dX8_narrow_36 (by decide) (fun c36 => ?_) (fun c36 => ?_)
        · skip
          have c36n := c36
          refine z_lload_n C dX8_narrow_53 rfl 2 rfl ?_
          refine z_lret C hr dX8_narrow_54 ?_
          refine ⟨_, rfl, ?_⟩
          exact ⟨by rw [zcut, if_neg c1, if_neg c13n, if_neg c25n, if_pos (zin_53 hs5 c1 c13n c25n c36n)], rfl, rfl⟩
        · skip
          have c36n := c36
          refine z_lload_n C dX8_narrow_39 rfl 2 rfl ?_
          refine z_lconst C (v := 0) dX8_narrow_40 (by decide) ?_
          refine z_lcmp C dX8_narrow_41 ?_
          refine z_if_eq (tgt := 49) C dX8_narrow_42 (by decide) (fun c42 => ?_) (fun c42 => ?_)
          · skip
            refine z_lconst C (v := 0) dX8_narrow_49 (by decide) ?_
            refine z_goto (tgt := 54) C dX8_narrow_50 (by decide) ?_
            refine z_lret C hr dX8_narrow_54 ?_
            refine ⟨_, rfl, ?_⟩
            exact ⟨by rw [zcut, if_neg c1, if_neg c13n, if_neg c25n, if_neg (by rw [c36n]; decide), if_pos ((lg_cmp_eq _ _).mp c42)], rfl, rfl⟩
          · skip
            refine z_lconst C (v := 1) dX8_narrow_45 (by decide) ?_
            refine z_goto (tgt := 54) C dX8_narrow_46 (by decide) ?_
            refine z_lret C hr dX8_narrow_54 ?_
            refine ⟨_, rfl, ?_⟩
            exact ⟨by rw [zcut, if_neg c1, if_neg c13n, if_neg c25n, if_neg (by rw [c36n]; decide), if_neg (fun q => c42 ((lg_cmp_eq _ _).mpr q))], rfl, rfl⟩
      · skip
        have c25n := c25
        refine z_lload_n C dX8_narrow_28 rfl 2 rfl ?_
        refine z_l2i C (v := q.toInt32) dX8_narrow_29 rfl ?_
        refine z_i2l C (v := q.toInt32.toInt64) dX8_narrow_30 rfl ?_
        refine z_goto (tgt := 54) C dX8_narrow_31 (by decide) ?_
        refine z_lret C hr dX8_narrow_54 ?_
        refine ⟨_, rfl, ?_⟩
        exact ⟨by rw [zcut, if_neg c1, if_neg c13n, if_pos c25n], rfl, rfl⟩
    · skip
      have c13n := c13
      refine z_lload_n C dX8_narrow_16 rfl 2 rfl ?_
      refine z_l2i C (v := q.toInt32) dX8_narrow_17 rfl ?_
      refine z_i2s C (v := q.toInt32.toInt16.toInt32) dX8_narrow_18 rfl ?_
      refine z_i2l C (v := q.toInt32.toInt16.toInt32.toInt64) dX8_narrow_19 rfl ?_
      refine z_goto (tgt := 54) C dX8_narrow_20 (by decide) ?_
      refine z_lret C hr dX8_narrow_54 ?_
      refine ⟨_, rfl, ?_⟩
      exact ⟨by rw [zcut, if_neg c1, if_pos c13n], rfl, rfl⟩
  · skip
    refine z_lload_n C dX8_narrow_4 rfl 2 rfl ?_
    refine z_l2i C (v := q.toInt32) dX8_narrow_5 rfl ?_
    refine z_i2b C (v := q.toInt32.toInt8.toInt32) dX8_narrow_6 rfl ?_
    refine z_i2l C (v := q.toInt32.toInt8.toInt32.toInt64) dX8_narrow_7 rfl ?_
    refine z_goto (tgt := 54) C dX8_narrow_8 (by decide) ?_
    refine z_lret C hr dX8_narrow_54 ?_
    refine ⟨_, rfl, ?_⟩
    exact ⟨by rw [zcut, if_pos c1], rfl, rfl⟩
abbrev rm_X8_item : Room := { frames := 6, cells := 0, slots := 0, locals := 244 }
set_option maxRecDepth 100000 in
set_option maxHeartbeats 4000000 in
theorem k_X8_item (w : zW) (I : zI) (J : zJ) (so : Nat → Int32) (ln : Nat → Nat) (it : Nat → Nat → Int64) (x : Int32) (y : Int32) (q : Int64) (hTs : ∀ t, t < 6 → I 119 t = so t ∧ I 120 t = nI (ln t) ∧ ln t ≤ 60 ∧ (so t = -1 ∨ zin (so t) 5) ∧ (so t = -1 → ln t = 0)) : zMet yX8_item cX8_item 5 (some .int) rm_X8_item w [.ref (zad w 82), .int x, .int y, .long q] I J (zpi (fun v I' J' => (¬ zin x 6 ∧ v = -1 ∧ I' = I ∧ J' = J) ∨ ∃ t, t < 6 ∧ x = nI t ∧ ((so t = -1 ∧ v = -11 ∧ I' = I ∧ J' = J) ∨ (so t ≠ -1 ∧ ((¬ zin y (ln t) ∧ v = -13 ∧ I' = I ∧ J' = J) ∨ ∃ i, i < ln t ∧ y = nI i ∧ v = 1 ∧ I' = I ∧ J' = zupJ J 121 (vp_updL (J 121) (60 * t + i) (zcut (so t) q))))))) := by
  refine zMet_of (by decide) (Nat.le_of_ble_eq_true rfl) (fun X C hm hr => ?_)
  refine z_sub (lv' := [(0, .ref (zad w 82)), (1, .int x), (2, .int y), (3, .long q)]) [0, 1, 2, 3] rfl ?_
  refine z_aload_n C dX8_item_0 rfl 0 rfl ?_
  refine z_iload_n C dX8_item_1 rfl 1 rfl ?_
  refine z_callVi C hm cl_X8_333 cv_X8_isTape 82 (by decide) sh82 ⟨_, _, rfl⟩ [.int x] rfl (rest := []) rfl (k_X8_isTape w _ _  x ) ⟨rfl, rfl, Nat.le_of_ble_eq_true rfl, Nat.le_of_ble_eq_true rfl⟩ (Nat.le_of_ble_eq_true rfl) dX8_item_2 (fun v_1 I_1 J_1 h_1 => ?_)
  obtain ⟨ev_1, ei_1, ej_1⟩ := h_1
  replace ev_1 := ev_1.symm; subst ev_1
  replace ei_1 := ei_1.symm; subst ei_1
  replace ej_1 := ej_1.symm; subst ej_1
  refine z_ifne_b (tgt := 10) C dX8_item_5 (by decide) (fun c5 => ?_) (fun c5 => ?_)
  · skip
    obtain ⟨t, ht, rfl⟩ := c5
    obtain ⟨hT1, hT2, hl60, hT4, hT5⟩ := hTs t ht
    refine z_aload_n C dX8_item_10 rfl 0 rfl ?_
    refine z_getr C ff_X8_177 82 (by decide) sh82 rfl dX8_item_11 ?_
    refine z_iload_n C dX8_item_14 rfl 1 rfl ?_
    refine z_iald C 119 (by decide) sh119 t (by omega) (by decide) rfl (v := so t) hT1 dX8_item_15 ?_
    refine z_if_ge (tgt := 22) C dX8_item_16 (by decide) (fun c16 => ?_) (fun c16 => ?_)
    · skip
      have hsn : so t ≠ -1 := fun q => by rw [q] at c16; exact absurd c16 (by decide)
      refine z_aload_n C dX8_item_22 rfl 0 rfl ?_
      refine z_iload_n C dX8_item_23 rfl 2 rfl ?_
      refine z_iconst C (v := 0) dX8_item_24 (by decide) ?_
      refine z_aload_n C dX8_item_25 rfl 0 rfl ?_
      refine z_getr C ff_X8_180 82 (by decide) sh82 rfl dX8_item_26 ?_
      refine z_iload_n C dX8_item_29 rfl 1 rfl ?_
      refine z_iald C 120 (by decide) sh120 t (by omega) (by decide) rfl (v := nI (ln t)) hT2 dX8_item_30 ?_
      refine z_iconst C (v := 1) dX8_item_31 (by decide) ?_
      refine z_isub C dX8_item_32 ?_
      refine z_callVi C hm cl_X8_189 cv_X8_in 82 (by decide) sh82 ⟨_, _, rfl⟩ [.int y, .int 0, .int ((nI (ln t)) - 1)] rfl (rest := []) rfl (k_X8_in w _ _ y (0) ((nI (ln t)) - 1)) ⟨rfl, rfl, Nat.le_of_ble_eq_true rfl, Nat.le_of_ble_eq_true rfl⟩ (Nat.le_of_ble_eq_true rfl) dX8_item_33 (fun v_2 I_2 J_2 h_2 => ?_)
      obtain ⟨ev_2, ei_2, ej_2⟩ := h_2
      replace ei_2 := ei_2.symm; subst ei_2
      replace ej_2 := ej_2.symm; subst ej_2
      replace ev_2 := ev_2.trans (bI_c (in_n (n := (ln t)) (by omega))); subst ev_2
      refine z_ifne_b (tgt := 42) C dX8_item_36 (by decide) (fun c36 => ?_) (fun c36 => ?_)
      · skip
        obtain ⟨i, hi, rfl⟩ := c36
        refine z_aload_n C dX8_item_42 rfl 0 rfl ?_
        refine z_getr C ff_X8_183 82 (by decide) sh82 rfl dX8_item_43 ?_
        refine z_bipush C (v := 60) dX8_item_46 (by decide) ?_
        refine z_iload_n C dX8_item_48 rfl 1 rfl ?_
        refine z_imul C dX8_item_49 ?_
        refine z_ti (y := nI (60 * t)) (pk_mul 60 t) ?_
        refine z_iload_n C dX8_item_50 rfl 2 rfl ?_
        refine z_iadd C dX8_item_51 ?_
        refine z_ti (y := nI (60 * t + i)) (nI_add (60 * t) i) ?_
        refine z_aload_n C dX8_item_52 rfl 0 rfl ?_
        refine z_aload_n C dX8_item_53 rfl 0 rfl ?_
        refine z_getr C ff_X8_177 82 (by decide) sh82 rfl dX8_item_54 ?_
        refine z_iload_n C dX8_item_57 rfl 1 rfl ?_
        refine z_iald C 119 (by decide) sh119 t (by omega) (by decide) rfl (v := so t) hT1 dX8_item_58 ?_
        refine z_lload_n C dX8_item_59 rfl 3 rfl ?_
        refine z_callVl C hm cl_X8_367 cv_X8_narrow 82 (by decide) sh82 ⟨_, _, rfl⟩ [.int (so t), .long q] rfl (rest := [.int (nI (60 * t + i)), .ref (zad w 121)]) rfl (k_X8_narrow w _ _  (so t) q (is_05 hT4 c16)) ⟨rfl, rfl, Nat.le_of_ble_eq_true rfl, Nat.le_of_ble_eq_true rfl⟩ (Nat.le_of_ble_eq_true rfl) dX8_item_60 (fun v_3 I_3 J_3 h_3 => ?_)
        obtain ⟨ev_3, ei_3, ej_3⟩ := h_3
        replace ev_3 := ev_3.symm; subst ev_3
        replace ei_3 := ei_3.symm; subst ei_3
        replace ej_3 := ej_3.symm; subst ej_3
        refine z_last C 121 (by decide) sh121 (60 * t + i) (by omega) (by decide) rfl dX8_item_63 ?_
        refine z_J (J' := zupJ J 121 (vp_updL (J 121) (60 * t + i) (zcut (so t) q))) rfl ?_
        refine z_iconst C (v := 1) dX8_item_64 (by decide) ?_
        refine z_iret C hr rfl dX8_item_65 ?_
        refine ⟨_, rfl, ?_⟩
        exact Or.inr ⟨t, ht, rfl, Or.inr ⟨hsn, Or.inr ⟨i, hi, rfl, rfl, rfl, rfl⟩⟩⟩
      · skip
        refine z_bipush C (v := -13) dX8_item_39 (by decide) ?_
        refine z_iret C hr rfl dX8_item_41 ?_
        refine ⟨_, rfl, ?_⟩
        exact Or.inr ⟨t, ht, rfl, Or.inr ⟨hsn, Or.inl ⟨c36, rfl, rfl, rfl⟩⟩⟩
    · skip
      refine z_bipush C (v := -11) dX8_item_19 (by decide) ?_
      refine z_iret C hr rfl dX8_item_21 ?_
      refine ⟨_, rfl, ?_⟩
      exact Or.inr ⟨t, ht, rfl, Or.inl ⟨is_m1 hT4 (Int32.not_le.mp c16), rfl, rfl, rfl⟩⟩
  · skip
    refine z_iconst C (v := -1) dX8_item_8 (by decide) ?_
    refine z_iret C hr rfl dX8_item_9 ?_
    refine ⟨_, rfl, ?_⟩
    exact Or.inl ⟨c5, rfl, rfl, rfl⟩
abbrev rm_X8_read : Room := { frames := 6, cells := 0, slots := 0, locals := 244 }
set_option maxRecDepth 100000 in
set_option maxHeartbeats 4000000 in
theorem k_X8_read (w : zW) (I : zI) (J : zJ) (so : Nat → Int32) (ln : Nat → Nat) (it : Nat → Nat → Int64) (x : Int32) (y : Int32) (hTs : ∀ t, t < 6 → I 119 t = so t ∧ I 120 t = nI (ln t) ∧ ln t ≤ 60 ∧ (so t = -1 ∨ zin (so t) 5) ∧ (so t = -1 → ln t = 0)) (hIt : ∀ t i, t < 6 → i < 60 → J 121 (60 * t + i) = it t i) : zMet yX8_read cX8_read 3 (some .long) rm_X8_read w [.ref (zad w 82), .int x, .int y] I J (zpl (fun v I' J' => ((¬ zin x 6 ∧ v = -9223372036854775808) ∨ ∃ t, t < 6 ∧ x = nI t ∧ ((¬ zin y (ln t) ∧ v = -9223372036854775808) ∨ ∃ i, i < ln t ∧ y = nI i ∧ v = it t i)) ∧ I' = I ∧ J' = J)) := by
  refine zMet_of (by decide) (Nat.le_of_ble_eq_true rfl) (fun X C hm hr => ?_)
  refine z_sub (lv' := [(0, .ref (zad w 82)), (1, .int x), (2, .int y)]) [0, 1, 2] rfl ?_
  refine z_aload_n C dX8_read_0 rfl 0 rfl ?_
  refine z_iload_n C dX8_read_1 rfl 1 rfl ?_
  refine z_callVi C hm cl_X8_333 cv_X8_isTape 82 (by decide) sh82 ⟨_, _, rfl⟩ [.int x] rfl (rest := []) rfl (k_X8_isTape w _ _  x ) ⟨rfl, rfl, Nat.le_of_ble_eq_true rfl, Nat.le_of_ble_eq_true rfl⟩ (Nat.le_of_ble_eq_true rfl) dX8_read_2 (fun v_1 I_1 J_1 h_1 => ?_)
  obtain ⟨ev_1, ei_1, ej_1⟩ := h_1
  replace ev_1 := ev_1.symm; subst ev_1
  replace ei_1 := ei_1.symm; subst ei_1
  replace ej_1 := ej_1.symm; subst ej_1
  refine z_ifeq_b (tgt := 34) C dX8_read_5 (by decide) (fun c5 => ?_) (fun c5 => ?_)
  · skip
    refine z_ldc2 C (v := -9223372036854775808) kl_X8_313 dX8_read_34 ?_
    refine z_goto (tgt := 51) C dX8_read_37 (by decide) ?_
    refine z_lret C hr dX8_read_51 ?_
    refine ⟨_, rfl, ?_⟩
    exact ⟨Or.inl ⟨c5, rfl⟩, rfl, rfl⟩
  · skip
    obtain ⟨t, ht, rfl⟩ := c5
    obtain ⟨hT1, hT2, hl60, hT4, hT5⟩ := hTs t ht
    refine z_aload_n C dX8_read_8 rfl 0 rfl ?_
    refine z_getr C ff_X8_177 82 (by decide) sh82 rfl dX8_read_9 ?_
    refine z_iload_n C dX8_read_12 rfl 1 rfl ?_
    refine z_iald C 119 (by decide) sh119 t (by omega) (by decide) rfl (v := so t) hT1 dX8_read_13 ?_
    refine z_if_lt (tgt := 34) C dX8_read_14 (by decide) (fun c14 => ?_) (fun c14 => ?_)
    · skip
      refine z_ldc2 C (v := -9223372036854775808) kl_X8_313 dX8_read_34 ?_
      refine z_goto (tgt := 51) C dX8_read_37 (by decide) ?_
      refine z_lret C hr dX8_read_51 ?_
      refine ⟨_, rfl, ?_⟩
      exact ⟨Or.inr ⟨t, ht, rfl, Or.inl ⟨fun ⟨k, q1, _⟩ => by have := hT5 (is_m1 hT4 c14); omega, rfl⟩⟩, rfl, rfl⟩
    · skip
      refine z_aload_n C dX8_read_17 rfl 0 rfl ?_
      refine z_iload_n C dX8_read_18 rfl 2 rfl ?_
      refine z_iconst C (v := 0) dX8_read_19 (by decide) ?_
      refine z_aload_n C dX8_read_20 rfl 0 rfl ?_
      refine z_getr C ff_X8_180 82 (by decide) sh82 rfl dX8_read_21 ?_
      refine z_iload_n C dX8_read_24 rfl 1 rfl ?_
      refine z_iald C 120 (by decide) sh120 t (by omega) (by decide) rfl (v := nI (ln t)) hT2 dX8_read_25 ?_
      refine z_iconst C (v := 1) dX8_read_26 (by decide) ?_
      refine z_isub C dX8_read_27 ?_
      refine z_callVi C hm cl_X8_189 cv_X8_in 82 (by decide) sh82 ⟨_, _, rfl⟩ [.int y, .int 0, .int ((nI (ln t)) - 1)] rfl (rest := []) rfl (k_X8_in w _ _ y (0) ((nI (ln t)) - 1)) ⟨rfl, rfl, Nat.le_of_ble_eq_true rfl, Nat.le_of_ble_eq_true rfl⟩ (Nat.le_of_ble_eq_true rfl) dX8_read_28 (fun v_2 I_2 J_2 h_2 => ?_)
      obtain ⟨ev_2, ei_2, ej_2⟩ := h_2
      replace ei_2 := ei_2.symm; subst ei_2
      replace ej_2 := ej_2.symm; subst ej_2
      replace ev_2 := ev_2.trans (bI_c (in_n (n := (ln t)) (by omega))); subst ev_2
      refine z_ifne_b (tgt := 40) C dX8_read_31 (by decide) (fun c31 => ?_) (fun c31 => ?_)
      · skip
        obtain ⟨i, hi, rfl⟩ := c31
        refine z_aload_n C dX8_read_40 rfl 0 rfl ?_
        refine z_getr C ff_X8_183 82 (by decide) sh82 rfl dX8_read_41 ?_
        refine z_bipush C (v := 60) dX8_read_44 (by decide) ?_
        refine z_iload_n C dX8_read_46 rfl 1 rfl ?_
        refine z_imul C dX8_read_47 ?_
        refine z_ti (y := nI (60 * t)) (pk_mul 60 t) ?_
        refine z_iload_n C dX8_read_48 rfl 2 rfl ?_
        refine z_iadd C dX8_read_49 ?_
        refine z_ti (y := nI (60 * t + i)) (nI_add (60 * t) i) ?_
        refine z_lald C 121 (by decide) sh121 (60 * t + i) (by omega) (by decide) rfl (v := it t i) (hIt t i ht (by omega)) dX8_read_50 ?_
        refine z_lret C hr dX8_read_51 ?_
        refine ⟨_, rfl, ?_⟩
        exact ⟨Or.inr ⟨t, ht, rfl, Or.inr ⟨i, hi, rfl, rfl⟩⟩, rfl, rfl⟩
      · skip
        refine z_ldc2 C (v := -9223372036854775808) kl_X8_313 dX8_read_34 ?_
        refine z_goto (tgt := 51) C dX8_read_37 (by decide) ?_
        refine z_lret C hr dX8_read_51 ?_
        refine ⟨_, rfl, ?_⟩
        exact ⟨Or.inr ⟨t, ht, rfl, Or.inl ⟨c31, rfl⟩⟩, rfl, rfl⟩
abbrev rm_X8_shift : Room := { frames := 6, cells := 0, slots := 0, locals := 244 }
set_option maxRecDepth 100000 in
set_option maxHeartbeats 4000000 in
theorem k_X8_shift (w : zW) (I : zI) (J : zJ) (so : Nat → Int32) (ln : Nat → Nat) (it : Nat → Nat → Int64) (x : Int32) (y : Int32) (z : Int32) (u : Int32) (q : Int32) (hTs : ∀ t, t < 6 → I 119 t = so t ∧ I 120 t = nI (ln t) ∧ ln t ≤ 60 ∧ (so t = -1 ∨ zin (so t) 5) ∧ (so t = -1 → ln t = 0)) : zMet yX8_shift cX8_shift 7 (some .int) rm_X8_shift w [.ref (zad w 82), .int x, .int y, .int z, .int u, .int q] I J (zpi (fun v I' J' => ((¬ zin x 6 ∨ ¬ zin z 6) ∧ v = -1 ∧ I' = I ∧ J' = J) ∨ ∃ t, t < 6 ∧ x = nI t ∧ ∃ o, o < 6 ∧ z = nI o ∧ (((so t = -1 ∨ so o = -1) ∧ v = -11 ∧ I' = I ∧ J' = J) ∨ (so t ≠ -1 ∧ so o ≠ -1 ∧ ((so t ≠ so o ∧ v = -12 ∧ I' = I ∧ J' = J) ∨ (so t = so o ∧ ((¬ ((∃ k m : Nat, y = nI k ∧ q = nI m ∧ k + m ≤ ln t) ∧ (∃ k m : Nat, u = nI k ∧ q = nI m ∧ k + m ≤ ln o)) ∧ v = -13 ∧ I' = I ∧ J' = J) ∨ ∃ k k2 m : Nat, y = nI k ∧ u = nI k2 ∧ q = nI m ∧ k + m ≤ ln t ∧ k2 + m ≤ ln o ∧ v = nI m ∧ I' = I ∧ ∃ X2, J' = zupJ (zupJ J 122 X2) 121 (va_cpy (J 121) (J 121) (60 * t + k) (60 * o + k2) m)))))))) := by
  refine zMet_of (by decide) (Nat.le_of_ble_eq_true rfl) (fun X C hm hr => ?_)
  refine z_sub (lv' := [(0, .ref (zad w 82)), (1, .int x), (2, .int y), (3, .int z), (4, .int u), (5, .int q)]) [0, 1, 2, 3, 4, 5] rfl ?_
  refine z_aload_n C dX8_shift_0 rfl 0 rfl ?_
  refine z_iload_n C dX8_shift_1 rfl 1 rfl ?_
  refine z_callVi C hm cl_X8_333 cv_X8_isTape 82 (by decide) sh82 ⟨_, _, rfl⟩ [.int x] rfl (rest := []) rfl (k_X8_isTape w _ _  x ) ⟨rfl, rfl, Nat.le_of_ble_eq_true rfl, Nat.le_of_ble_eq_true rfl⟩ (Nat.le_of_ble_eq_true rfl) dX8_shift_2 (fun v_1 I_1 J_1 h_1 => ?_)
  obtain ⟨ev_1, ei_1, ej_1⟩ := h_1
  replace ev_1 := ev_1.symm; subst ev_1
  replace ei_1 := ei_1.symm; subst ei_1
  replace ej_1 := ej_1.symm; subst ej_1
  refine z_ifeq_b (tgt := 16) C dX8_shift_5 (by decide) (fun c5 => ?_) (fun c5 => ?_)
  · skip
    refine z_iconst C (v := -1) dX8_shift_16 (by decide) ?_
    refine z_iret C hr rfl dX8_shift_17 ?_
    refine ⟨_, rfl, ?_⟩
    exact Or.inl ⟨Or.inl c5, rfl, rfl, rfl⟩
  · skip
    obtain ⟨t, ht, rfl⟩ := c5
    obtain ⟨hT1, hT2, hl60, hT4, hT5⟩ := hTs t ht
    refine z_aload_n C dX8_shift_8 rfl 0 rfl ?_
    refine z_iload_n C dX8_shift_9 rfl 3 rfl ?_
    refine z_callVi C hm cl_X8_333 cv_X8_isTape 82 (by decide) sh82 ⟨_, _, rfl⟩ [.int z] rfl (rest := []) rfl (k_X8_isTape w _ _  z ) ⟨rfl, rfl, Nat.le_of_ble_eq_true rfl, Nat.le_of_ble_eq_true rfl⟩ (Nat.le_of_ble_eq_true rfl) dX8_shift_10 (fun v_2 I_2 J_2 h_2 => ?_)
    obtain ⟨ev_2, ei_2, ej_2⟩ := h_2
    replace ev_2 := ev_2.symm; subst ev_2
    replace ei_2 := ei_2.symm; subst ei_2
    replace ej_2 := ej_2.symm; subst ej_2
    refine z_ifne_b (tgt := 18) C dX8_shift_13 (by decide) (fun c13 => ?_) (fun c13 => ?_)
    · skip
      obtain ⟨o, ho, rfl⟩ := c13
      obtain ⟨hO1, hO2, hm60, hO4, hO5⟩ := hTs o ho
      refine z_aload_n C dX8_shift_18 rfl 0 rfl ?_
      refine z_getr C ff_X8_177 82 (by decide) sh82 rfl dX8_shift_19 ?_
      refine z_iload_n C dX8_shift_22 rfl 1 rfl ?_
      refine z_iald C 119 (by decide) sh119 t (by omega) (by decide) rfl (v := so t) hT1 dX8_shift_23 ?_
      refine z_if_lt (tgt := 36) C dX8_shift_24 (by decide) (fun c24 => ?_) (fun c24 => ?_)
      · skip
        refine z_bipush C (v := -11) dX8_shift_36 (by decide) ?_
        refine z_iret C hr rfl dX8_shift_38 ?_
        refine ⟨_, rfl, ?_⟩
        exact Or.inr ⟨t, ht, rfl, o, ho, rfl, Or.inl ⟨Or.inl (is_m1 hT4 c24), rfl, rfl, rfl⟩⟩
      · skip
        have hsn : so t ≠ -1 := fun q => by rw [q] at c24; exact absurd c24 (by decide)
        refine z_aload_n C dX8_shift_27 rfl 0 rfl ?_
        refine z_getr C ff_X8_177 82 (by decide) sh82 rfl dX8_shift_28 ?_
        refine z_iload_n C dX8_shift_31 rfl 3 rfl ?_
        refine z_iald C 119 (by decide) sh119 o (by omega) (by decide) rfl (v := so o) hO1 dX8_shift_32 ?_
        refine z_if_ge (tgt := 39) C dX8_shift_33 (by decide) (fun c33 => ?_) (fun c33 => ?_)
        · skip
          have hon : so o ≠ -1 := fun q => by rw [q] at c33; exact absurd c33 (by decide)
          refine z_aload_n C dX8_shift_39 rfl 0 rfl ?_
          refine z_getr C ff_X8_177 82 (by decide) sh82 rfl dX8_shift_40 ?_
          refine z_iload_n C dX8_shift_43 rfl 1 rfl ?_
          refine z_iald C 119 (by decide) sh119 t (by omega) (by decide) rfl (v := so t) hT1 dX8_shift_44 ?_
          refine z_aload_n C dX8_shift_45 rfl 0 rfl ?_
          refine z_getr C ff_X8_177 82 (by decide) sh82 rfl dX8_shift_46 ?_
          refine z_iload_n C dX8_shift_49 rfl 3 rfl ?_
          refine z_iald C 119 (by decide) sh119 o (by omega) (by decide) rfl (v := so o) hO1 dX8_shift_50 ?_
          refine z_icmp_eq (tgt := 57) C dX8_shift_51 (by decide) (fun c51 => ?_) (fun c51 => ?_)
          · skip
            refine z_iload C dX8_shift_57 5 rfl ?_
            refine z_if_lt (tgt := 98) C dX8_shift_59 (by decide) (fun c59 => ?_) (fun c59 => ?_)
            · skip
              refine z_bipush C (v := -13) dX8_shift_98 (by decide) ?_
              refine z_iret C hr rfl dX8_shift_100 ?_
              refine ⟨_, rfl, ?_⟩
              exact Or.inr ⟨t, ht, rfl, o, ho, rfl, Or.inr ⟨hsn, hon, Or.inr ⟨c51, Or.inl ⟨fun ⟨⟨_, m2, _, e2, _⟩, _⟩ => nI_pos (show m2 < 2 ^ 31 by omega) (e2 ▸ c59), rfl, rfl, rfl⟩⟩⟩⟩
            · skip
              obtain ⟨m, hm31, rfl⟩ := nI_of c59
              refine z_iload_n C dX8_shift_62 rfl 2 rfl ?_
              refine z_if_lt (tgt := 98) C dX8_shift_63 (by decide) (fun c63 => ?_) (fun c63 => ?_)
              · skip
                refine z_bipush C (v := -13) dX8_shift_98 (by decide) ?_
                refine z_iret C hr rfl dX8_shift_100 ?_
                refine ⟨_, rfl, ?_⟩
                exact Or.inr ⟨t, ht, rfl, o, ho, rfl, Or.inr ⟨hsn, hon, Or.inr ⟨c51, Or.inl ⟨fun ⟨⟨k2, m2, e1, _, _⟩, _⟩ => nI_pos (show k2 < 2 ^ 31 by omega) (e1 ▸ c63), rfl, rfl, rfl⟩⟩⟩⟩
              · skip
                obtain ⟨k, hk31, rfl⟩ := nI_of c63
                refine z_iload C dX8_shift_66 4 rfl ?_
                refine z_if_lt (tgt := 98) C dX8_shift_68 (by decide) (fun c68 => ?_) (fun c68 => ?_)
                · skip
                  refine z_bipush C (v := -13) dX8_shift_98 (by decide) ?_
                  refine z_iret C hr rfl dX8_shift_100 ?_
                  refine ⟨_, rfl, ?_⟩
                  exact Or.inr ⟨t, ht, rfl, o, ho, rfl, Or.inr ⟨hsn, hon, Or.inr ⟨c51, Or.inl ⟨fun ⟨_, ⟨k2, m2, e1, _, _⟩⟩ => nI_pos (show k2 < 2 ^ 31 by omega) (e1 ▸ c68), rfl, rfl, rfl⟩⟩⟩⟩
                · skip
                  obtain ⟨k2, hj31, rfl⟩ := nI_of c68
                  refine z_iload_n C dX8_shift_71 rfl 2 rfl ?_
                  refine z_aload_n C dX8_shift_72 rfl 0 rfl ?_
                  refine z_getr C ff_X8_180 82 (by decide) sh82 rfl dX8_shift_73 ?_
                  refine z_iload_n C dX8_shift_76 rfl 1 rfl ?_
                  refine z_iald C 120 (by decide) sh120 t (by omega) (by decide) rfl (v := nI (ln t)) hT2 dX8_shift_77 ?_
                  refine z_iload C dX8_shift_78 5 rfl ?_
                  refine z_isub C dX8_shift_80 ?_
                  refine z_icmp_gt (tgt := 98) C dX8_shift_81 (by decide) (fun c81 => ?_) (fun c81 => ?_)
                  · skip
                    replace c81 : ¬ nI k ≤ nI (ln t) - nI m := Int32.not_le.mpr c81
                    refine z_bipush C (v := -13) dX8_shift_98 (by decide) ?_
                    refine z_iret C hr rfl dX8_shift_100 ?_
                    refine ⟨_, rfl, ?_⟩
                    exact Or.inr ⟨t, ht, rfl, o, ho, rfl, Or.inr ⟨hsn, hon, Or.inr ⟨c51, Or.inl ⟨fun ⟨⟨k2, m2, e1, e2, e3⟩, _⟩ => c81 ((le_sub hk31 hl60 hm31).mpr (by
                        have := (nI_eq hk31 (by omega)).mp e1
                        have := (nI_eq hm31 (by omega)).mp e2
                        omega)), rfl, rfl, rfl⟩⟩⟩⟩
                  · skip
                    have hkm := (le_sub hk31 hl60 hm31).mp (Int32.not_lt.mp c81)
                    refine z_iload C dX8_shift_84 4 rfl ?_
                    refine z_aload_n C dX8_shift_86 rfl 0 rfl ?_
                    refine z_getr C ff_X8_180 82 (by decide) sh82 rfl dX8_shift_87 ?_
                    refine z_iload_n C dX8_shift_90 rfl 3 rfl ?_
                    refine z_iald C 120 (by decide) sh120 o (by omega) (by decide) rfl (v := nI (ln o)) hO2 dX8_shift_91 ?_
                    refine z_iload C dX8_shift_92 5 rfl ?_
                    refine z_isub C dX8_shift_94 ?_
                    refine z_icmp_le (tgt := 101) C dX8_shift_95 (by decide) (fun c95 => ?_) (fun c95 => ?_)
                    · skip
                      have hk2m := (le_sub hj31 hm60 hm31).mp c95
                      refine z_iconst C (v := 0) dX8_shift_101 (by decide) ?_
                      refine z_istore C hm (lv' := [(6, .int 0), (0, .ref (zad w 82)), (1, .int (nI t)), (2, .int (nI k)), (3, .int (nI o)), (4, .int (nI k2)), (5, .int (nI m))]) dX8_shift_102 (by decide) rfl ?_
                      have L104 : ∀ (d : Nat) (c : Nat) (X2 : Nat → Int64) (v104_6 : Int32) (J104 : zJ), (m - c) < d → (c ≤ m) → (∀ j, j < c → X2 j = J 121 (60 * t + k + j)) → v104_6 = nI c → J104 = zupJ J 122 X2 → Z X w I J104 104 [(0, .ref (zad w 82)), (1, .int (nI t)), (2, .int (nI k)), (3, .int (nI o)), (4, .int (nI k2)), (5, .int (nI m)), (6, .int v104_6)] [] := by
                        intro d
                        induction d with
                        | zero => intro c X2 v104_6 J104 hd; exact absurd hd (Nat.not_lt_zero _)
                        | succ d ih104 => 
                          intro c X2 v104_6 J104 hd104 hc hX e_v104_6 e_J104
                          replace e_v104_6 := e_v104_6.symm; subst e_v104_6
                          replace e_J104 := e_J104.symm; subst e_J104
                          refine z_iload C dX8_shift_104 6 rfl ?_
                          refine z_iload C dX8_shift_106 5 rfl ?_
                          refine z_icmp_ge_n c m (tgt := 138) C rfl rfl (by omega) (by omega) dX8_shift_108 (by decide) (fun c108 => ?_) (fun c108 => ?_)
                          · skip
                            refine z_iconst C (v := 0) dX8_shift_138 (by decide) ?_
                            refine z_istore C hm (lv' := [(6, .int 0), (0, .ref (zad w 82)), (1, .int (nI t)), (2, .int (nI k)), (3, .int (nI o)), (4, .int (nI k2)), (5, .int (nI m))]) dX8_shift_139 (by decide) rfl ?_
                            have L141 : ∀ (d : Nat) (c : Nat) (v141_6 : Int32) (J141 : zJ), (m - c) < d → (c ≤ m) → v141_6 = nI c → J141 = zupJ (zupJ J 122 X2) 121 (va_cpy (J 121) (J 121) (60 * t + k) (60 * o + k2) c) → Z X w I J141 141 [(0, .ref (zad w 82)), (1, .int (nI t)), (2, .int (nI k)), (3, .int (nI o)), (4, .int (nI k2)), (5, .int (nI m)), (6, .int v141_6)] [] := by
                              intro d
                              induction d with
                              | zero => intro c v141_6 J141 hd; exact absurd hd (Nat.not_lt_zero _)
                              | succ d ih141 => 
                                intro c v141_6 J141 hd141 hc2 e_v141_6 e_J141
                                replace e_v141_6 := e_v141_6.symm; subst e_v141_6
                                replace e_J141 := e_J141.symm; subst e_J141
                                refine z_iload C dX8_shift_141 6 rfl ?_
                                refine z_iload C dX8_shift_143 5 rfl ?_
                                refine z_icmp_ge_n c m (tgt := 176) C rfl rfl (by omega) (by omega) dX8_shift_145 (by decide) (fun c145 => ?_) (fun c145 => ?_)
                                · skip
                                  have hcm : c = m := by omega
                                  refine z_iload C dX8_shift_176 5 rfl ?_
                                  refine z_iret C hr rfl dX8_shift_178 ?_
                                  refine ⟨_, rfl, ?_⟩
                                  exact Or.inr ⟨t, ht, rfl, o, ho, rfl, Or.inr ⟨hsn, hon, Or.inr ⟨c51, Or.inr ⟨k, k2, m, rfl, rfl, rfl, hkm, hk2m, rfl, rfl, _, by rw [hcm]⟩⟩⟩⟩
                                · skip
                                  refine z_aload_n C dX8_shift_148 rfl 0 rfl ?_
                                  refine z_getr C ff_X8_183 82 (by decide) sh82 rfl dX8_shift_149 ?_
                                  refine z_bipush C (v := 60) dX8_shift_152 (by decide) ?_
                                  refine z_iload_n C dX8_shift_154 rfl 3 rfl ?_
                                  refine z_imul C dX8_shift_155 ?_
                                  refine z_ti (y := nI (60 * o)) (pk_mul 60 o) ?_
                                  refine z_iload C dX8_shift_156 4 rfl ?_
                                  refine z_iadd C dX8_shift_158 ?_
                                  refine z_ti (y := nI (60 * o + k2)) (nI_add (60 * o) k2) ?_
                                  refine z_iload C dX8_shift_159 6 rfl ?_
                                  refine z_iadd C dX8_shift_161 ?_
                                  refine z_ti (y := nI (60 * o + k2 + c)) (nI_add (60 * o + k2) c) ?_
                                  refine z_aload_n C dX8_shift_162 rfl 0 rfl ?_
                                  refine z_getr C ff_X8_186 82 (by decide) sh82 rfl dX8_shift_163 ?_
                                  refine z_iload C dX8_shift_166 6 rfl ?_
                                  refine z_lald C 122 (by decide) sh122 c (by omega) (by decide) rfl (v := J 121 (60 * t + k + c)) (by first | exact (hX c (by omega)) | (simp [zup, zupJ, upd, vp_updL]; exact (hX c (by omega)))) dX8_shift_168 ?_
                                  refine z_last C 121 (by decide) sh121 (60 * o + k2 + c) (by omega) (by decide) rfl dX8_shift_169 ?_
                                  refine z_J (J' := zupJ (zupJ J 122 X2) 121 (vp_updL (va_cpy (J 121) (J 121) (60 * t + k) (60 * o + k2) c) (60 * o + k2 + c) (J 121 (60 * t + k + c)))) (by rw [zupJ_s, zupJ_up]) ?_
                                  refine z_iinc C hm 6 (v := nI (c + 1)) (lv' := [(6, .int (nI (c + 1))), (0, .ref (zad w 82)), (1, .int (nI t)), (2, .int (nI k)), (3, .int (nI o)), (4, .int (nI k2)), (5, .int (nI m))]) dX8_shift_170 rfl (nI_add c 1) (by decide) rfl ?_
                                  refine z_goto (tgt := 141) C dX8_shift_173 (by decide) ?_
                                  exact z_sub [1, 2, 3, 4, 5, 6, 0] rfl (ih141  (c + 1) _ _ (by omega) (by omega) rfl (by rw [← va_cpy_s]))
                            exact z_sub [1, 2, 3, 4, 5, 6, 0] rfl (L141 _ 0 _ _ (Nat.lt_succ_self _) (Nat.zero_le _) rfl (by rw [va_cpy_0]; funext zk; by_cases h1 : zk = 121 <;> by_cases h2 : zk = 122 <;> simp [zupJ, h1, h2]))
                          · skip
                            refine z_aload_n C dX8_shift_111 rfl 0 rfl ?_
                            refine z_getr C ff_X8_186 82 (by decide) sh82 rfl dX8_shift_112 ?_
                            refine z_iload C dX8_shift_115 6 rfl ?_
                            refine z_aload_n C dX8_shift_117 rfl 0 rfl ?_
                            refine z_getr C ff_X8_183 82 (by decide) sh82 rfl dX8_shift_118 ?_
                            refine z_bipush C (v := 60) dX8_shift_121 (by decide) ?_
                            refine z_iload_n C dX8_shift_123 rfl 1 rfl ?_
                            refine z_imul C dX8_shift_124 ?_
                            refine z_ti (y := nI (60 * t)) (pk_mul 60 t) ?_
                            refine z_iload_n C dX8_shift_125 rfl 2 rfl ?_
                            refine z_iadd C dX8_shift_126 ?_
                            refine z_ti (y := nI (60 * t + k)) (nI_add (60 * t) k) ?_
                            refine z_iload C dX8_shift_127 6 rfl ?_
                            refine z_iadd C dX8_shift_129 ?_
                            refine z_ti (y := nI (60 * t + k + c)) (nI_add (60 * t + k) c) ?_
                            refine z_lald C 121 (by decide) sh121 (60 * t + k + c) (by omega) (by decide) rfl (v := J 121 (60 * t + k + c)) (by first | rfl | (simp [zup, zupJ, upd, vp_updL]; done)) dX8_shift_130 ?_
                            refine z_last C 122 (by decide) sh122 c (by omega) (by decide) rfl dX8_shift_131 ?_
                            refine z_J (J' := zupJ J 122 (vp_updL X2 c (J 121 (60 * t + k + c)))) (by rw [zupJ_s, zupJ_up]) ?_
                            refine z_iinc C hm 6 (v := nI (c + 1)) (lv' := [(6, .int (nI (c + 1))), (0, .ref (zad w 82)), (1, .int (nI t)), (2, .int (nI k)), (3, .int (nI o)), (4, .int (nI k2)), (5, .int (nI m))]) dX8_shift_132 rfl (nI_add c 1) (by decide) rfl ?_
                            refine z_goto (tgt := 104) C dX8_shift_135 (by decide) ?_
                            exact z_sub [1, 2, 3, 4, 5, 6, 0] rfl (ih104  (c + 1) (vp_updL X2 c (J 121 (60 * t + k + c))) _ _ (by omega) (by omega) (fun j hj => by
                                by_cases z : j = c
                                · rw [z]; exact pk_uLs
                                · rw [pk_uLn z]; exact hX j (by omega)) rfl rfl)
                      exact z_sub [1, 2, 3, 4, 5, 6, 0] rfl (L104 _ 0 (J 122) _ _ (Nat.lt_succ_self _) (Nat.zero_le _) (fun _ h0 => absurd h0 (Nat.not_lt_zero _)) rfl (zupJ_id).symm)
                    · skip
                      refine z_bipush C (v := -13) dX8_shift_98 (by decide) ?_
                      refine z_iret C hr rfl dX8_shift_100 ?_
                      refine ⟨_, rfl, ?_⟩
                      exact Or.inr ⟨t, ht, rfl, o, ho, rfl, Or.inr ⟨hsn, hon, Or.inr ⟨c51, Or.inl ⟨fun ⟨_, ⟨k3, m3, e1, e2, e3⟩⟩ => c95 ((le_sub hj31 hm60 hm31).mpr (by
                          have := (nI_eq hj31 (by omega)).mp e1
                          have := (nI_eq hm31 (by omega)).mp e2
                          omega)), rfl, rfl, rfl⟩⟩⟩⟩
          · skip
            refine z_bipush C (v := -12) dX8_shift_54 (by decide) ?_
            refine z_iret C hr rfl dX8_shift_56 ?_
            refine ⟨_, rfl, ?_⟩
            exact Or.inr ⟨t, ht, rfl, o, ho, rfl, Or.inr ⟨hsn, hon, Or.inl ⟨c51, rfl, rfl, rfl⟩⟩⟩
        · skip
          refine z_bipush C (v := -11) dX8_shift_36 (by decide) ?_
          refine z_iret C hr rfl dX8_shift_38 ?_
          refine ⟨_, rfl, ?_⟩
          exact Or.inr ⟨t, ht, rfl, o, ho, rfl, Or.inl ⟨Or.inr (is_m1 hO4 (Int32.not_le.mp c33)), rfl, rfl, rfl⟩⟩
    · skip
      refine z_iconst C (v := -1) dX8_shift_16 (by decide) ?_
      refine z_iret C hr rfl dX8_shift_17 ?_
      refine ⟨_, rfl, ?_⟩
      exact Or.inl ⟨Or.inr c13, rfl, rfl, rfl⟩
abbrev rm_X8_feed : Room := { frames := 5, cells := 0, slots := 0, locals := 223 }
set_option maxRecDepth 100000 in
set_option maxHeartbeats 4000000 in
theorem k_X8_feed (w : zW) (I : zI) (J : zJ) (L : Nat) (x : Int32) (wn : Int32) (hL : I 82 6 = nI L) (hl : L ≤ 100) : zMet yX8_feed cX8_feed 4 (some .int) rm_X8_feed w [.ref (zad w 82), .int x, .int wn] I J (zpi (fun v I' J' => J' = J ∧ ((¬ zin wn 5 ∧ v = -2 ∧ I' = I) ∨ ∃ k, k < 5 ∧ wn = nI k ∧ ((100 < L + k ∧ v = -4 ∧ I' = I) ∨ (L + k ≤ 100 ∧ v = nI (L + k) ∧ ∃ R, I' = zup (zup I 86 R) 82 (upd (I 82) 6 (nI (L + k))) ∧ (∀ j, j < L → R j = I 86 j) ∧ ∀ q, q < k → R (L + q) = zbm x (k - 1 - q)))))) := by
  refine zMet_of (by decide) (Nat.le_of_ble_eq_true rfl) (fun X C hm hr => ?_)
  refine z_sub (lv' := [(0, .ref (zad w 82)), (1, .int x), (2, .int wn)]) [0, 1, 2] rfl ?_
  refine z_aload_n C dX8_feed_0 rfl 0 rfl ?_
  refine z_iload_n C dX8_feed_1 rfl 2 rfl ?_
  refine z_iconst C (v := 0) dX8_feed_2 (by decide) ?_
  refine z_iconst C (v := 4) dX8_feed_3 (by decide) ?_
  refine z_callVi C hm cl_X8_189 cv_X8_in 82 (by decide) sh82 ⟨_, _, rfl⟩ [.int wn, .int 0, .int 4] rfl (rest := []) rfl (k_X8_in w _ _ wn (0) (4)) ⟨rfl, rfl, Nat.le_of_ble_eq_true rfl, Nat.le_of_ble_eq_true rfl⟩ (Nat.le_of_ble_eq_true rfl) dX8_feed_4 (fun v_1 I_1 J_1 h_1 => ?_)
  obtain ⟨ev_1, ei_1, ej_1⟩ := h_1
  replace ei_1 := ei_1.symm; subst ei_1
  replace ej_1 := ej_1.symm; subst ej_1
  replace ev_1 := ev_1.trans (bI_c (in_z (m := 4) (by decide))); subst ev_1
  refine z_ifne_b (tgt := 13) C dX8_feed_7 (by decide) (fun c7 => ?_) (fun c7 => ?_)
  · skip
    obtain ⟨k, hk, rfl⟩ := c7
    refine z_aload_n C dX8_feed_13 rfl 0 rfl ?_
    refine z_geti C ff_X8_29 82 (by decide) sh82 rfl (v := nI L) hL dX8_feed_14 ?_
    refine z_iload_n C dX8_feed_17 rfl 2 rfl ?_
    refine z_iadd C dX8_feed_18 ?_
    refine z_ti (y := nI (L + k)) (nI_add L k) ?_
    refine z_bipush C (v := 100) dX8_feed_19 (by decide) ?_
    refine z_icmp_le_n (L + k) 100 (tgt := 27) C rfl rfl (by omega) (by omega) dX8_feed_21 (by decide) (fun c21 => ?_) (fun c21 => ?_)
    · skip
      refine z_iload_n C dX8_feed_27 rfl 2 rfl ?_
      refine z_iconst C (v := 1) dX8_feed_28 (by decide) ?_
      refine z_isub C dX8_feed_29 ?_
      refine z_istore_n C hm (lv' := [(3, .int ((nI k) - 1)), (0, .ref (zad w 82)), (1, .int x), (2, .int (nI k))]) dX8_feed_30 rfl (by decide) rfl ?_
      have L31 : ∀ (d : Nat) (m : Nat) (R : Nat → Int32) (v31_3 : Int32) (I31 : zI), m < d → (m ≤ k) → (∀ j, j < L → R j = I 86 j) → (∀ q, q < k - m → R (L + q) = zbm x (k - 1 - q)) → v31_3 = nI m + Int32.ofInt (-1) → I31 = zup (zup I 86 R) 82 (upd (I 82) 6 (nI (L + (k - m)))) → Z X w I31 J 31 [(0, .ref (zad w 82)), (1, .int x), (2, .int (nI k)), (3, .int v31_3)] [] := by
        intro d
        induction d with
        | zero => intro m R v31_3 I31 hd; exact absurd hd (Nat.not_lt_zero _)
        | succ d ih31 => 
          intro m R v31_3 I31 hd31 hm2 hR1 hR2 e_v31_3 e_I31
          replace e_v31_3 := e_v31_3.symm; subst e_v31_3
          replace e_I31 := e_I31.symm; subst e_I31
          refine z_iload_n C dX8_feed_31 rfl 3 rfl ?_
          refine z_if_lt (tgt := 67) C dX8_feed_32 (by decide) (fun c32 => ?_) (fun c32 => ?_)
          · skip
            have hm0 : m = 0 := by
              cases m with
              | zero => rfl
              | succ j => exact absurd c32 (by rw [pm1]; exact nI_pos (by omega))
            rw [hm0, Nat.sub_zero]
            rw [hm0, Nat.sub_zero] at hR2
            refine z_aload_n C dX8_feed_67 rfl 0 rfl ?_
            refine z_geti C ff_X8_29 82 (by decide) sh82 rfl (v := nI (L + k)) (by first | exact rfl | (simp [zup, zupJ, upd, vp_updL]; exact rfl)) dX8_feed_68 ?_
            refine z_iret C hr rfl dX8_feed_71 ?_
            refine ⟨_, rfl, ?_⟩
            exact ⟨rfl, Or.inr ⟨k, hk, rfl, Or.inr ⟨by omega, rfl, R, rfl, hR1, hR2⟩⟩⟩
          · skip
            obtain ⟨j, rfl⟩ : ∃ j, m = j + 1 := by
              cases m with
              | zero => exact absurd pm1_0 c32
              | succ j => exact ⟨j, rfl⟩
            rw [pm1]
            refine z_aload_n C dX8_feed_35 rfl 0 rfl ?_
            refine z_getr C ff_X8_38 82 (by decide) sh82 rfl dX8_feed_36 ?_
            refine z_aload_n C dX8_feed_39 rfl 0 rfl ?_
            refine z_geti C ff_X8_29 82 (by decide) sh82 rfl (v := nI (L + (k - (j + 1)))) (by first | exact rfl | (simp [zup, zupJ, upd, vp_updL]; exact rfl)) dX8_feed_40 ?_
            refine z_iload_n C dX8_feed_43 rfl 1 rfl ?_
            refine z_bipush C (v := 8) dX8_feed_44 (by decide) ?_
            refine z_iload_n C dX8_feed_46 rfl 3 rfl ?_
            refine z_imul C dX8_feed_47 ?_
            refine z_ti (y := nI (8 * j)) (pk_mul 8 j) ?_
            refine z_ishr C dX8_feed_48 ?_
            refine z_i2b C (v := (x >>> ((nI (8 * j)) &&& 31)).toInt8.toInt32) dX8_feed_49 rfl ?_
            refine z_ti (y := zbm x j) rfl ?_
            refine z_iast C 86 (by decide) sh86 (L + (k - (j + 1))) (by omega) (by decide) rfl dX8_feed_50 ?_
            refine z_I (I' := zup (zup I 86 (upd R (L + (k - (j + 1))) (zbm x j))) 82 (upd (I 82) 6 (nI (L + (k - (j + 1)))))) (by funext zk; simp only [zup]; split <;> simp_all [zup]) ?_
            refine z_aload_n C dX8_feed_51 rfl 0 rfl ?_
            refine z_dup C dX8_feed_52 rfl ?_
            refine z_geti C ff_X8_29 82 (by decide) sh82 rfl (v := nI (L + (k - (j + 1)))) (by first | exact rfl | (simp [zup, zupJ, upd, vp_updL]; exact rfl)) dX8_feed_53 ?_
            refine z_iconst C (v := 1) dX8_feed_56 (by decide) ?_
            refine z_iadd C dX8_feed_57 ?_
            refine z_ti (y := nI ((L + (k - (j + 1))) + 1)) (nI_add (L + (k - (j + 1))) 1) ?_
            refine z_puti C ff_X8_29 82 (by decide) sh82 rfl rfl rfl dX8_feed_58 ?_
            refine z_I (I' := zup (zup I 86 (upd R (L + (k - (j + 1))) (zbm x j))) 82 (upd (upd (I 82) 6 (nI (L + (k - (j + 1))))) 6 (nI ((L + (k - (j + 1))) + 1)))) (by rw [zup_s, zup_up]) ?_
            refine z_iinc C hm 3 (v := (nI j) + Int32.ofInt (-1)) (lv' := [(3, .int ((nI j) + Int32.ofInt (-1))), (0, .ref (zad w 82)), (1, .int x), (2, .int (nI k))]) dX8_feed_61 rfl rfl (by decide) rfl ?_
            refine z_goto (tgt := 31) C dX8_feed_64 (by decide) ?_
            exact z_sub [1, 2, 3, 0] rfl (ih31  j (upd R (L + (k - (j + 1))) (zbm x j)) _ _ (by omega) (by omega) (fun q hq => by rw [upd_n (by omega)]; exact hR1 q hq) (fun q hq => by
                by_cases z : q = k - (j + 1)
                · rw [z, upd_s]; congr 1; omega
                · rw [upd_n (by omega)]; exact hR2 q (by omega)) rfl (by rw [show k - j = k - (j + 1) + 1 by omega, upd_2]; rfl))
      exact z_sub [1, 2, 3, 0] rfl (L31 _ k (I 86) _ _ (Nat.lt_succ_self _) (Nat.le_refl _) (fun _ _ => rfl) (fun q hq => absurd hq (by omega)) (m1s _) (by rw [show k - k = 0 by omega, Nat.add_zero, ← hL, upd_id, zup_id, zup_id]))
    · skip
      refine z_bipush C (v := -4) dX8_feed_24 (by decide) ?_
      refine z_iret C hr rfl dX8_feed_26 ?_
      refine ⟨_, rfl, ?_⟩
      exact ⟨rfl, Or.inr ⟨k, hk, rfl, Or.inl ⟨by omega, rfl, rfl⟩⟩⟩
  · skip
    refine z_bipush C (v := -2) dX8_feed_10 (by decide) ?_
    refine z_iret C hr rfl dX8_feed_12 ?_
    refine ⟨_, rfl, ?_⟩
    exact ⟨rfl, Or.inl ⟨c7, rfl, rfl⟩⟩
