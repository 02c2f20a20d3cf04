/-! the reference: again, oddest -/
def frW (J' J : zJ) : Prop := ∀ k, k ≠ 82 → k ≠ 105 → J' k = J k
theorem frW_id {J : zJ} : frW J J := fun _ _ _ => rfl
theorem frW_u {J : zJ} {W O : Nat → Int64} : frW (zupJ (zupJ J 105 W) 82 O) J := fun k h1 h2 => by rw [zupJ_n h1, zupJ_n h2]
theorem lt_w {R : Nat → Int64} {a : Nat} {x : Int64} {f : Nat → Nat} (h : ∀ x, x < a → R x = lN (f x)) (hx : x = lN (f a)) : ∀ y, y < a + 1 → vp_updL R a x y = lN (f y) := fun y hy => by
  by_cases z : y = a
  · rw [z, hx]; exact pk_uLs
  · rw [pk_uLn z]; exact h y (by omega)
abbrev rm_X8_againOf : Room := { frames := 6, cells := 0, slots := 0, locals := 250 }
set_option maxRecDepth 100000 in
set_option maxHeartbeats 4000000 in
theorem k_X8_againOf (w : zW) (I : zI) (J : zJ) (n tr h : Nat) (A : List zCla) (jn lt : Nat → Int32) (hd : Nat → Option Nat) (bu ho lo fr : Nat → Nat) (a : Nat) (k : Nat) (hn : n ≤ 8) (htr : tr ≤ 16) (hh : h < 7) (hd99 : ∀ a k, hd a = some k → k ≤ 99) (hS : mS I n tr h A jn lt hd bu ho lo fr) (ha : a < n) (hk : k ≤ 9) : zMet yX8_againOf cX8_againOf 6 (some .long) rm_X8_againOf w [.ref (zad w 82), .int (nI a), .int (nI k)] I J (zpl (fun v I' J' => v = lN (zAb (fun f => aHab (nI a) (lt a) (nI f) A) (zDy bu fr a tr) k) ∧ frH I' I ∧ ∃ W O, J' = zupJ (zupJ J 105 W) 82 O ∧ O 34 = lN (100 ^ k))) := by
  refine zMet_of (by decide) (Nat.le_of_ble_eq_true rfl) (fun X C hm hr => ?_)
  refine z_sub (lv' := [(0, .ref (zad w 82)), (1, .int (nI a)), (2, .int (nI k))]) [0, 1, 2] rfl ?_
  obtain ⟨hN, hT, hM, hJn, hLt, hHd, hB, hO, hLo, hF⟩ := id hS
  have hbu8 : ∀ t, t < tr → I 101 t = nI (bu t) ∧ bu t < 8 := fun t ht => ⟨(hB t ht).1, by have := (hB t ht).2; omega⟩
  have hh100 : ∀ f, (fun f => aHab (nI a) (lt a) (nI f) A) f ≤ 100 := fun f => aHab_le
  refine z_iconst C (v := 0) dX8_againOf_0 (by decide) ?_
  refine z_istore_n C hm (lv' := [(3, .int 0), (0, .ref (zad w 82)), (1, .int (nI a)), (2, .int (nI k))]) dX8_againOf_1 rfl (by decide) rfl ?_
  have L2 : ∀ (d : Nat) (i : Nat) (W : Nat → Int64) (v2_3 : Int32) (J2 : zJ), (10 - i) < d → (i ≤ 10) → (∀ x, x < i → W x = lN (zwN (fun f => aHab (nI a) (lt a) (nI f) A) 0 x)) → v2_3 = nI i → J2 = zupJ J 105 W → Z X w I J2 2 [(0, .ref (zad w 82)), (1, .int (nI a)), (2, .int (nI k)), (3, .int v2_3)] [] := by
    intro d
    induction d with
    | zero => intro i W v2_3 J2 hd; exact absurd hd (Nat.not_lt_zero _)
    | succ d ih2 => 
      intro i W v2_3 J2 hd2 hi hW0 e_v2_3 e_J2
      replace e_v2_3 := e_v2_3.symm; subst e_v2_3
      replace e_J2 := e_J2.symm; subst e_J2
      refine z_iload_n C dX8_againOf_2 rfl 3 rfl ?_
      refine z_bipush C (v := 10) dX8_againOf_3 (by decide) ?_
      refine z_icmp_ge_n i 10 (tgt := 29) C rfl rfl (by omega) (by omega) dX8_againOf_5 (by decide) (fun c5 => ?_) (fun c5 => ?_)
      · skip
        refine z_aload_n C dX8_againOf_29 rfl 0 rfl ?_
        refine z_lconst C (v := 1) dX8_againOf_30 (by decide) ?_
        refine z_putl C ff_X8_115 82 (by decide) sh82 rfl rfl rfl dX8_againOf_31 ?_
        refine z_J (J' := zupJ (zupJ J 105 W) 82 (vp_updL (J 82) 34 1)) (by first | rfl | (rw [zupJ_n] <;> omega)) ?_
        refine z_iconst C (v := 0) dX8_againOf_34 (by decide) ?_
        refine z_istore_n C hm (lv' := [(3, .int 0), (0, .ref (zad w 82)), (1, .int (nI a)), (2, .int (nI k))]) dX8_againOf_35 rfl (by decide) rfl ?_
        have L36 : ∀ (d : Nat) (f : Nat) (K : zI) (W O : Nat → Int64) (v36_3 : Int32) (I36 : zI) (J36 : zJ), (k - f) < d → (f ≤ k) → (frH K I) → (∀ i, i ≤ 9 → W i = lN (zwN (fun f => aHab (nI a) (lt a) (nI f) A) f i)) → (O 34 = lN (100 ^ f)) → v36_3 = nI f → I36 = K → J36 = zupJ (zupJ J 105 W) 82 O → Z X w I36 J36 36 [(0, .ref (zad w 82)), (1, .int (nI a)), (2, .int (nI k)), (3, .int v36_3)] [] := by
          intro d
          induction d with
          | zero => intro f K W O v36_3 I36 J36 hd; exact absurd hd (Nat.not_lt_zero _)
          | succ d ih36 => 
            intro f K W O v36_3 I36 J36 hd36 hf hKf hW hO e_v36_3 e_I36 e_J36
            replace e_v36_3 := e_v36_3.symm; subst e_v36_3
            replace e_I36 := e_I36.symm; subst e_I36
            replace e_J36 := e_J36.symm; subst e_J36
            refine z_iload_n C dX8_againOf_36 rfl 3 rfl ?_
            refine z_iload_n C dX8_againOf_37 rfl 2 rfl ?_
            refine z_icmp_ge_n f k (tgt := 127) C rfl rfl (by omega) (by omega) dX8_againOf_38 (by decide) (fun c38 => ?_) (fun c38 => ?_)
            · skip
              have hfk : f = k := by omega
              rw [hfk] at hW hO
              have hzk := zpop_k k (by omega) _ (zset_lt (P := (zDy bu fr a tr)) k)
              refine z_lconst C (v := 0) dX8_againOf_127 (by decide) ?_
              refine z_lstore_n C hm (lv' := [(3, .long 0), (0, .ref (zad w 82)), (1, .int (nI a)), (2, .int (nI k))]) dX8_againOf_128 rfl (by decide) rfl ?_
              refine z_aload_n C dX8_againOf_129 rfl 1 rfl ?_
              refine z_aload_n C dX8_againOf_130 rfl 1 rfl ?_
              refine z_iload_n C dX8_againOf_131 rfl 2 rfl ?_
              refine z_callVi C hm cl_X8_308 cv_X8_fridaysOf 82 (by decide) sh82 ⟨_, _, rfl⟩ [.int (nI a)] rfl (rest := [.ref (zad w 82)]) rfl (k_X8_fridaysOf w _ _ tr (nI a) htr (by rw [hKf 82 (by decide) (by decide)]; exact hT)) ⟨rfl, rfl, Nat.le_of_ble_eq_true rfl, Nat.le_of_ble_eq_true rfl⟩ (Nat.le_of_ble_eq_true rfl) dX8_againOf_132 (fun v_1 I_1 J_1 h_1 => ?_)
              obtain ⟨ev_1, ei_1, ej_1⟩ := h_1
              replace ev_1 := ev_1.symm; subst ev_1
              replace ei_1 := ei_1.symm; subst ei_1
              replace ej_1 := ej_1.symm; subst ej_1
              refine z_ti (y := nI (zset (zDy bu fr a tr) 9)) (by rw [hKf 101 (by decide) (by decide), hKf 102 (by decide) (by decide)]; exact aDays_n (by omega) hbu8 hF tr (Nat.le_refl _)) ?_
              refine z_iconst C (v := 1) dX8_againOf_135 (by decide) ?_
              refine z_iload_n C dX8_againOf_136 rfl 3 rfl ?_
              refine z_ishl C dX8_againOf_137 ?_
              refine z_ti (y := nI (2 ^ k)) (shl1 (by omega)) ?_
              refine z_iconst C (v := 1) dX8_againOf_138 (by decide) ?_
              refine z_isub C dX8_againOf_139 ?_
              refine z_ti (y := nI (2 ^ k - 1)) (pk_sub (b := 1) (Nat.one_le_two_pow)) ?_
              refine z_iand C dX8_againOf_140 ?_
              refine z_ti (y := nI (zset (zDy bu fr a tr) k)) (by
                  rw [pk_andN (Nat.lt_of_lt_of_le (zset_lt 9) (by decide)) k (by
                    show (BitVec.ofNat 32 (2 ^ k - 1)).toNat = _
                    rw [BitVec.toNat_ofNat]; exact Nat.mod_eq_of_lt (Nat.lt_of_le_of_lt (Nat.sub_le _ _) (Nat.pow_lt_pow_right (by decide) (by omega)))), zset_mod (by omega)]) ?_
              refine z_callVi C hm cl_X8_293 cv_X8_ones 82 (by decide) sh82 ⟨_, _, rfl⟩ [.int (nI (zset (zDy bu fr a tr) k))] rfl (rest := []) rfl (k_X8_ones w _ _  (zset (zDy bu fr a tr) k) (Nat.lt_of_lt_of_le (zset_lt k) (Nat.le_trans (Nat.pow_le_pow_right (by decide) hk) (by decide)))) ⟨rfl, rfl, Nat.le_of_ble_eq_true rfl, Nat.le_of_ble_eq_true rfl⟩ (Nat.le_of_ble_eq_true rfl) dX8_againOf_141 (fun v_2 I_2 J_2 h_2 => ?_)
              obtain ⟨ev_2, ei_2, ej_2⟩ := h_2
              replace ev_2 := ev_2.symm; subst ev_2
              replace ei_2 := ei_2.symm; subst ei_2
              replace ej_2 := ej_2.symm; subst ej_2
              refine z_istore C hm (lv' := [(5, .int (nI (zpop (zset (zDy bu fr a tr) k)))), (3, .long 0), (0, .ref (zad w 82)), (1, .int (nI a)), (2, .int (nI k))]) dX8_againOf_144 (by decide) rfl ?_
              have L146 : ∀ (d : Nat) (c : Nat) (v146_3 : Int64) (v146_5 : Int32), (k + 1 - ((zpop (zset (zDy bu fr a tr) k)) + c)) < d → ((zpop (zset (zDy bu fr a tr) k)) + c ≤ k + 1) → v146_3 = lN (zsN (zwN (fun f => aHab (nI a) (lt a) (nI f) A) k) (zpop (zset (zDy bu fr a tr) k)) c) → v146_5 = nI ((zpop (zset (zDy bu fr a tr) k)) + c) → Z X w K (zupJ (zupJ J 105 W) 82 O) 146 [(0, .ref (zad w 82)), (1, .int (nI a)), (2, .int (nI k)), (3, .long v146_3), (5, .int v146_5)] [] := by
                intro d
                induction d with
                | zero => intro c v146_3 v146_5 hd; exact absurd hd (Nat.not_lt_zero _)
                | succ d ih146 => 
                  intro c v146_3 v146_5 hd146 hc e_v146_3 e_v146_5
                  replace e_v146_3 := e_v146_3.symm; subst e_v146_3
                  replace e_v146_5 := e_v146_5.symm; subst e_v146_5
                  refine z_iload C dX8_againOf_146 4 rfl ?_
                  refine z_iload_n C dX8_againOf_148 rfl 2 rfl ?_
                  refine z_icmp_gt_n ((zpop (zset (zDy bu fr a tr) k)) + c) k (tgt := 168) C rfl rfl (by omega) (by omega) dX8_againOf_149 (by decide) (fun c149 => ?_) (fun c149 => ?_)
                  · skip
                    have hce : c = k + 1 - (zpop (zset (zDy bu fr a tr) k)) := by omega
                    refine z_lload_n C dX8_againOf_168 rfl 3 rfl ?_
                    refine z_lret C hr dX8_againOf_169 ?_
                    refine ⟨_, rfl, ?_⟩
                    exact ⟨by rw [zAb, hce], hKf, W, O, rfl, hO⟩
                  · skip
                    refine z_lload_n C dX8_againOf_152 rfl 3 rfl ?_
                    refine z_aload_n C dX8_againOf_153 rfl 0 rfl ?_
                    refine z_getr C ff_X8_111 82 (by decide) sh82 rfl dX8_againOf_154 ?_
                    refine z_iload C dX8_againOf_157 4 rfl ?_
                    refine z_lald C 105 (by decide) sh105 ((zpop (zset (zDy bu fr a tr) k)) + c) (by omega) (by decide) rfl (v := lN (zwN (fun f => aHab (nI a) (lt a) (nI f) A) k ((zpop (zset (zDy bu fr a tr) k)) + c))) (by first | exact (hW _ (by omega)) | (simp [zup, zupJ, upd, vp_updL]; exact (hW _ (by omega)))) dX8_againOf_159 ?_
                    refine z_ladd C dX8_againOf_160 ?_
                    refine z_tl (y := lN (zsN (zwN (fun f => aHab (nI a) (lt a) (nI f) A) k) (zpop (zset (zDy bu fr a tr) k)) (c + 1))) (by rw [lN_add]; rfl) ?_
                    refine z_lstore_n C hm (lv' := [(3, .long (lN (zsN (zwN (fun f => aHab (nI a) (lt a) (nI f) A) k) (zpop (zset (zDy bu fr a tr) k)) (c + 1)))), (0, .ref (zad w 82)), (1, .int (nI a)), (2, .int (nI k)), (5, .int (nI ((zpop (zset (zDy bu fr a tr) k)) + c)))]) dX8_againOf_161 rfl (by decide) rfl ?_
                    refine z_iinc C hm 4 (v := nI ((zpop (zset (zDy bu fr a tr) k)) + c + 1)) (lv' := [(5, .int (nI ((zpop (zset (zDy bu fr a tr) k)) + c + 1))), (3, .long (lN (zsN (zwN (fun f => aHab (nI a) (lt a) (nI f) A) k) (zpop (zset (zDy bu fr a tr) k)) (c + 1)))), (0, .ref (zad w 82)), (1, .int (nI a)), (2, .int (nI k))]) dX8_againOf_162 rfl (nI_add ((zpop (zset (zDy bu fr a tr) k)) + c) 1) (by decide) rfl ?_
                    refine z_goto (tgt := 146) C dX8_againOf_165 (by decide) ?_
                    exact z_sub [2, 3, 4, 1, 0] rfl (ih146  (c + 1) _ _ (by omega) (by omega) rfl rfl)
              exact z_sub [2, 3, 4, 1, 0] rfl (L146 _ 0 _ _ (Nat.lt_succ_self _) (by omega) rfl rfl)
            · skip
              refine z_aload_n C dX8_againOf_41 rfl 0 rfl ?_
              refine z_iload_n C dX8_againOf_42 rfl 1 rfl ?_
              refine z_iload_n C dX8_againOf_43 rfl 3 rfl ?_
              refine z_callVi C hm cl_X8_268 cv_X8_habitOf 82 (by decide) sh82 ⟨_, _, rfl⟩ [.int (nI a), .int (nI f)] rfl (rest := []) rfl (k_X8_habitOf w _ _ h A lt a (nI f) (by omega) hh (mS_f (frM_h hKf) hS).2.2.1 (by rw [hKf 83 (by decide) (by decide)]; exact hLt)) ⟨rfl, rfl, Nat.le_of_ble_eq_true rfl, Nat.le_of_ble_eq_true rfl⟩ (Nat.le_of_ble_eq_true rfl) dX8_againOf_44 (fun v_3 I_3 J_3 h_3 => ?_)
              obtain ⟨ev_3, hf_3, eJ_3⟩ := h_3
              replace ev_3 := ev_3.symm; subst ev_3
              replace eJ_3 := eJ_3.symm; subst eJ_3
              refine z_istore C hm (lv' := [(4, .int (nI (aHab (nI a) (lt a) (nI f) A))), (0, .ref (zad w 82)), (1, .int (nI a)), (2, .int (nI k)), (3, .int (nI f))]) dX8_againOf_47 (by decide) rfl ?_
              refine z_iload_n C dX8_againOf_49 rfl 4 rfl ?_
              refine z_iconst C (v := 1) dX8_againOf_50 (by decide) ?_
              refine z_iadd C dX8_againOf_51 ?_
              refine z_ti (y := nI (f + 1)) (nI_add f 1) ?_
              refine z_istore C hm (lv' := [(5, .int (nI (f + 1))), (4, .int (nI (aHab (nI a) (lt a) (nI f) A))), (0, .ref (zad w 82)), (1, .int (nI a)), (2, .int (nI k)), (3, .int (nI f))]) dX8_againOf_52 (by decide) rfl ?_
              have L54 : ∀ (d : Nat) (m : Nat) (v54_5 : Int32) (J54 : zJ), m < d → (m ≤ f + 2) → v54_5 = nI m + Int32.ofInt (-1) → J54 = zupJ (zupJ J 105 (aWp (nI ((fun f => aHab (nI a) (lt a) (nI f) A) f)) W m (f + 1))) 82 O → Z X w I_3 J54 54 [(0, .ref (zad w 82)), (1, .int (nI a)), (2, .int (nI k)), (3, .int (nI f)), (4, .int (nI (aHab (nI a) (lt a) (nI f) A))), (5, .int v54_5)] [] := by
                intro d
                induction d with
                | zero => intro m v54_5 J54 hd; exact absurd hd (Nat.not_lt_zero _)
                | succ d ih54 => 
                  intro m v54_5 J54 hd54 hm2 e_v54_5 e_J54
                  replace e_v54_5 := e_v54_5.symm; subst e_v54_5
                  replace e_J54 := e_J54.symm; subst e_J54
                  refine z_iload C dX8_againOf_54 5 rfl ?_
                  refine z_if_lt (tgt := 109) C dX8_againOf_56 (by decide) (fun c56 => ?_) (fun c56 => ?_)
                  · skip
                    have hm0 : m = 0 := by
                      cases m with
                      | zero => rfl
                      | succ j => exact absurd c56 (by rw [pm1]; exact nI_pos (by omega))
                    refine z_aload_n C dX8_againOf_109 rfl 0 rfl ?_
                    refine z_dup C dX8_againOf_110 rfl ?_
                    refine z_getl C ff_X8_115 82 (by decide) sh82 rfl (v := O 34) (by first | exact rfl | (simp [zup, zupJ, upd, vp_updL]; exact rfl)) dX8_againOf_111 ?_
                    refine z_ldc2 C (v := 100) kl_X8_311 dX8_againOf_114 ?_
                    refine z_lmul C dX8_againOf_117 ?_
                    refine z_putl C ff_X8_115 82 (by decide) sh82 rfl rfl rfl dX8_againOf_118 ?_
                    refine z_J (J' := zupJ (zupJ J 105 (aWp (nI ((fun f => aHab (nI a) (lt a) (nI f) A) f)) W m (f + 1))) 82 (vp_updL O 34 ((O 34) * 100))) (by rw [zupJ_s, zupJ_up]) ?_
                    refine z_iinc C hm 3 (v := nI (f + 1)) (lv' := [(3, .int (nI (f + 1))), (0, .ref (zad w 82)), (1, .int (nI a)), (2, .int (nI k)), (4, .int (nI (aHab (nI a) (lt a) (nI f) A))), (5, .int (nI m + Int32.ofInt (-1)))]) dX8_againOf_121 rfl (nI_add f 1) (by decide) rfl ?_
                    refine z_goto (tgt := 36) C dX8_againOf_124 (by decide) ?_
                    exact z_sub [1, 2, 3, 0] rfl (ih36  (f + 1) _ (aWp (nI ((fun f => aHab (nI a) (lt a) (nI f) A) f)) W 0 (f + 1)) (vp_updL O 34 (O 34 * 100)) _ _ _ (by omega) (by omega) (frH_tr hf_3 hKf) (zW_step (H := (fun f => aHab (nI a) (lt a) (nI f) A)) (by omega) (hh100 f) rfl hW) (by rw [pk_uLs, hO]; show lN _ * lN 100 = _; rw [lN_mul, Nat.pow_succ]) rfl rfl (by rw [hm0]))
                  · skip
                    obtain ⟨j, rfl⟩ : ∃ j, m = j + 1 := by
                      cases m with
                      | zero => exact absurd pm1_0 c56
                      | succ j => exact ⟨j, rfl⟩
                    rw [pm1]
                    refine z_aload_n C dX8_againOf_59 rfl 0 rfl ?_
                    refine z_getr C ff_X8_111 82 (by decide) sh82 rfl dX8_againOf_60 ?_
                    refine z_iload C dX8_againOf_63 5 rfl ?_
                    refine z_aload_n C dX8_againOf_65 rfl 0 rfl ?_
                    refine z_getr C ff_X8_111 82 (by decide) sh82 rfl dX8_againOf_66 ?_
                    refine z_iload C dX8_againOf_69 5 rfl ?_
                    refine z_lald C 105 (by decide) sh105 j (by omega) (by decide) rfl (v := W j) (by first | exact (aWp_lo (h := (nI ((fun f => aHab (nI a) (lt a) (nI f) A) f))) (W := W) (m := j + 1) (d := f + 1) (by omega)) | (simp [zup, zupJ, upd, vp_updL]; exact (aWp_lo (h := (nI ((fun f => aHab (nI a) (lt a) (nI f) A) f))) (W := W) (m := j + 1) (d := f + 1) (by omega)))) dX8_againOf_71 ?_
                    refine z_bipush C (v := 100) dX8_againOf_72 (by decide) ?_
                    refine z_iload C dX8_againOf_74 4 rfl ?_
                    refine z_isub C dX8_againOf_76 ?_
                    refine z_i2l C (v := (100 - (nI (aHab (nI a) (lt a) (nI f) A))).toInt64) dX8_againOf_77 rfl ?_
                    refine z_lmul C dX8_againOf_78 ?_
                    refine z_iload C dX8_againOf_79 5 rfl ?_
                    refine z_if_le (tgt := 100) C dX8_againOf_81 (by decide) (fun c81 => ?_) (fun c81 => ?_)
                    · skip
                      have hj0 : j = 0 := (nI_le0 (by omega)).mp c81
                      refine z_lconst C (v := 0) dX8_againOf_100 (by decide) ?_
                      refine z_ladd C dX8_againOf_101 ?_
                      refine z_last C 105 (by decide) sh105 j (by omega) (by decide) rfl dX8_againOf_102 ?_
                      refine z_J (J' := zupJ (zupJ J 105 (vp_updL (aWp (nI ((fun f => aHab (nI a) (lt a) (nI f) A) f)) W (j + 1) (f + 1)) j (((W j) * ((100 - (nI (aHab (nI a) (lt a) (nI f) A))).toInt64)) + 0))) 82 O) (by funext zk; simp only [zupJ]; split <;> simp_all [zupJ]) ?_
                      refine z_iinc C hm 5 (v := (nI j) + Int32.ofInt (-1)) (lv' := [(5, .int ((nI j) + Int32.ofInt (-1))), (0, .ref (zad w 82)), (1, .int (nI a)), (2, .int (nI k)), (3, .int (nI f)), (4, .int (nI (aHab (nI a) (lt a) (nI f) A)))]) dX8_againOf_103 rfl rfl (by decide) rfl ?_
                      refine z_goto (tgt := 54) C dX8_againOf_106 (by decide) ?_
                      exact z_sub [1, 2, 3, 4, 5, 0] rfl (ih54  j _ _ (by omega) (by omega) rfl (by rw [← aWp_s (m := j) (by omega), aWk, if_pos hj0]))
                    · skip
                      have hj0 : ¬ j = 0 := fun q => c81 (by rw [q]; decide)
                      have hj1 : 1 ≤ j := Nat.pos_of_ne_zero hj0
                      refine z_aload_n C dX8_againOf_84 rfl 0 rfl ?_
                      refine z_getr C ff_X8_111 82 (by decide) sh82 rfl dX8_againOf_85 ?_
                      refine z_iload C dX8_againOf_88 5 rfl ?_
                      refine z_iconst C (v := 1) dX8_againOf_90 (by decide) ?_
                      refine z_isub C dX8_againOf_91 ?_
                      refine z_ti (y := nI (j - 1)) (pk_sub (b := 1) hj1) ?_
                      refine z_lald C 105 (by decide) sh105 (j - 1) (by omega) (by decide) rfl (v := W (j - 1)) (by first | exact (aWp_lo (h := (nI ((fun f => aHab (nI a) (lt a) (nI f) A) f))) (W := W) (m := j + 1) (d := f + 1) (by omega)) | (simp [zup, zupJ, upd, vp_updL]; exact (aWp_lo (h := (nI ((fun f => aHab (nI a) (lt a) (nI f) A) f))) (W := W) (m := j + 1) (d := f + 1) (by omega)))) dX8_againOf_92 ?_
                      refine z_iload C dX8_againOf_93 4 rfl ?_
                      refine z_i2l C (v := (nI (aHab (nI a) (lt a) (nI f) A)).toInt64) dX8_againOf_95 rfl ?_
                      refine z_lmul C dX8_againOf_96 ?_
                      refine z_goto (tgt := 101) C dX8_againOf_97 (by decide) ?_
                      refine z_ladd C dX8_againOf_101 ?_
                      refine z_last C 105 (by decide) sh105 j (by omega) (by decide) rfl dX8_againOf_102 ?_
                      refine z_J (J' := zupJ (zupJ J 105 (vp_updL (aWp (nI ((fun f => aHab (nI a) (lt a) (nI f) A) f)) W (j + 1) (f + 1)) j (((W j) * ((100 - (nI (aHab (nI a) (lt a) (nI f) A))).toInt64)) + ((W (j - 1)) * ((nI (aHab (nI a) (lt a) (nI f) A)).toInt64))))) 82 O) (by funext zk; simp only [zupJ]; split <;> simp_all [zupJ]) ?_
                      refine z_iinc C hm 5 (v := (nI j) + Int32.ofInt (-1)) (lv' := [(5, .int ((nI j) + Int32.ofInt (-1))), (0, .ref (zad w 82)), (1, .int (nI a)), (2, .int (nI k)), (3, .int (nI f)), (4, .int (nI (aHab (nI a) (lt a) (nI f) A)))]) dX8_againOf_103 rfl rfl (by decide) rfl ?_
                      refine z_goto (tgt := 54) C dX8_againOf_106 (by decide) ?_
                      exact z_sub [1, 2, 3, 4, 5, 0] rfl (ih54  j _ _ (by omega) (by omega) rfl (by rw [← aWp_s (m := j) (by omega), aWk, if_neg hj0]))
              exact z_sub [2, 3, 4, 5, 1, 0] rfl (L54 _ (f + 2) _ _ (Nat.lt_succ_self _) (Nat.le_refl _) (pm1 (f + 1)).symm (by rw [aWp_top]))
        exact z_sub [1, 2, 3, 0] rfl (L36 _ 0 I W (vp_updL (J 82) 34 1) _ _ _ (Nat.lt_succ_self _) (Nat.zero_le _) frH_id (fun x hx => hW0 x (by omega)) pk_uLs rfl rfl rfl)
      · skip
        refine z_aload_n C dX8_againOf_8 rfl 0 rfl ?_
        refine z_getr C ff_X8_111 82 (by decide) sh82 rfl dX8_againOf_9 ?_
        refine z_iload_n C dX8_againOf_12 rfl 3 rfl ?_
        refine z_iload_n C dX8_againOf_13 rfl 3 rfl ?_
        refine z_if_ne (tgt := 21) C dX8_againOf_14 (by decide) (fun c14 => ?_) (fun c14 => ?_)
        · skip
          have c14n : ¬ i = 0 := fun q => c14 (by rw [q]; rfl)
          refine z_lconst C (v := 0) dX8_againOf_21 (by decide) ?_
          refine z_last C 105 (by decide) sh105 i (by omega) (by decide) rfl dX8_againOf_22 ?_
          refine z_J (J' := zupJ J 105 (vp_updL W i 0)) (by rw [zupJ_s, zupJ_up]) ?_
          refine z_iinc C hm 3 (v := nI (i + 1)) (lv' := [(3, .int (nI (i + 1))), (0, .ref (zad w 82)), (1, .int (nI a)), (2, .int (nI k))]) dX8_againOf_23 rfl (nI_add i 1) (by decide) rfl ?_
          refine z_goto (tgt := 2) C dX8_againOf_26 (by decide) ?_
          exact z_sub [1, 2, 3, 0] rfl (ih2  (i + 1) (vp_updL W i 0) _ _ (by omega) (by omega) (lt_w hW0 (by rw [zwN, if_neg c14n]; rfl)) rfl rfl)
        · skip
          have c14z : i = 0 := (nI_0eq (by omega)).mp c14
          refine z_lconst C (v := 1) dX8_againOf_17 (by decide) ?_
          refine z_goto (tgt := 22) C dX8_againOf_18 (by decide) ?_
          refine z_last C 105 (by decide) sh105 i (by omega) (by decide) rfl dX8_againOf_22 ?_
          refine z_J (J' := zupJ J 105 (vp_updL W i 1)) (by rw [zupJ_s, zupJ_up]) ?_
          refine z_iinc C hm 3 (v := nI (i + 1)) (lv' := [(3, .int (nI (i + 1))), (0, .ref (zad w 82)), (1, .int (nI a)), (2, .int (nI k))]) dX8_againOf_23 rfl (nI_add i 1) (by decide) rfl ?_
          refine z_goto (tgt := 2) C dX8_againOf_26 (by decide) ?_
          exact z_sub [1, 2, 3, 0] rfl (ih2  (i + 1) (vp_updL W i 1) _ _ (by omega) (by omega) (lt_w hW0 (by rw [zwN, if_pos c14z]; rfl)) rfl rfl)
  exact z_sub [1, 2, 3, 0] rfl (L2 _ 0 (J 105) _ _ (Nat.lt_succ_self _) (by decide) (fun _ h0 => absurd h0 (Nat.not_lt_zero _)) rfl (zupJ_id).symm)
abbrev rm_X8_divisor : Room := { frames := 4, cells := 0, slots := 0, locals := 200 }
set_option maxRecDepth 100000 in
set_option maxHeartbeats 4000000 in
theorem k_X8_divisor (w : zW) (I : zI) (J : zJ) (a b : Nat) (p : Int64) (q : Int64) (hp0 : p = lN a) (hq0 : q = lN b) (ha63 : a < 2 ^ 63) (hb63 : b < 2 ^ 63) : zMet yX8_divisor cX8_divisor 11 (some .long) rm_X8_divisor w [.ref (zad w 82), .long p, .long q] I J (zpl (fun v I' J' => v = lN (Nat.gcd a b) ∧ I' = I ∧ J' = J)) := by
  refine zMet_of (by decide) (Nat.le_of_ble_eq_true rfl) (fun X C hm hr => ?_)
  refine z_sub (lv' := [(0, .ref (zad w 82)), (1, .long p), (3, .long q)]) [0, 1, 2] rfl ?_
  refine z_lload_n C dX8_divisor_0 rfl 1 rfl ?_
  refine z_lstore C hm (lv' := [(5, .long p), (0, .ref (zad w 82)), (1, .long p), (3, .long q)]) dX8_divisor_1 (by decide) rfl ?_
  refine z_lload_n C dX8_divisor_3 rfl 3 rfl ?_
  refine z_lstore C hm (lv' := [(7, .long q), (5, .long p), (0, .ref (zad w 82)), (1, .long p), (3, .long q)]) dX8_divisor_4 (by decide) rfl ?_
  have L6 : ∀ (d : Nat) (gg ss : Nat) (v6_5 : Int64) (v6_7 : Int64), ss < d → (gg < 2 ^ 63) → (ss < 2 ^ 63) → (Nat.gcd gg ss = Nat.gcd a b) → v6_5 = lN gg → v6_7 = lN ss → Z X w I J 6 [(0, .ref (zad w 82)), (1, .long p), (3, .long q), (5, .long v6_5), (7, .long v6_7)] [] := by
    intro d
    induction d with
    | zero => intro gg ss v6_5 v6_7 hd; exact absurd hd (Nat.not_lt_zero _)
    | succ d ih6 => 
      intro gg ss v6_5 v6_7 hd6 h1 h2 h3 e_v6_5 e_v6_7
      replace e_v6_5 := e_v6_5.symm; subst e_v6_5
      replace e_v6_7 := e_v6_7.symm; subst e_v6_7
      refine z_lload C dX8_divisor_6 4 rfl ?_
      refine z_lconst C (v := 0) dX8_divisor_8 (by decide) ?_
      refine z_lcmp C dX8_divisor_9 ?_
      refine z_if_eq (tgt := 31) C dX8_divisor_10 (by decide) (fun c10 => ?_) (fun c10 => ?_)
      · skip
        have hs0 : ss = 0 := (pk_lEQ (b := 0) (by omega) (by decide)).mp ((lg_cmp_eq _ _).mp c10)
        refine z_lload C dX8_divisor_31 3 rfl ?_
        refine z_lret C hr dX8_divisor_33 ?_
        refine ⟨_, rfl, ?_⟩
        exact ⟨by rw [← h3, hs0, Nat.gcd_zero_right], rfl, rfl⟩
      · skip
        have hs1 : 0 < ss := Nat.pos_of_ne_zero (fun q => c10 ((lg_cmp_eq _ _).mpr (by rw [q]; rfl)))
        have hml := Nat.mod_lt gg hs1
        refine z_lload C dX8_divisor_13 3 rfl ?_
        refine z_lload C dX8_divisor_15 4 rfl ?_
        refine z_lrem C dX8_divisor_17 (fun q => c10 ((lg_cmp_eq _ _).mpr q)) ?_
        refine z_tl (y := lN (gg % ss)) (pk_lRem (by omega) hs1 (by omega)) ?_
        refine z_lstore C hm (lv' := [(9, .long (lN (gg % ss))), (0, .ref (zad w 82)), (1, .long p), (3, .long q), (5, .long (lN gg)), (7, .long (lN ss))]) dX8_divisor_18 (by decide) rfl ?_
        refine z_lload C dX8_divisor_20 5 rfl ?_
        refine z_lstore C hm (lv' := [(5, .long (lN ss)), (9, .long (lN (gg % ss))), (0, .ref (zad w 82)), (1, .long p), (3, .long q), (7, .long (lN ss))]) dX8_divisor_22 (by decide) rfl ?_
        refine z_lload C dX8_divisor_24 1 rfl ?_
        refine z_lstore C hm (lv' := [(7, .long (lN (gg % ss))), (5, .long (lN ss)), (9, .long (lN (gg % ss))), (0, .ref (zad w 82)), (1, .long p), (3, .long q)]) dX8_divisor_26 (by decide) rfl ?_
        refine z_goto (tgt := 6) C dX8_divisor_28 (by decide) ?_
        exact z_sub [3, 4, 5, 1, 0] rfl (ih6  ss (gg % ss) _ _ (by omega) h2 (by omega) (by rw [Nat.gcd_comm, ← Nat.gcd_rec, Nat.gcd_comm]; exact h3) rfl rfl)
  exact z_sub [2, 3, 4, 1, 0] rfl (L6 _ a b _ _ (Nat.lt_succ_self _) ha63 hb63 rfl hp0 hq0)
abbrev rm_X8_again : Room := { frames := 7, cells := 0, slots := 0, locals := 275 }
set_option maxRecDepth 100000 in
set_option maxHeartbeats 4000000 in
theorem k_X8_again (w : zW) (I : zI) (J : zJ) (n tr h : Nat) (A : List zCla) (jn lt : Nat → Int32) (hd : Nat → Option Nat) (bu ho lo fr : Nat → Nat) (x : Int32) (y : Int32) (wh : Int32) (pt : Int32) (hn : n ≤ 8) (htr : tr ≤ 16) (hh : h < 7) (hd99 : ∀ a k, hd a = some k → k ≤ 99) (hS : mS I n tr h A jn lt hd bu ho lo fr) : zMet yX8_again cX8_again 9 (some .long) rm_X8_again w [.ref (zad w 82), .int x, .int y, .int wh, .int pt] I J (zpl (fun v I' J' => v = cif (zin x n ∧ zin y 10 ∧ zin wh 2 ∧ zin pt 2) (zAg (zAb (fun f => aHab x (lt (zn x)) (nI f) A) (zDy bu fr (zn x) tr) (zn y)) (100 ^ zn y) n wh pt) (-9223372036854775808) ∧ frH I' I ∧ frW J' J)) := by
  refine zMet_of (by decide) (Nat.le_of_ble_eq_true rfl) (fun X C hm hr => ?_)
  refine z_sub (lv' := [(0, .ref (zad w 82)), (1, .int x), (2, .int y), (3, .int wh), (4, .int pt)]) [0, 1, 2, 3, 4] rfl ?_
  obtain ⟨hN, hT, hM, hJn, hLt, hHd, hB, hO, hLo, hF⟩ := id hS
  refine z_aload_n C dX8_again_0 rfl 0 rfl ?_
  refine z_iload_n C dX8_again_1 rfl 1 rfl ?_
  refine z_callVi C hm cl_X8_193 cv_X8_isName 82 (by decide) sh82 ⟨_, _, rfl⟩ [.int x] rfl (rest := []) rfl (k_X8_isName w _ _ n x hN hn) ⟨rfl, rfl, Nat.le_of_ble_eq_true rfl, Nat.le_of_ble_eq_true rfl⟩ (Nat.le_of_ble_eq_true rfl) dX8_again_2 (fun v_1 I_1 J_1 h_1 => ?_)
  obtain ⟨ev_1, ei_1, ej_1⟩ := h_1
  replace ev_1 := ev_1.symm; subst ev_1
  replace ei_1 := ei_1.symm; subst ei_1
  replace ej_1 := ej_1.symm; subst ej_1
  refine z_ifeq_b (tgt := 40) C dX8_again_5 (by decide) (fun c5 => ?_) (fun c5 => ?_)
  · skip
    refine z_ldc2 C (v := -9223372036854775808) kl_X8_313 dX8_again_40 ?_
    refine z_lret C hr dX8_again_43 ?_
    refine ⟨_, rfl, ?_⟩
    exact ⟨by rw [cif_f (fun q => c5 q.1)], frH_id, frW_id⟩
  · skip
    obtain ⟨a, ha, rfl⟩ := c5
    refine z_aload_n C dX8_again_8 rfl 0 rfl ?_
    refine z_iload_n C dX8_again_9 rfl 2 rfl ?_
    refine z_iconst C (v := 0) dX8_again_10 (by decide) ?_
    refine z_bipush C (v := 9) dX8_again_11 (by decide) ?_
    refine z_callVi C hm cl_X8_189 cv_X8_in 82 (by decide) sh82 ⟨_, _, rfl⟩ [.int y, .int 0, .int 9] rfl (rest := []) rfl (k_X8_in w _ _ y (0) (9)) ⟨rfl, rfl, Nat.le_of_ble_eq_true rfl, Nat.le_of_ble_eq_true rfl⟩ (Nat.le_of_ble_eq_true rfl) dX8_again_13 (fun v_2 I_2 J_2 h_2 => ?_)
    obtain ⟨ev_2, ei_2, ej_2⟩ := h_2
    replace ei_2 := ei_2.symm; subst ei_2
    replace ej_2 := ej_2.symm; subst ej_2
    replace ev_2 := ev_2.trans (bI_c (in_z (m := 9) (by decide))); subst ev_2
    refine z_ifeq_b (tgt := 40) C dX8_again_16 (by decide) (fun c16 => ?_) (fun c16 => ?_)
    · skip
      refine z_ldc2 C (v := -9223372036854775808) kl_X8_313 dX8_again_40 ?_
      refine z_lret C hr dX8_again_43 ?_
      refine ⟨_, rfl, ?_⟩
      exact ⟨by rw [cif_f (fun q => c16 q.2.1)], frH_id, frW_id⟩
    · skip
      obtain ⟨k, hk, rfl⟩ := c16
      refine z_aload_n C dX8_again_19 rfl 0 rfl ?_
      refine z_iload_n C dX8_again_20 rfl 3 rfl ?_
      refine z_iconst C (v := 0) dX8_again_21 (by decide) ?_
      refine z_iconst C (v := 1) dX8_again_22 (by decide) ?_
      refine z_callVi C hm cl_X8_189 cv_X8_in 82 (by decide) sh82 ⟨_, _, rfl⟩ [.int wh, .int 0, .int 1] rfl (rest := []) rfl (k_X8_in w _ _ wh (0) (1)) ⟨rfl, rfl, Nat.le_of_ble_eq_true rfl, Nat.le_of_ble_eq_true rfl⟩ (Nat.le_of_ble_eq_true rfl) dX8_again_23 (fun v_3 I_3 J_3 h_3 => ?_)
      obtain ⟨ev_3, ei_3, ej_3⟩ := h_3
      replace ei_3 := ei_3.symm; subst ei_3
      replace ej_3 := ej_3.symm; subst ej_3
      replace ev_3 := ev_3.trans (bI_c (in_z (m := 1) (by decide))); subst ev_3
      refine z_ifeq_b (tgt := 40) C dX8_again_26 (by decide) (fun c26 => ?_) (fun c26 => ?_)
      · skip
        refine z_ldc2 C (v := -9223372036854775808) kl_X8_313 dX8_again_40 ?_
        refine z_lret C hr dX8_again_43 ?_
        refine ⟨_, rfl, ?_⟩
        exact ⟨by rw [cif_f (fun q => c26 q.2.2.1)], frH_id, frW_id⟩
      · skip
        refine z_aload_n C dX8_again_29 rfl 0 rfl ?_
        refine z_iload C dX8_again_30 4 rfl ?_
        refine z_iconst C (v := 0) dX8_again_32 (by decide) ?_
        refine z_iconst C (v := 1) dX8_again_33 (by decide) ?_
        refine z_callVi C hm cl_X8_189 cv_X8_in 82 (by decide) sh82 ⟨_, _, rfl⟩ [.int pt, .int 0, .int 1] rfl (rest := []) rfl (k_X8_in w _ _ pt (0) (1)) ⟨rfl, rfl, Nat.le_of_ble_eq_true rfl, Nat.le_of_ble_eq_true rfl⟩ (Nat.le_of_ble_eq_true rfl) dX8_again_34 (fun v_4 I_4 J_4 h_4 => ?_)
        obtain ⟨ev_4, ei_4, ej_4⟩ := h_4
        replace ei_4 := ei_4.symm; subst ei_4
        replace ej_4 := ej_4.symm; subst ej_4
        replace ev_4 := ev_4.trans (bI_c (in_z (m := 1) (by decide))); subst ev_4
        refine z_ifne_b (tgt := 44) C dX8_again_37 (by decide) (fun c37 => ?_) (fun c37 => ?_)
        · skip
          have hSb := zAb_le (h := (fun f => aHab (nI a) (lt a) (nI f) A)) (D := (zDy bu fr a tr)) (k := k) (fun f => aHab_le) (by have := zpop_k k (by omega) _ (zset_lt (P := (zDy bu fr a tr)) k); omega)
          have hB9 := p100_le (k := k) (by omega)
          have hB0 : 0 < 100 ^ k := Nat.pow_pos (by decide)
          have hSn : (zAb (fun f => aHab (nI a) (lt a) (nI f) A) (zDy bu fr a tr) k) * n ≤ 8 * 100 ^ k := by
            rw [Nat.mul_comm 8]; exact Nat.mul_le_mul hSb hn
          refine z_aload_n C dX8_again_44 rfl 0 rfl ?_
          refine z_iload_n C dX8_again_45 rfl 1 rfl ?_
          refine z_iload_n C dX8_again_46 rfl 2 rfl ?_
          refine z_callVl C hm cl_X8_315 cv_X8_againOf 82 (by decide) sh82 ⟨_, _, rfl⟩ [.int (nI a), .int (nI k)] rfl (rest := []) rfl (k_X8_againOf w _ _ n tr h A jn lt hd bu ho lo fr a k hn htr hh hd99 hS ha (by omega)) ⟨rfl, rfl, Nat.le_of_ble_eq_true rfl, Nat.le_of_ble_eq_true rfl⟩ (Nat.le_of_ble_eq_true rfl) dX8_again_47 (fun v_5 I_5 J_5 h_5 => ?_)
          obtain ⟨ev_5, hf_5, W_5, O_5, eJ_5, hO_5⟩ := h_5
          replace ev_5 := ev_5.symm; subst ev_5
          replace eJ_5 := eJ_5.symm; subst eJ_5
          refine z_iload_n C dX8_again_50 rfl 3 rfl ?_
          refine z_iconst C (v := 1) dX8_again_51 (by decide) ?_
          refine z_icmp_ne (tgt := 62) C dX8_again_52 (by decide) (fun c52 => ?_) (fun c52 => ?_)
          · skip
            refine z_iconst C (v := 1) dX8_again_62 (by decide) ?_
            refine z_i2l C (v := (1 : Int32).toInt64) dX8_again_63 rfl ?_
            refine z_lmul C dX8_again_64 ?_
            refine z_tl (y := lN (zAb (fun f => aHab (nI a) (lt a) (nI f) A) (zDy bu fr a tr) k)) (by show lN _ * lN 1 = _; rw [lN_mul, Nat.mul_one]) ?_
            refine z_lstore C hm (lv' := [(5, .long (lN (zAb (fun f => aHab (nI a) (lt a) (nI f) A) (zDy bu fr a tr) k))), (0, .ref (zad w 82)), (1, .int (nI a)), (2, .int (nI k)), (3, .int wh), (4, .int pt)]) dX8_again_65 (by decide) rfl ?_
            refine z_lload C dX8_again_67 0 rfl ?_
            refine z_aload_n C dX8_again_69 rfl 1 rfl ?_
            refine z_getl C ff_X8_115 82 (by decide) sh82 rfl (v := lN (100 ^ k)) (by first | exact hO_5 | (simp [zup, zupJ, upd, vp_updL]; exact hO_5)) dX8_again_70 ?_
            refine z_lcmp C dX8_again_73 ?_
            refine z_if_le (tgt := 84) C dX8_again_74 (by decide) (fun c74 => ?_) (fun c74 => ?_)
            · skip
              have hle : (zAb (fun f => aHab (nI a) (lt a) (nI f) A) (zDy bu fr a tr) k) ≤ 100 ^ k := (pk_lLE (by omega) (by omega)).mp ((lg_cmp_le _ _).mp c74)
              refine z_lload C dX8_again_84 0 rfl ?_
              refine z_lstore C hm (lv' := [(5, .long (lN (zAb (fun f => aHab (nI a) (lt a) (nI f) A) (zDy bu fr a tr) k))), (0, .ref (zad w 82)), (1, .int (nI a)), (2, .int (nI k)), (3, .int wh), (4, .int pt)]) dX8_again_86 (by decide) rfl ?_
              refine z_aload_n C dX8_again_88 rfl 1 rfl ?_
              refine z_lload C dX8_again_89 0 rfl ?_
              refine z_aload_n C dX8_again_91 rfl 1 rfl ?_
              refine z_getl C ff_X8_115 82 (by decide) sh82 rfl (v := lN (100 ^ k)) (by first | exact hO_5 | (simp [zup, zupJ, upd, vp_updL]; exact hO_5)) dX8_again_92 ?_
              have hgp : 0 < Nat.gcd ((zAb (fun f => aHab (nI a) (lt a) (nI f) A) (zDy bu fr a tr) k)) (100 ^ k) := Nat.gcd_pos_of_pos_right _ hB0
              have hgl : Nat.gcd ((zAb (fun f => aHab (nI a) (lt a) (nI f) A) (zDy bu fr a tr) k)) (100 ^ k) ≤ 100 ^ k := Nat.le_of_dvd hB0 (Nat.gcd_dvd_right _ _)
              refine z_callVl C hm cl_X8_319 cv_X8_divisor 82 (by decide) sh82 ⟨_, _, rfl⟩ [.long (lN (zAb (fun f => aHab (nI a) (lt a) (nI f) A) (zDy bu fr a tr) k)), .long (lN (100 ^ k))] rfl (rest := []) rfl (k_X8_divisor w _ _ ((zAb (fun f => aHab (nI a) (lt a) (nI f) A) (zDy bu fr a tr) k)) (100 ^ k) (lN (zAb (fun f => aHab (nI a) (lt a) (nI f) A) (zDy bu fr a tr) k)) (lN (100 ^ k)) rfl rfl (by omega) (by omega)) ⟨rfl, rfl, Nat.le_of_ble_eq_true rfl, Nat.le_of_ble_eq_true rfl⟩ (Nat.le_of_ble_eq_true rfl) dX8_again_95 (fun v_6 I_6 J_6 h_6 => ?_)
              obtain ⟨ev_6, ei_6, ej_6⟩ := h_6
              replace ev_6 := ev_6.symm; subst ev_6
              replace ei_6 := ei_6.symm; subst ei_6
              replace ej_6 := ej_6.symm; subst ej_6
              refine z_lstore C hm (lv' := [(7, .long (lN (Nat.gcd (zAb (fun f => aHab (nI a) (lt a) (nI f) A) (zDy bu fr a tr) k) (100 ^ k)))), (5, .long (lN (zAb (fun f => aHab (nI a) (lt a) (nI f) A) (zDy bu fr a tr) k))), (0, .ref (zad w 82)), (1, .int (nI a)), (2, .int (nI k)), (3, .int wh), (4, .int pt)]) dX8_again_98 (by decide) rfl ?_
              refine z_iload C dX8_again_100 6 rfl ?_
              refine z_if_ne (tgt := 113) C dX8_again_102 (by decide) (fun c102 => ?_) (fun c102 => ?_)
              · skip
                refine z_aload_n C dX8_again_113 rfl 2 rfl ?_
                refine z_getl C ff_X8_115 82 (by decide) sh82 rfl (v := lN (100 ^ k)) (by first | exact hO_5 | (simp [zup, zupJ, upd, vp_updL]; exact hO_5)) dX8_again_114 ?_
                refine z_lload C dX8_again_117 0 rfl ?_
                refine z_ldiv C dX8_again_119 (fun q => absurd ((pk_lEQ (b := 0) (by omega) (by decide)).mp q) (by omega)) ?_
                refine z_tl (y := lN (100 ^ k / Nat.gcd ((zAb (fun f => aHab (nI a) (lt a) (nI f) A) (zDy bu fr a tr) k)) (100 ^ k))) (pk_lDiv (by omega) hgp (by omega)) ?_
                refine z_lret C hr dX8_again_120 ?_
                refine ⟨_, rfl, ?_⟩
                exact ⟨by
                    rw [cif_t ⟨⟨a, ha, rfl⟩, ⟨k, hk, rfl⟩, c26, c37⟩, zn_n (by omega), zn_n (by omega), zAg, if_neg c102, show zAgT (zAb (fun f => aHab (nI a) (lt a) (nI f) A) (zDy bu fr a tr) k) (100 ^ k) n wh = (zAb (fun f => aHab (nI a) (lt a) (nI f) A) (zDy bu fr a tr) k) from by rw [zAgT, if_neg c52]], hf_5, frW_u⟩
              · skip
                refine z_lload C dX8_again_105 1 rfl ?_
                refine z_lload C dX8_again_107 0 rfl ?_
                refine z_ldiv C dX8_again_109 (fun q => absurd ((pk_lEQ (b := 0) (by omega) (by decide)).mp q) (by omega)) ?_
                refine z_tl (y := lN (((zAb (fun f => aHab (nI a) (lt a) (nI f) A) (zDy bu fr a tr) k)) / Nat.gcd ((zAb (fun f => aHab (nI a) (lt a) (nI f) A) (zDy bu fr a tr) k)) (100 ^ k))) (pk_lDiv (by omega) hgp (by omega)) ?_
                refine z_goto (tgt := 120) C dX8_again_110 (by decide) ?_
                refine z_lret C hr dX8_again_120 ?_
                refine ⟨_, rfl, ?_⟩
                exact ⟨by
                    rw [cif_t ⟨⟨a, ha, rfl⟩, ⟨k, hk, rfl⟩, c26, c37⟩, zn_n (by omega), zn_n (by omega), zAg, if_pos c102, show zAgT (zAb (fun f => aHab (nI a) (lt a) (nI f) A) (zDy bu fr a tr) k) (100 ^ k) n wh = (zAb (fun f => aHab (nI a) (lt a) (nI f) A) (zDy bu fr a tr) k) from by rw [zAgT, if_neg c52]], hf_5, frW_u⟩
            · skip
              have hgt : ¬ (zAb (fun f => aHab (nI a) (lt a) (nI f) A) (zDy bu fr a tr) k) ≤ 100 ^ k := fun q => c74 ((lg_cmp_le _ _).mpr ((pk_lLE (by omega) (by omega)).mpr q))
              refine z_aload_n C dX8_again_77 rfl 1 rfl ?_
              refine z_getl C ff_X8_115 82 (by decide) sh82 rfl (v := lN (100 ^ k)) (by first | exact hO_5 | (simp [zup, zupJ, upd, vp_updL]; exact hO_5)) dX8_again_78 ?_
              refine z_goto (tgt := 86) C dX8_again_81 (by decide) ?_
              refine z_lstore C hm (lv' := [(5, .long (lN (100 ^ k))), (0, .ref (zad w 82)), (1, .int (nI a)), (2, .int (nI k)), (3, .int wh), (4, .int pt)]) dX8_again_86 (by decide) rfl ?_
              refine z_aload_n C dX8_again_88 rfl 1 rfl ?_
              refine z_lload C dX8_again_89 0 rfl ?_
              refine z_aload_n C dX8_again_91 rfl 1 rfl ?_
              refine z_getl C ff_X8_115 82 (by decide) sh82 rfl (v := lN (100 ^ k)) (by first | exact hO_5 | (simp [zup, zupJ, upd, vp_updL]; exact hO_5)) dX8_again_92 ?_
              have hgp : 0 < Nat.gcd (100 ^ k) (100 ^ k) := Nat.gcd_pos_of_pos_right _ hB0
              have hgl : Nat.gcd (100 ^ k) (100 ^ k) ≤ 100 ^ k := Nat.le_of_dvd hB0 (Nat.gcd_dvd_right _ _)
              refine z_callVl C hm cl_X8_319 cv_X8_divisor 82 (by decide) sh82 ⟨_, _, rfl⟩ [.long (lN (100 ^ k)), .long (lN (100 ^ k))] rfl (rest := []) rfl (k_X8_divisor w _ _ (100 ^ k) (100 ^ k) (lN (100 ^ k)) (lN (100 ^ k)) rfl rfl (by omega) (by omega)) ⟨rfl, rfl, Nat.le_of_ble_eq_true rfl, Nat.le_of_ble_eq_true rfl⟩ (Nat.le_of_ble_eq_true rfl) dX8_again_95 (fun v_7 I_7 J_7 h_7 => ?_)
              obtain ⟨ev_7, ei_7, ej_7⟩ := h_7
              replace ev_7 := ev_7.symm; subst ev_7
              replace ei_7 := ei_7.symm; subst ei_7
              replace ej_7 := ej_7.symm; subst ej_7
              refine z_lstore C hm (lv' := [(7, .long (lN (Nat.gcd (100 ^ k) (100 ^ k)))), (5, .long (lN (100 ^ k))), (0, .ref (zad w 82)), (1, .int (nI a)), (2, .int (nI k)), (3, .int wh), (4, .int pt)]) dX8_again_98 (by decide) rfl ?_
              refine z_iload C dX8_again_100 6 rfl ?_
              refine z_if_ne (tgt := 113) C dX8_again_102 (by decide) (fun c102 => ?_) (fun c102 => ?_)
              · skip
                refine z_aload_n C dX8_again_113 rfl 2 rfl ?_
                refine z_getl C ff_X8_115 82 (by decide) sh82 rfl (v := lN (100 ^ k)) (by first | exact hO_5 | (simp [zup, zupJ, upd, vp_updL]; exact hO_5)) dX8_again_114 ?_
                refine z_lload C dX8_again_117 0 rfl ?_
                refine z_ldiv C dX8_again_119 (fun q => absurd ((pk_lEQ (b := 0) (by omega) (by decide)).mp q) (by omega)) ?_
                refine z_tl (y := lN (100 ^ k / Nat.gcd (100 ^ k) (100 ^ k))) (pk_lDiv (by omega) hgp (by omega)) ?_
                refine z_lret C hr dX8_again_120 ?_
                refine ⟨_, rfl, ?_⟩
                exact ⟨by
                    rw [cif_t ⟨⟨a, ha, rfl⟩, ⟨k, hk, rfl⟩, c26, c37⟩, zn_n (by omega), zn_n (by omega), zAg, if_neg c102, show zAgT (zAb (fun f => aHab (nI a) (lt a) (nI f) A) (zDy bu fr a tr) k) (100 ^ k) n wh = 100 ^ k from absurd hSb hgt], hf_5, frW_u⟩
              · skip
                refine z_lload C dX8_again_105 1 rfl ?_
                refine z_lload C dX8_again_107 0 rfl ?_
                refine z_ldiv C dX8_again_109 (fun q => absurd ((pk_lEQ (b := 0) (by omega) (by decide)).mp q) (by omega)) ?_
                refine z_tl (y := lN ((100 ^ k) / Nat.gcd (100 ^ k) (100 ^ k))) (pk_lDiv (by omega) hgp (by omega)) ?_
                refine z_goto (tgt := 120) C dX8_again_110 (by decide) ?_
                refine z_lret C hr dX8_again_120 ?_
                refine ⟨_, rfl, ?_⟩
                exact ⟨by
                    rw [cif_t ⟨⟨a, ha, rfl⟩, ⟨k, hk, rfl⟩, c26, c37⟩, zn_n (by omega), zn_n (by omega), zAg, if_pos c102, show zAgT (zAb (fun f => aHab (nI a) (lt a) (nI f) A) (zDy bu fr a tr) k) (100 ^ k) n wh = 100 ^ k from absurd hSb hgt], hf_5, frW_u⟩
          · skip
            refine z_aload_n C dX8_again_55 rfl 0 rfl ?_
            refine z_geti C ff_X8_7 82 (by decide) sh82 rfl (v := nI n) (by rw [hf_5 82 (by decide) (by decide)]; exact hN) dX8_again_56 ?_
            refine z_goto (tgt := 63) C dX8_again_59 (by decide) ?_
            refine z_i2l C (v := (nI n).toInt64) dX8_again_63 rfl ?_
            refine z_lmul C dX8_again_64 ?_
            refine z_tl (y := lN ((zAb (fun f => aHab (nI a) (lt a) (nI f) A) (zDy bu fr a tr) k) * n)) (by rw [nI_l (by omega), lN_mul]) ?_
            refine z_lstore C hm (lv' := [(5, .long (lN ((zAb (fun f => aHab (nI a) (lt a) (nI f) A) (zDy bu fr a tr) k) * n))), (0, .ref (zad w 82)), (1, .int (nI a)), (2, .int (nI k)), (3, .int wh), (4, .int pt)]) dX8_again_65 (by decide) rfl ?_
            refine z_lload C dX8_again_67 0 rfl ?_
            refine z_aload_n C dX8_again_69 rfl 1 rfl ?_
            refine z_getl C ff_X8_115 82 (by decide) sh82 rfl (v := lN (100 ^ k)) (by first | exact hO_5 | (simp [zup, zupJ, upd, vp_updL]; exact hO_5)) dX8_again_70 ?_
            refine z_lcmp C dX8_again_73 ?_
            refine z_if_le (tgt := 84) C dX8_again_74 (by decide) (fun c74 => ?_) (fun c74 => ?_)
            · skip
              have hle : ((zAb (fun f => aHab (nI a) (lt a) (nI f) A) (zDy bu fr a tr) k) * n) ≤ 100 ^ k := (pk_lLE (by omega) (by omega)).mp ((lg_cmp_le _ _).mp c74)
              refine z_lload C dX8_again_84 0 rfl ?_
              refine z_lstore C hm (lv' := [(5, .long (lN ((zAb (fun f => aHab (nI a) (lt a) (nI f) A) (zDy bu fr a tr) k) * n))), (0, .ref (zad w 82)), (1, .int (nI a)), (2, .int (nI k)), (3, .int wh), (4, .int pt)]) dX8_again_86 (by decide) rfl ?_
              refine z_aload_n C dX8_again_88 rfl 1 rfl ?_
              refine z_lload C dX8_again_89 0 rfl ?_
              refine z_aload_n C dX8_again_91 rfl 1 rfl ?_
              refine z_getl C ff_X8_115 82 (by decide) sh82 rfl (v := lN (100 ^ k)) (by first | exact hO_5 | (simp [zup, zupJ, upd, vp_updL]; exact hO_5)) dX8_again_92 ?_
              have hgp : 0 < Nat.gcd (((zAb (fun f => aHab (nI a) (lt a) (nI f) A) (zDy bu fr a tr) k) * n)) (100 ^ k) := Nat.gcd_pos_of_pos_right _ hB0
              have hgl : Nat.gcd (((zAb (fun f => aHab (nI a) (lt a) (nI f) A) (zDy bu fr a tr) k) * n)) (100 ^ k) ≤ 100 ^ k := Nat.le_of_dvd hB0 (Nat.gcd_dvd_right _ _)
              refine z_callVl C hm cl_X8_319 cv_X8_divisor 82 (by decide) sh82 ⟨_, _, rfl⟩ [.long (lN ((zAb (fun f => aHab (nI a) (lt a) (nI f) A) (zDy bu fr a tr) k) * n)), .long (lN (100 ^ k))] rfl (rest := []) rfl (k_X8_divisor w _ _ (((zAb (fun f => aHab (nI a) (lt a) (nI f) A) (zDy bu fr a tr) k) * n)) (100 ^ k) (lN ((zAb (fun f => aHab (nI a) (lt a) (nI f) A) (zDy bu fr a tr) k) * n)) (lN (100 ^ k)) rfl rfl (by omega) (by omega)) ⟨rfl, rfl, Nat.le_of_ble_eq_true rfl, Nat.le_of_ble_eq_true rfl⟩ (Nat.le_of_ble_eq_true rfl) dX8_again_95 (fun v_8 I_8 J_8 h_8 => ?_)
              obtain ⟨ev_8, ei_8, ej_8⟩ := h_8
              replace ev_8 := ev_8.symm; subst ev_8
              replace ei_8 := ei_8.symm; subst ei_8
              replace ej_8 := ej_8.symm; subst ej_8
              refine z_lstore C hm (lv' := [(7, .long (lN (Nat.gcd ((zAb (fun f => aHab (nI a) (lt a) (nI f) A) (zDy bu fr a tr) k) * n) (100 ^ k)))), (5, .long (lN ((zAb (fun f => aHab (nI a) (lt a) (nI f) A) (zDy bu fr a tr) k) * n))), (0, .ref (zad w 82)), (1, .int (nI a)), (2, .int (nI k)), (3, .int wh), (4, .int pt)]) dX8_again_98 (by decide) rfl ?_
              refine z_iload C dX8_again_100 6 rfl ?_
              refine z_if_ne (tgt := 113) C dX8_again_102 (by decide) (fun c102 => ?_) (fun c102 => ?_)
              · skip
                refine z_aload_n C dX8_again_113 rfl 2 rfl ?_
                refine z_getl C ff_X8_115 82 (by decide) sh82 rfl (v := lN (100 ^ k)) (by first | exact hO_5 | (simp [zup, zupJ, upd, vp_updL]; exact hO_5)) dX8_again_114 ?_
                refine z_lload C dX8_again_117 0 rfl ?_
                refine z_ldiv C dX8_again_119 (fun q => absurd ((pk_lEQ (b := 0) (by omega) (by decide)).mp q) (by omega)) ?_
                refine z_tl (y := lN (100 ^ k / Nat.gcd (((zAb (fun f => aHab (nI a) (lt a) (nI f) A) (zDy bu fr a tr) k) * n)) (100 ^ k))) (pk_lDiv (by omega) hgp (by omega)) ?_
                refine z_lret C hr dX8_again_120 ?_
                refine ⟨_, rfl, ?_⟩
                exact ⟨by
                    rw [cif_t ⟨⟨a, ha, rfl⟩, ⟨k, hk, rfl⟩, c26, c37⟩, zn_n (by omega), zn_n (by omega), zAg, if_neg c102, show zAgT (zAb (fun f => aHab (nI a) (lt a) (nI f) A) (zDy bu fr a tr) k) (100 ^ k) n wh = ((zAb (fun f => aHab (nI a) (lt a) (nI f) A) (zDy bu fr a tr) k) * n) from by rw [zAgT, if_pos c52]; omega], hf_5, frW_u⟩
              · skip
                refine z_lload C dX8_again_105 1 rfl ?_
                refine z_lload C dX8_again_107 0 rfl ?_
                refine z_ldiv C dX8_again_109 (fun q => absurd ((pk_lEQ (b := 0) (by omega) (by decide)).mp q) (by omega)) ?_
                refine z_tl (y := lN ((((zAb (fun f => aHab (nI a) (lt a) (nI f) A) (zDy bu fr a tr) k) * n)) / Nat.gcd (((zAb (fun f => aHab (nI a) (lt a) (nI f) A) (zDy bu fr a tr) k) * n)) (100 ^ k))) (pk_lDiv (by omega) hgp (by omega)) ?_
                refine z_goto (tgt := 120) C dX8_again_110 (by decide) ?_
                refine z_lret C hr dX8_again_120 ?_
                refine ⟨_, rfl, ?_⟩
                exact ⟨by
                    rw [cif_t ⟨⟨a, ha, rfl⟩, ⟨k, hk, rfl⟩, c26, c37⟩, zn_n (by omega), zn_n (by omega), zAg, if_pos c102, show zAgT (zAb (fun f => aHab (nI a) (lt a) (nI f) A) (zDy bu fr a tr) k) (100 ^ k) n wh = ((zAb (fun f => aHab (nI a) (lt a) (nI f) A) (zDy bu fr a tr) k) * n) from by rw [zAgT, if_pos c52]; omega], hf_5, frW_u⟩
            · skip
              have hgt : ¬ ((zAb (fun f => aHab (nI a) (lt a) (nI f) A) (zDy bu fr a tr) k) * n) ≤ 100 ^ k := fun q => c74 ((lg_cmp_le _ _).mpr ((pk_lLE (by omega) (by omega)).mpr q))
              refine z_aload_n C dX8_again_77 rfl 1 rfl ?_
              refine z_getl C ff_X8_115 82 (by decide) sh82 rfl (v := lN (100 ^ k)) (by first | exact hO_5 | (simp [zup, zupJ, upd, vp_updL]; exact hO_5)) dX8_again_78 ?_
              refine z_goto (tgt := 86) C dX8_again_81 (by decide) ?_
              refine z_lstore C hm (lv' := [(5, .long (lN (100 ^ k))), (0, .ref (zad w 82)), (1, .int (nI a)), (2, .int (nI k)), (3, .int wh), (4, .int pt)]) dX8_again_86 (by decide) rfl ?_
              refine z_aload_n C dX8_again_88 rfl 1 rfl ?_
              refine z_lload C dX8_again_89 0 rfl ?_
              refine z_aload_n C dX8_again_91 rfl 1 rfl ?_
              refine z_getl C ff_X8_115 82 (by decide) sh82 rfl (v := lN (100 ^ k)) (by first | exact hO_5 | (simp [zup, zupJ, upd, vp_updL]; exact hO_5)) dX8_again_92 ?_
              have hgp : 0 < Nat.gcd (100 ^ k) (100 ^ k) := Nat.gcd_pos_of_pos_right _ hB0
              have hgl : Nat.gcd (100 ^ k) (100 ^ k) ≤ 100 ^ k := Nat.le_of_dvd hB0 (Nat.gcd_dvd_right _ _)
              refine z_callVl C hm cl_X8_319 cv_X8_divisor 82 (by decide) sh82 ⟨_, _, rfl⟩ [.long (lN (100 ^ k)), .long (lN (100 ^ k))] rfl (rest := []) rfl (k_X8_divisor w _ _ (100 ^ k) (100 ^ k) (lN (100 ^ k)) (lN (100 ^ k)) rfl rfl (by omega) (by omega)) ⟨rfl, rfl, Nat.le_of_ble_eq_true rfl, Nat.le_of_ble_eq_true rfl⟩ (Nat.le_of_ble_eq_true rfl) dX8_again_95 (fun v_9 I_9 J_9 h_9 => ?_)
              obtain ⟨ev_9, ei_9, ej_9⟩ := h_9
              replace ev_9 := ev_9.symm; subst ev_9
              replace ei_9 := ei_9.symm; subst ei_9
              replace ej_9 := ej_9.symm; subst ej_9
              refine z_lstore C hm (lv' := [(7, .long (lN (Nat.gcd (100 ^ k) (100 ^ k)))), (5, .long (lN (100 ^ k))), (0, .ref (zad w 82)), (1, .int (nI a)), (2, .int (nI k)), (3, .int wh), (4, .int pt)]) dX8_again_98 (by decide) rfl ?_
              refine z_iload C dX8_again_100 6 rfl ?_
              refine z_if_ne (tgt := 113) C dX8_again_102 (by decide) (fun c102 => ?_) (fun c102 => ?_)
              · skip
                refine z_aload_n C dX8_again_113 rfl 2 rfl ?_
                refine z_getl C ff_X8_115 82 (by decide) sh82 rfl (v := lN (100 ^ k)) (by first | exact hO_5 | (simp [zup, zupJ, upd, vp_updL]; exact hO_5)) dX8_again_114 ?_
                refine z_lload C dX8_again_117 0 rfl ?_
                refine z_ldiv C dX8_again_119 (fun q => absurd ((pk_lEQ (b := 0) (by omega) (by decide)).mp q) (by omega)) ?_
                refine z_tl (y := lN (100 ^ k / Nat.gcd (100 ^ k) (100 ^ k))) (pk_lDiv (by omega) hgp (by omega)) ?_
                refine z_lret C hr dX8_again_120 ?_
                refine ⟨_, rfl, ?_⟩
                exact ⟨by
                    rw [cif_t ⟨⟨a, ha, rfl⟩, ⟨k, hk, rfl⟩, c26, c37⟩, zn_n (by omega), zn_n (by omega), zAg, if_neg c102, show zAgT (zAb (fun f => aHab (nI a) (lt a) (nI f) A) (zDy bu fr a tr) k) (100 ^ k) n wh = 100 ^ k from by rw [zAgT, if_pos c52]; omega], hf_5, frW_u⟩
              · skip
                refine z_lload C dX8_again_105 1 rfl ?_
                refine z_lload C dX8_again_107 0 rfl ?_
                refine z_ldiv C dX8_again_109 (fun q => absurd ((pk_lEQ (b := 0) (by omega) (by decide)).mp q) (by omega)) ?_
                refine z_tl (y := lN ((100 ^ k) / Nat.gcd (100 ^ k) (100 ^ k))) (pk_lDiv (by omega) hgp (by omega)) ?_
                refine z_goto (tgt := 120) C dX8_again_110 (by decide) ?_
                refine z_lret C hr dX8_again_120 ?_
                refine ⟨_, rfl, ?_⟩
                exact ⟨by
                    rw [cif_t ⟨⟨a, ha, rfl⟩, ⟨k, hk, rfl⟩, c26, c37⟩, zn_n (by omega), zn_n (by omega), zAg, if_pos c102, show zAgT (zAb (fun f => aHab (nI a) (lt a) (nI f) A) (zDy bu fr a tr) k) (100 ^ k) n wh = 100 ^ k from by rw [zAgT, if_pos c52]; omega], hf_5, frW_u⟩
        · skip
          refine z_ldc2 C (v := -9223372036854775808) kl_X8_313 dX8_again_40 ?_
          refine z_lret C hr dX8_again_43 ?_
          refine ⟨_, rfl, ?_⟩
          exact ⟨by rw [cif_f (fun q => c37 q.2.2.2)], frH_id, frW_id⟩
abbrev rm_X8_oddest : Room := { frames := 7, cells := 0, slots := 0, locals := 275 }
set_option maxRecDepth 100000 in
set_option maxHeartbeats 4000000 in
theorem k_X8_oddest (w : zW) (I : zI) (J : zJ) (n tr h : Nat) (A : List zCla) (jn lt : Nat → Int32) (hd : Nat → Option Nat) (bu ho lo fr : Nat → Nat) (y : Int32) (hn : n ≤ 8) (htr : tr ≤ 16) (hh : h < 7) (hd99 : ∀ a k, hd a = some k → k ≤ 99) (hS : mS I n tr h A jn lt hd bu ho lo fr) : zMet yX8_oddest cX8_oddest 8 (some .int) rm_X8_oddest w [.ref (zad w 82), .int y] I J (zpi (fun v I' J' => frH I' I ∧ frW J' J ∧ ((n = 0 ∧ v = -1) ∨ (n ≠ 0 ∧ ¬ zin y 10 ∧ v = -2) ∨ (n ≠ 0 ∧ ∃ k, k < 10 ∧ y = nI k ∧ ∃ fb, fb < n ∧ v = nI fb ∧ ∀ b, b < n → (zAb (fun f => aHab (nI fb) (lt fb) (nI f) A) (zDy bu fr fb tr) k) ≤ (zAb (fun f => aHab (nI b) (lt b) (nI f) A) (zDy bu fr b tr) k) ∧ (b < fb → (zAb (fun f => aHab (nI fb) (lt fb) (nI f) A) (zDy bu fr fb tr) k) < (zAb (fun f => aHab (nI b) (lt b) (nI f) A) (zDy bu fr b tr) k)))))) := by
  refine zMet_of (by decide) (Nat.le_of_ble_eq_true rfl) (fun X C hm hr => ?_)
  refine z_sub (lv' := [(0, .ref (zad w 82)), (1, .int y)]) [0, 1] rfl ?_
  obtain ⟨hN, hT, hM, hJn, hLt, hHd, hB, hO, hLo, hF⟩ := id hS
  refine z_aload_n C dX8_oddest_0 rfl 0 rfl ?_
  refine z_geti C ff_X8_7 82 (by decide) sh82 rfl (v := nI n) hN dX8_oddest_1 ?_
  refine z_if_ne (tgt := 9) C dX8_oddest_4 (by decide) (fun c4 => ?_) (fun c4 => ?_)
  · skip
    have hn0 : n ≠ 0 := fun q => c4 ((nI_0eq (by omega)).mpr q)
    refine z_aload_n C dX8_oddest_9 rfl 0 rfl ?_
    refine z_iload_n C dX8_oddest_10 rfl 1 rfl ?_
    refine z_iconst C (v := 0) dX8_oddest_11 (by decide) ?_
    refine z_bipush C (v := 9) dX8_oddest_12 (by decide) ?_
    refine z_callVi C hm cl_X8_189 cv_X8_in 82 (by decide) sh82 ⟨_, _, rfl⟩ [.int y, .int 0, .int 9] rfl (rest := []) rfl (k_X8_in w _ _ y (0) (9)) ⟨rfl, rfl, Nat.le_of_ble_eq_true rfl, Nat.le_of_ble_eq_true rfl⟩ (Nat.le_of_ble_eq_true rfl) dX8_oddest_14 (fun v_1 I_1 J_1 h_1 => ?_)
    obtain ⟨ev_1, ei_1, ej_1⟩ := h_1
    replace ei_1 := ei_1.symm; subst ei_1
    replace ej_1 := ej_1.symm; subst ej_1
    replace ev_1 := ev_1.trans (bI_c (in_z (m := 9) (by decide))); subst ev_1
    refine z_ifne_b (tgt := 23) C dX8_oddest_17 (by decide) (fun c17 => ?_) (fun c17 => ?_)
    · skip
      obtain ⟨k, hk, rfl⟩ := c17
      refine z_iconst C (v := -1) dX8_oddest_23 (by decide) ?_
      refine z_istore_n C hm (lv' := [(2, .int (-1)), (0, .ref (zad w 82)), (1, .int (nI k))]) dX8_oddest_24 rfl (by decide) rfl ?_
      refine z_lconst C (v := 0) dX8_oddest_25 (by decide) ?_
      refine z_lstore_n C hm (lv' := [(3, .long 0), (2, .int (-1)), (0, .ref (zad w 82)), (1, .int (nI k))]) dX8_oddest_26 rfl (by decide) rfl ?_
      refine z_iconst C (v := 0) dX8_oddest_27 (by decide) ?_
      refine z_istore C hm (lv' := [(5, .int 0), (3, .long 0), (2, .int (-1)), (0, .ref (zad w 82)), (1, .int (nI k))]) dX8_oddest_28 (by decide) rfl ?_
      have L30 : ∀ (d : Nat) (a fb : Nat) (K : zI) (W O : Nat → Int64) (bv : Int32) (ls : Int64) (v30_2 : Int32) (v30_3 : Int64) (v30_5 : Int32) (I30 : zI) (J30 : zJ), (n - a) < d → (a ≤ n) → (frH K I) → ((a = 0 ∧ bv = -1) ∨ (fb < a ∧ bv = nI fb ∧ ls = lN (zAb (fun f => aHab (nI fb) (lt fb) (nI f) A) (zDy bu fr fb tr) k) ∧ ∀ b, b < a → (zAb (fun f => aHab (nI fb) (lt fb) (nI f) A) (zDy bu fr fb tr) k) ≤ (zAb (fun f => aHab (nI b) (lt b) (nI f) A) (zDy bu fr b tr) k) ∧ (b < fb → (zAb (fun f => aHab (nI fb) (lt fb) (nI f) A) (zDy bu fr fb tr) k) < (zAb (fun f => aHab (nI b) (lt b) (nI f) A) (zDy bu fr b tr) k)))) → v30_2 = bv → v30_3 = ls → v30_5 = nI a → I30 = K → J30 = zupJ (zupJ J 105 W) 82 O → Z X w I30 J30 30 [(0, .ref (zad w 82)), (1, .int (nI k)), (2, .int v30_2), (3, .long v30_3), (5, .int v30_5)] [] := by
        intro d
        induction d with
        | zero => intro a fb K W O bv ls v30_2 v30_3 v30_5 I30 J30 hd; exact absurd hd (Nat.not_lt_zero _)
        | succ d ih30 => 
          intro a fb K W O bv ls v30_2 v30_3 v30_5 I30 J30 hd30 ha hKf hi e_v30_2 e_v30_3 e_v30_5 e_I30 e_J30
          replace e_v30_2 := e_v30_2.symm; subst e_v30_2
          replace e_v30_3 := e_v30_3.symm; subst e_v30_3
          replace e_v30_5 := e_v30_5.symm; subst e_v30_5
          replace e_I30 := e_I30.symm; subst e_I30
          replace e_J30 := e_J30.symm; subst e_J30
          refine z_iload C dX8_oddest_30 4 rfl ?_
          refine z_aload_n C dX8_oddest_32 rfl 0 rfl ?_
          refine z_geti C ff_X8_7 82 (by decide) sh82 rfl (v := nI n) (by rw [hKf 82 (by decide) (by decide)]; exact hN) dX8_oddest_33 ?_
          refine z_icmp_ge_n a n (tgt := 74) C rfl rfl (by omega) (by omega) dX8_oddest_36 (by decide) (fun c36 => ?_) (fun c36 => ?_)
          · skip
            have han : a = n := by omega
            obtain ⟨hf1, hf2, _, hf3⟩ := hi.resolve_left (fun q => by omega)
            rw [hf2]
            refine z_iload_n C dX8_oddest_74 rfl 2 rfl ?_
            refine z_iret C hr rfl dX8_oddest_75 ?_
            refine ⟨_, rfl, ?_⟩
            exact ⟨hKf, frW_u, Or.inr (Or.inr ⟨hn0, k, hk, rfl, fb, by omega, rfl, by rw [han] at hf3; exact hf3⟩)⟩
          · skip
            have hSa : (zAb (fun f => aHab (nI a) (lt a) (nI f) A) (zDy bu fr a tr) k) ≤ 100 ^ k := zAb_le (fun f => aHab_le) (by have := zpop_k k (by omega) _ (zset_lt (P := zDy bu fr a tr) k); omega)
            have hB9 := p100_le (k := k) (by omega)
            refine z_aload_n C dX8_oddest_39 rfl 0 rfl ?_
            refine z_iload C dX8_oddest_40 4 rfl ?_
            refine z_iload_n C dX8_oddest_42 rfl 1 rfl ?_
            refine z_callVl C hm cl_X8_315 cv_X8_againOf 82 (by decide) sh82 ⟨_, _, rfl⟩ [.int (nI a), .int (nI k)] rfl (rest := []) rfl (k_X8_againOf w _ _ n tr h A jn lt hd bu ho lo fr a k hn htr hh hd99 (mS_f (frM_h hKf) hS) (by omega) (by omega)) ⟨rfl, rfl, Nat.le_of_ble_eq_true rfl, Nat.le_of_ble_eq_true rfl⟩ (Nat.le_of_ble_eq_true rfl) dX8_oddest_43 (fun v_2 I_2 J_2 h_2 => ?_)
            obtain ⟨ev_2, hf_2, W_2, O_2, eJ_2, hO_2⟩ := h_2
            replace ev_2 := ev_2.symm; subst ev_2
            replace eJ_2 := eJ_2.symm; subst eJ_2
            refine z_J (J' := zupJ (zupJ J 105 W_2) 82 O_2) (by funext zk; simp only [zupJ]; split <;> simp_all [zupJ]) ?_
            refine z_lstore C hm (lv' := [(6, .long (lN (zAb (fun f => aHab (nI a) (lt a) (nI f) A) (zDy bu fr a tr) k))), (0, .ref (zad w 82)), (1, .int (nI k)), (2, .int bv), (3, .long ls), (5, .int (nI a))]) dX8_oddest_46 (by decide) rfl ?_
            refine z_iload_n C dX8_oddest_48 rfl 3 rfl ?_
            refine z_if_lt (tgt := 62) C dX8_oddest_49 (by decide) (fun c49 => ?_) (fun c49 => ?_)
            · skip
              have ha0 : a = 0 := by
                rcases hi with q | ⟨q1, q2, _⟩
                · exact q.1
                · rw [q2] at c49; exact absurd c49 (nI_pos (by omega))
              refine z_iload C dX8_oddest_62 5 rfl ?_
              refine z_istore_n C hm (lv' := [(2, .int (nI a)), (6, .long (lN (zAb (fun f => aHab (nI a) (lt a) (nI f) A) (zDy bu fr a tr) k))), (0, .ref (zad w 82)), (1, .int (nI k)), (3, .long ls), (5, .int (nI a))]) dX8_oddest_64 rfl (by decide) rfl ?_
              refine z_lload C dX8_oddest_65 1 rfl ?_
              refine z_lstore_n C hm (lv' := [(3, .long (lN (zAb (fun f => aHab (nI a) (lt a) (nI f) A) (zDy bu fr a tr) k))), (2, .int (nI a)), (6, .long (lN (zAb (fun f => aHab (nI a) (lt a) (nI f) A) (zDy bu fr a tr) k))), (0, .ref (zad w 82)), (1, .int (nI k)), (5, .int (nI a))]) dX8_oddest_67 rfl (by decide) rfl ?_
              refine z_iinc C hm 5 (v := nI (a + 1)) (lv' := [(5, .int (nI (a + 1))), (3, .long (lN (zAb (fun f => aHab (nI a) (lt a) (nI f) A) (zDy bu fr a tr) k))), (2, .int (nI a)), (6, .long (lN (zAb (fun f => aHab (nI a) (lt a) (nI f) A) (zDy bu fr a tr) k))), (0, .ref (zad w 82)), (1, .int (nI k))]) dX8_oddest_68 rfl (nI_add a 1) (by decide) rfl ?_
              refine z_goto (tgt := 30) C dX8_oddest_71 (by decide) ?_
              exact z_sub [4, 5, 2, 1, 0] rfl (ih30  (a + 1) a _ W_2 O_2 (nI a) (lN (zAb (fun f => aHab (nI a) (lt a) (nI f) A) (zDy bu fr a tr) k)) _ _ _ _ _ (by omega) (by omega) (frH_tr hf_2 hKf) (Or.inr ⟨by omega, rfl, rfl, fun b hb => by
                  have : b = a := by omega
                  subst this
                  exact ⟨Nat.le_refl _, fun q => absurd q (Nat.lt_irrefl _)⟩⟩) rfl rfl rfl rfl rfl)
            · skip
              obtain ⟨hfa, hbv, hls, hmin⟩ := hi.resolve_left (fun q => c49 (by rw [q.2]; decide))
              have hSf : (zAb (fun f => aHab (nI fb) (lt fb) (nI f) A) (zDy bu fr fb tr) k) ≤ 100 ^ k := zAb_le (fun f => aHab_le) (by have := zpop_k k (by omega) _ (zset_lt (P := zDy bu fr fb tr) k); omega)
              rw [hbv, hls]
              clear hi
              refine z_lload C dX8_oddest_52 0 rfl ?_
              refine z_lload_n C dX8_oddest_54 rfl 4 rfl ?_
              refine z_lcmp C dX8_oddest_55 ?_
              refine z_if_lt (tgt := 62) C dX8_oddest_56 (by decide) (fun c56 => ?_) (fun c56 => ?_)
              · skip
                have hlt : (zAb (fun f => aHab (nI a) (lt a) (nI f) A) (zDy bu fr a tr) k) < (zAb (fun f => aHab (nI fb) (lt fb) (nI f) A) (zDy bu fr fb tr) k) := by
                  have q := (lg_cmp_lt _ _).mp c56
                  exact (pk_lLT (by omega) (by omega)).mp q
                refine z_iload C dX8_oddest_62 5 rfl ?_
                refine z_istore_n C hm (lv' := [(2, .int (nI a)), (6, .long (lN (zAb (fun f => aHab (nI a) (lt a) (nI f) A) (zDy bu fr a tr) k))), (0, .ref (zad w 82)), (1, .int (nI k)), (3, .long (lN (zAb (fun f => aHab (nI fb) (lt fb) (nI f) A) (zDy bu fr fb tr) k))), (5, .int (nI a))]) dX8_oddest_64 rfl (by decide) rfl ?_
                refine z_lload C dX8_oddest_65 1 rfl ?_
                refine z_lstore_n C hm (lv' := [(3, .long (lN (zAb (fun f => aHab (nI a) (lt a) (nI f) A) (zDy bu fr a tr) k))), (2, .int (nI a)), (6, .long (lN (zAb (fun f => aHab (nI a) (lt a) (nI f) A) (zDy bu fr a tr) k))), (0, .ref (zad w 82)), (1, .int (nI k)), (5, .int (nI a))]) dX8_oddest_67 rfl (by decide) rfl ?_
                refine z_iinc C hm 5 (v := nI (a + 1)) (lv' := [(5, .int (nI (a + 1))), (3, .long (lN (zAb (fun f => aHab (nI a) (lt a) (nI f) A) (zDy bu fr a tr) k))), (2, .int (nI a)), (6, .long (lN (zAb (fun f => aHab (nI a) (lt a) (nI f) A) (zDy bu fr a tr) k))), (0, .ref (zad w 82)), (1, .int (nI k))]) dX8_oddest_68 rfl (nI_add a 1) (by decide) rfl ?_
                refine z_goto (tgt := 30) C dX8_oddest_71 (by decide) ?_
                exact z_sub [4, 5, 2, 1, 0] rfl (ih30  (a + 1) a _ W_2 O_2 (nI a) (lN (zAb (fun f => aHab (nI a) (lt a) (nI f) A) (zDy bu fr a tr) k)) _ _ _ _ _ (by omega) (by omega) (frH_tr hf_2 hKf) (Or.inr ⟨by omega, rfl, rfl, fun b hb => by
                    by_cases q : b = a
                    · subst q
                      exact ⟨Nat.le_refl _, fun z => absurd z (Nat.lt_irrefl _)⟩
                    · have := (hmin b (by omega)).1
                      exact ⟨by omega, fun _ => by omega⟩⟩) rfl rfl rfl rfl rfl)
              · skip
                have hge : (zAb (fun f => aHab (nI fb) (lt fb) (nI f) A) (zDy bu fr fb tr) k) ≤ (zAb (fun f => aHab (nI a) (lt a) (nI f) A) (zDy bu fr a tr) k) := by
                  have q := Int64.not_lt.mp (fun z => c56 ((lg_cmp_lt _ _).mpr z))
                  exact (pk_lLE (by omega) (by omega)).mp q
                refine z_goto (tgt := 68) C dX8_oddest_59 (by decide) ?_
                refine z_iinc C hm 5 (v := nI (a + 1)) (lv' := [(5, .int (nI (a + 1))), (6, .long (lN (zAb (fun f => aHab (nI a) (lt a) (nI f) A) (zDy bu fr a tr) k))), (0, .ref (zad w 82)), (1, .int (nI k)), (2, .int (nI fb)), (3, .long (lN (zAb (fun f => aHab (nI fb) (lt fb) (nI f) A) (zDy bu fr fb tr) k)))]) dX8_oddest_68 rfl (nI_add a 1) (by decide) rfl ?_
                refine z_goto (tgt := 30) C dX8_oddest_71 (by decide) ?_
                exact z_sub [2, 3, 4, 5, 0] rfl (ih30  (a + 1) fb _ W_2 O_2 (nI fb) (lN (zAb (fun f => aHab (nI fb) (lt fb) (nI f) A) (zDy bu fr fb tr) k)) _ _ _ _ _ (by omega) (by omega) (frH_tr hf_2 hKf) (Or.inr ⟨by omega, rfl, rfl, lt_s hmin ⟨hge, fun q => absurd q (by omega)⟩⟩) rfl rfl rfl rfl rfl)
      exact z_sub [3, 4, 2, 1, 0] rfl (L30 _ 0 0 I (J 105) (J 82) (-1) 0 _ _ _ _ _ (Nat.lt_succ_self _) (Nat.zero_le _) frH_id (Or.inl ⟨rfl, rfl⟩) rfl rfl rfl rfl (by rw [zupJ_id, zupJ_id]))
    · skip
      refine z_bipush C (v := -2) dX8_oddest_20 (by decide) ?_
      refine z_iret C hr rfl dX8_oddest_22 ?_
      refine ⟨_, rfl, ?_⟩
      exact ⟨frH_id, frW_id, Or.inr (Or.inl ⟨hn0, c17, rfl⟩)⟩
  · skip
    have hn0 : n = 0 := (nI_0eq (by omega)).mp c4
    refine z_iconst C (v := -1) dX8_oddest_7 (by decide) ?_
    refine z_iret C hr rfl dX8_oddest_8 ?_
    refine ⟨_, rfl, ?_⟩
    exact ⟨frH_id, frW_id, Or.inl ⟨hn0, rfl⟩⟩
