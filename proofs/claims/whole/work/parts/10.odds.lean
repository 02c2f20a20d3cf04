theorem upd_2 {f : Nat → Int32} {k : Nat} {x y : Int32} : upd (upd f k x) k y = upd f k y := by
  funext j; simp only [upd]; split <;> rfl
abbrev rm_X2_start : Room := { frames := 5, cells := 0, slots := 0, locals := 224 }
set_option maxRecDepth 100000 in
set_option maxHeartbeats 4000000 in
theorem k_X2_start (w : zW) (I : zI) (J : zJ)    : zMet yX2_start cX2_start 1 none rm_X2_start w [.ref (zad w 30)] I J (zpv (fun I' J' => I' = zup I 30 (upd (I 30) 1 0) ∧ J' = zupJ (zupJ J 31 (aW0 (J 31))) 30 (vp_updL (J 30) 3 1))) := by
  refine zMet_of (by decide) (Nat.le_of_ble_eq_true rfl) (fun X C hm hr => ?_)
  refine z_sub (lv' := [(0, .ref (zad w 30))]) [0] rfl ?_
  refine z_aload_n C dX2_start_0 rfl 0 rfl ?_
  refine z_getr C ff_X2_9 30 (by decide) sh30 rfl dX2_start_1 ?_
  refine z_lconst C (v := 0) dX2_start_4 (by decide) ?_
  refine z_callSv C hm cl_X2_15 cs_J7_fill_d0a16 [.ref (zad w 31), .long 0] rfl (rest := []) rfl (k_J7_fill_d0a16 w _ _ 31 10 _ (0) (by decide) sh31 (by decide)) ⟨rfl, rfl, Nat.le_of_ble_eq_true rfl, Nat.le_of_ble_eq_true rfl⟩ (Nat.le_of_ble_eq_true rfl) dX2_start_5 (fun I_1 J_1 h_1 => ?_)
  obtain ⟨ei_1, ej_1⟩ := h_1
  replace ei_1 := ei_1.symm; subst ei_1
  replace ej_1 := ej_1.symm; subst ej_1
  refine z_aload_n C dX2_start_8 rfl 0 rfl ?_
  refine z_getr C ff_X2_9 30 (by decide) sh30 rfl dX2_start_9 ?_
  refine z_iconst C (v := 0) dX2_start_12 (by decide) ?_
  refine z_lconst C (v := 1) dX2_start_13 (by decide) ?_
  refine z_last C 31 (by decide) sh31 0 (by omega) (by decide) rfl dX2_start_14 ?_
  refine z_J (J' := zupJ J 31 (vp_updL (zfill 0 (J 31) 10) 0 1)) (by rw [zupJ_s, zupJ_up]) ?_
  refine z_aload_n C dX2_start_15 rfl 0 rfl ?_
  refine z_iconst C (v := 0) dX2_start_16 (by decide) ?_
  refine z_puti C ff_X2_21 30 (by decide) sh30 rfl rfl rfl dX2_start_17 ?_
  refine z_I (I' := zup I 30 (upd (I 30) 1 0)) rfl ?_
  refine z_aload_n C dX2_start_20 rfl 0 rfl ?_
  refine z_lconst C (v := 1) dX2_start_21 (by decide) ?_
  refine z_putl C ff_X2_25 30 (by decide) sh30 rfl rfl rfl dX2_start_22 ?_
  refine z_J (J' := zupJ (zupJ J 31 (vp_updL (zfill 0 (J 31) 10) 0 1)) 30 (vp_updL (J 30) 3 1)) (by first | rfl | (rw [zupJ_n] <;> omega)) ?_
  refine z_vret C hr dX2_start_25 ?_
  refine ⟨rfl, ?_⟩
  exact ⟨rfl, rfl⟩
abbrev rm_X2_addFriday : Room := { frames := 4, cells := 0, slots := 0, locals := 200 }
set_option maxRecDepth 100000 in
set_option maxHeartbeats 4000000 in
theorem k_X2_addFriday (w : zW) (I : zI) (J : zJ) (dd : Nat) (h : Int32) (hd0 : I 30 1 = nI dd) (hd9 : dd < 9) : zMet yX2_addFriday cX2_addFriday 5 none rm_X2_addFriday w [.ref (zad w 30), .int h] I J (zpv (fun I' J' => I' = zup I 30 (upd (I 30) 1 (nI (dd + 1))) ∧ J' = zupJ (zupJ J 31 (aWp h (J 31) 0 (dd + 1))) 30 (vp_updL (J 30) 3 (J 30 3 * 100)))) := by
  refine zMet_of (by decide) (Nat.le_of_ble_eq_true rfl) (fun X C hm hr => ?_)
  refine z_sub (lv' := [(0, .ref (zad w 30)), (1, .int h)]) [0, 1] rfl ?_
  refine z_aload_n C dX2_addFriday_0 rfl 0 rfl ?_
  refine z_geti C ff_X2_21 30 (by decide) sh30 rfl (v := nI dd) hd0 dX2_addFriday_1 ?_
  refine z_bipush C (v := 9) dX2_addFriday_4 (by decide) ?_
  refine z_icmp_lt_n dd 9 (tgt := 10) C rfl rfl (by omega) (by omega) dX2_addFriday_6 (by decide) (fun c6 => ?_) (fun c6 => ?_)
  · skip
    refine z_aload_n C dX2_addFriday_10 rfl 0 rfl ?_
    refine z_dup C dX2_addFriday_11 rfl ?_
    refine z_geti C ff_X2_21 30 (by decide) sh30 rfl (v := nI dd) hd0 dX2_addFriday_12 ?_
    refine z_iconst C (v := 1) dX2_addFriday_15 (by decide) ?_
    refine z_iadd C dX2_addFriday_16 ?_
    refine z_ti (y := nI (dd + 1)) (nI_add dd 1) ?_
    refine z_puti C ff_X2_21 30 (by decide) sh30 rfl rfl rfl dX2_addFriday_17 ?_
    refine z_I (I' := zup I 30 (upd (I 30) 1 (nI (dd + 1)))) rfl ?_
    refine z_aload_n C dX2_addFriday_20 rfl 0 rfl ?_
    refine z_geti C ff_X2_21 30 (by decide) sh30 rfl (v := nI (dd + 1)) (by first | rfl | (simp [zup, zupJ, upd, vp_updL]; done)) dX2_addFriday_21 ?_
    refine z_istore_n C hm (lv' := [(2, .int (nI (dd + 1))), (0, .ref (zad w 30)), (1, .int h)]) dX2_addFriday_24 rfl (by decide) rfl ?_
    have L25 : ∀ (d : Nat) (m : Nat) (v25_2 : Int32) (J25 : zJ), m < d → (m ≤ dd + 2) → v25_2 = nI m + Int32.ofInt (-1) → J25 = zupJ J 31 (aWp h (J 31) m (dd + 1)) → Z X w (zup I 30 (upd (I 30) 1 (nI (dd + 1)))) J25 25 [(0, .ref (zad w 30)), (1, .int h), (2, .int v25_2)] [] := by
      intro d
      induction d with
      | zero => intro m v25_2 J25 hd; exact absurd hd (Nat.not_lt_zero _)
      | succ d ih25 => 
        intro m v25_2 J25 hd25 hm2 e_v25_2 e_J25
        replace e_v25_2 := e_v25_2.symm; subst e_v25_2
        replace e_J25 := e_J25.symm; subst e_J25
        refine z_iload_n C dX2_addFriday_25 rfl 2 rfl ?_
        refine z_if_lt (tgt := 75) C dX2_addFriday_26 (by decide) (fun c26 => ?_) (fun c26 => ?_)
        · skip
          have hm0 : m = 0 := by
            cases m with
            | zero => rfl
            | succ j => exact absurd c26 (by rw [pm1]; exact nI_pos (by omega))
          refine z_aload_n C dX2_addFriday_75 rfl 0 rfl ?_
          refine z_dup C dX2_addFriday_76 rfl ?_
          refine z_getl C ff_X2_25 30 (by decide) sh30 rfl (v := J 30 3) (by first | rfl | (simp [zup, zupJ, upd, vp_updL]; done)) dX2_addFriday_77 ?_
          refine z_ldc2 C (v := 100) kl_X2_29 dX2_addFriday_80 ?_
          refine z_lmul C dX2_addFriday_83 ?_
          refine z_putl C ff_X2_25 30 (by decide) sh30 rfl rfl rfl dX2_addFriday_84 ?_
          refine z_J (J' := zupJ (zupJ J 31 (aWp h (J 31) m (dd + 1))) 30 (vp_updL (J 30) 3 ((J 30 3) * 100))) (by first | rfl | (rw [zupJ_n] <;> omega)) ?_
          refine z_vret C hr dX2_addFriday_87 ?_
          refine ⟨rfl, ?_⟩
          subst hm0; exact ⟨rfl, rfl⟩
        · skip
          obtain ⟨j, rfl⟩ : ∃ j, m = j + 1 := by
            cases m with
            | zero => exact absurd pm1_0 c26
            | succ j => exact ⟨j, rfl⟩
          rw [pm1]
          refine z_iload_n C dX2_addFriday_29 rfl 2 rfl ?_
          refine z_if_ne (tgt := 37) C dX2_addFriday_30 (by decide) (fun c30 => ?_) (fun c30 => ?_)
          · skip
            have hj0 : ¬ j = 0 := fun q => c30 (by rw [q]; rfl)
            have hj1 : 1 ≤ j := Nat.pos_of_ne_zero hj0
            refine z_aload_n C dX2_addFriday_37 rfl 0 rfl ?_
            refine z_getr C ff_X2_9 30 (by decide) sh30 rfl dX2_addFriday_38 ?_
            refine z_iload_n C dX2_addFriday_41 rfl 2 rfl ?_
            refine z_iconst C (v := 1) dX2_addFriday_42 (by decide) ?_
            refine z_isub C dX2_addFriday_43 ?_
            refine z_ti (y := nI (j - 1)) (pk_sub (b := 1) hj1) ?_
            refine z_lald C 31 (by decide) sh31 (j - 1) (by omega) (by decide) rfl (v := J 31 (j - 1)) (by first | exact (aWp_lo (h := h) (W := J 31) (m := j + 1) (d := dd + 1) (by omega)) | (simp [zup, zupJ, upd, vp_updL]; exact (aWp_lo (h := h) (W := J 31) (m := j + 1) (d := dd + 1) (by omega)))) dX2_addFriday_44 ?_
            refine z_iload_n C dX2_addFriday_45 rfl 1 rfl ?_
            refine z_i2l C (v := h.toInt64) dX2_addFriday_46 rfl ?_
            refine z_lmul C dX2_addFriday_47 ?_
            refine z_lstore_n C hm (lv' := [(3, .long ((J 31 (j - 1)) * h.toInt64)), (0, .ref (zad w 30)), (1, .int h), (2, .int (nI j))]) dX2_addFriday_48 rfl (by decide) rfl ?_
            refine z_aload_n C dX2_addFriday_49 rfl 1 rfl ?_
            refine z_getr C ff_X2_9 30 (by decide) sh30 rfl dX2_addFriday_50 ?_
            refine z_iload_n C dX2_addFriday_53 rfl 3 rfl ?_
            refine z_aload_n C dX2_addFriday_54 rfl 1 rfl ?_
            refine z_getr C ff_X2_9 30 (by decide) sh30 rfl dX2_addFriday_55 ?_
            refine z_iload_n C dX2_addFriday_58 rfl 3 rfl ?_
            refine z_lald C 31 (by decide) sh31 j (by omega) (by decide) rfl (v := J 31 j) (by first | exact (aWp_lo (h := h) (W := J 31) (m := j + 1) (d := dd + 1) (by omega)) | (simp [zup, zupJ, upd, vp_updL]; exact (aWp_lo (h := h) (W := J 31) (m := j + 1) (d := dd + 1) (by omega)))) dX2_addFriday_59 ?_
            refine z_bipush C (v := 100) dX2_addFriday_60 (by decide) ?_
            refine z_iload_n C dX2_addFriday_62 rfl 2 rfl ?_
            refine z_isub C dX2_addFriday_63 ?_
            refine z_i2l C (v := (100 - h).toInt64) dX2_addFriday_64 rfl ?_
            refine z_lmul C dX2_addFriday_65 ?_
            refine z_lload_n C dX2_addFriday_66 rfl 0 rfl ?_
            refine z_ladd C dX2_addFriday_67 ?_
            refine z_last C 31 (by decide) sh31 j (by omega) (by decide) rfl dX2_addFriday_68 ?_
            refine z_J (J' := zupJ J 31 (vp_updL (aWp h (J 31) (j + 1) (dd + 1)) j (((J 31 j) * ((100 - h).toInt64)) + ((J 31 (j - 1)) * h.toInt64)))) (by rw [zupJ_s, zupJ_up]) ?_
            refine z_iinc C hm 3 (v := (nI j) + Int32.ofInt (-1)) (lv' := [(2, .int ((nI j) + Int32.ofInt (-1))), (3, .long ((J 31 (j - 1)) * h.toInt64)), (0, .ref (zad w 30)), (1, .int h)]) dX2_addFriday_69 rfl rfl (by decide) rfl ?_
            refine z_goto (tgt := 25) C dX2_addFriday_72 (by decide) ?_
            exact z_sub [2, 3, 0] rfl (ih25  j _ _ (by omega) (by omega) rfl (by rw [← aWp_s (m := j) (by omega), aWk, if_neg hj0]))
          · skip
            have hj0 : j = 0 := (nI_eq (b := 0) (by omega) (by decide)).mp c30
            refine z_lconst C (v := 0) dX2_addFriday_33 (by decide) ?_
            refine z_goto (tgt := 48) C dX2_addFriday_34 (by decide) ?_
            refine z_lstore_n C hm (lv' := [(3, .long 0), (0, .ref (zad w 30)), (1, .int h), (2, .int (nI j))]) dX2_addFriday_48 rfl (by decide) rfl ?_
            refine z_aload_n C dX2_addFriday_49 rfl 1 rfl ?_
            refine z_getr C ff_X2_9 30 (by decide) sh30 rfl dX2_addFriday_50 ?_
            refine z_iload_n C dX2_addFriday_53 rfl 3 rfl ?_
            refine z_aload_n C dX2_addFriday_54 rfl 1 rfl ?_
            refine z_getr C ff_X2_9 30 (by decide) sh30 rfl dX2_addFriday_55 ?_
            refine z_iload_n C dX2_addFriday_58 rfl 3 rfl ?_
            refine z_lald C 31 (by decide) sh31 j (by omega) (by decide) rfl (v := J 31 j) (by first | exact (aWp_lo (h := h) (W := J 31) (m := j + 1) (d := dd + 1) (by omega)) | (simp [zup, zupJ, upd, vp_updL]; exact (aWp_lo (h := h) (W := J 31) (m := j + 1) (d := dd + 1) (by omega)))) dX2_addFriday_59 ?_
            refine z_bipush C (v := 100) dX2_addFriday_60 (by decide) ?_
            refine z_iload_n C dX2_addFriday_62 rfl 2 rfl ?_
            refine z_isub C dX2_addFriday_63 ?_
            refine z_i2l C (v := (100 - h).toInt64) dX2_addFriday_64 rfl ?_
            refine z_lmul C dX2_addFriday_65 ?_
            refine z_lload_n C dX2_addFriday_66 rfl 0 rfl ?_
            refine z_ladd C dX2_addFriday_67 ?_
            refine z_last C 31 (by decide) sh31 j (by omega) (by decide) rfl dX2_addFriday_68 ?_
            refine z_J (J' := zupJ J 31 (vp_updL (aWp h (J 31) (j + 1) (dd + 1)) j (((J 31 j) * ((100 - h).toInt64)) + 0))) (by rw [zupJ_s, zupJ_up]) ?_
            refine z_iinc C hm 3 (v := (nI j) + Int32.ofInt (-1)) (lv' := [(2, .int ((nI j) + Int32.ofInt (-1))), (3, .long 0), (0, .ref (zad w 30)), (1, .int h)]) dX2_addFriday_69 rfl rfl (by decide) rfl ?_
            refine z_goto (tgt := 25) C dX2_addFriday_72 (by decide) ?_
            exact z_sub [2, 3, 0] rfl (ih25  j _ _ (by omega) (by omega) rfl (by rw [← aWp_s (m := j) (by omega), aWk, if_pos hj0]))
    exact z_sub [1, 2, 0] rfl (L25 _ (dd + 2) _ _ (Nat.lt_succ_self _) (by omega) (pm1 (dd + 1)).symm (by rw [aWp_top, zupJ_id]))
  · skip
    exact absurd c6 (by omega)
abbrev rm_X2_atLeast : Room := { frames := 4, cells := 0, slots := 0, locals := 200 }
set_option maxRecDepth 100000 in
set_option maxHeartbeats 4000000 in
theorem k_X2_atLeast (w : zW) (I : zI) (J : zJ) (dd : Nat) (t : Nat) (hd0 : I 30 1 = nI dd) (hd9 : dd ≤ 9) (ht : t ≤ dd + 1) : zMet yX2_atLeast cX2_atLeast 3 none rm_X2_atLeast w [.ref (zad w 30), .int (nI t)] I J (zpv (fun I' J' => I' = I ∧ J' = zupJ J 30 (vp_updL (J 30) 2 (aTail (J 31) t (dd + 1 - t))))) := by
  refine zMet_of (by decide) (Nat.le_of_ble_eq_true rfl) (fun X C hm hr => ?_)
  refine z_sub (lv' := [(0, .ref (zad w 30)), (1, .int (nI t))]) [0, 1] rfl ?_
  refine z_aload_n C dX2_atLeast_0 rfl 0 rfl ?_
  refine z_lconst C (v := 0) dX2_atLeast_1 (by decide) ?_
  refine z_putl C ff_X2_31 30 (by decide) sh30 rfl rfl rfl dX2_atLeast_2 ?_
  refine z_J (J' := zupJ J 30 (vp_updL (J 30) 2 0)) rfl ?_
  refine z_iload_n C dX2_atLeast_5 rfl 1 rfl ?_
  refine z_iconst C (v := 0) dX2_atLeast_6 (by decide) ?_
  refine z_max C hm ml_X2_34 st_max in_math co_max (Nat.le_of_ble_eq_true rfl) (Nat.le_of_ble_eq_true rfl) dX2_atLeast_7 ?_
  refine z_ti (y := nI t) (max0 (by omega)) ?_
  refine z_istore_n C hm (lv' := [(2, .int (nI t)), (0, .ref (zad w 30)), (1, .int (nI t))]) dX2_atLeast_10 rfl (by decide) rfl ?_
  have L11 : ∀ (d : Nat) (c : Nat) (v11_2 : Int32) (J11 : zJ), (dd + 2 - (t + c)) < d → (t + c ≤ dd + 1) → v11_2 = nI (t + c) → J11 = zupJ J 30 (vp_updL (J 30) 2 (aTail (J 31) t c)) → Z X w I J11 11 [(0, .ref (zad w 30)), (1, .int (nI t)), (2, .int v11_2)] [] := by
    intro d
    induction d with
    | zero => intro c v11_2 J11 hd; exact absurd hd (Nat.not_lt_zero _)
    | succ d ih11 => 
      intro c v11_2 J11 hd11 hc e_v11_2 e_J11
      replace e_v11_2 := e_v11_2.symm; subst e_v11_2
      replace e_J11 := e_J11.symm; subst e_J11
      refine z_iload_n C dX2_atLeast_11 rfl 2 rfl ?_
      refine z_aload_n C dX2_atLeast_12 rfl 0 rfl ?_
      refine z_geti C ff_X2_21 30 (by decide) sh30 rfl (v := nI dd) hd0 dX2_atLeast_13 ?_
      refine z_icmp_gt_n (t + c) dd (tgt := 40) C rfl rfl (by omega) (by omega) dX2_atLeast_16 (by decide) (fun c16 => ?_) (fun c16 => ?_)
      · skip
        have hcc : c = dd + 1 - t := by omega
        refine z_vret C hr dX2_atLeast_40 ?_
        refine ⟨rfl, ?_⟩
        exact ⟨rfl, by rw [hcc]⟩
      · skip
        refine z_aload_n C dX2_atLeast_19 rfl 0 rfl ?_
        refine z_dup C dX2_atLeast_20 rfl ?_
        refine z_getl C ff_X2_31 30 (by decide) sh30 rfl (v := aTail (J 31) t c) (by first | exact rfl | (simp [zup, zupJ, upd, vp_updL]; exact rfl)) dX2_atLeast_21 ?_
        refine z_aload_n C dX2_atLeast_24 rfl 0 rfl ?_
        refine z_getr C ff_X2_9 30 (by decide) sh30 rfl dX2_atLeast_25 ?_
        refine z_iload_n C dX2_atLeast_28 rfl 2 rfl ?_
        refine z_lald C 31 (by decide) sh31 (t + c) (by omega) (by decide) rfl (v := J 31 (t + c)) (by first | rfl | (simp [zup, zupJ, upd, vp_updL]; done)) dX2_atLeast_29 ?_
        refine z_ladd C dX2_atLeast_30 ?_
        refine z_putl C ff_X2_31 30 (by decide) sh30 rfl rfl rfl dX2_atLeast_31 ?_
        refine z_J (J' := zupJ J 30 (vp_updL (vp_updL (J 30) 2 (aTail (J 31) t c)) 2 ((aTail (J 31) t c) + (J 31 (t + c))))) (by rw [zupJ_s, zupJ_up]) ?_
        refine z_iinc C hm 2 (v := nI (t + c + 1)) (lv' := [(2, .int (nI (t + c + 1))), (0, .ref (zad w 30)), (1, .int (nI t))]) dX2_atLeast_34 rfl (nI_add (t + c) 1) (by decide) rfl ?_
        refine z_goto (tgt := 11) C dX2_atLeast_37 (by decide) ?_
        exact z_sub [1, 2, 0] rfl (ih11  (c + 1) _ _ (by omega) (by omega) rfl (by rw [vp_updL_2, aTail]))
  exact z_sub [1, 2, 0] rfl (L11 _ 0 _ _ (Nat.lt_succ_self _) (by omega) rfl rfl)
abbrev rm_X2_multiply : Room := { frames := 4, cells := 0, slots := 0, locals := 200 }
set_option maxRecDepth 100000 in
set_option maxHeartbeats 4000000 in
theorem k_X2_multiply (w : zW) (I : zI) (J : zJ)  (x : Int32)  : zMet yX2_multiply cX2_multiply 2 none rm_X2_multiply w [.ref (zad w 30), .int x] I J (zpv (fun I' J' => I' = I ∧ J' = zupJ J 30 (vp_updL (J 30) 2 (if J 30 3 < J 30 2 * x.toInt64 then J 30 3 else J 30 2 * x.toInt64)))) := by
  refine zMet_of (by decide) (Nat.le_of_ble_eq_true rfl) (fun X C hm hr => ?_)
  refine z_sub (lv' := [(0, .ref (zad w 30)), (1, .int x)]) [0, 1] rfl ?_
  refine z_aload_n C dX2_multiply_0 rfl 0 rfl ?_
  refine z_aload_n C dX2_multiply_1 rfl 0 rfl ?_
  refine z_getl C ff_X2_31 30 (by decide) sh30 rfl (v := J 30 2) rfl dX2_multiply_2 ?_
  refine z_iload_n C dX2_multiply_5 rfl 1 rfl ?_
  refine z_i2l C (v := x.toInt64) dX2_multiply_6 rfl ?_
  refine z_lmul C dX2_multiply_7 ?_
  refine z_aload_n C dX2_multiply_8 rfl 0 rfl ?_
  refine z_getl C ff_X2_25 30 (by decide) sh30 rfl (v := J 30 3) rfl dX2_multiply_9 ?_
  refine z_minl C hm ml_X2_40 st_minl in_math co_minl (Nat.le_of_ble_eq_true rfl) (Nat.le_of_ble_eq_true rfl) dX2_multiply_12 ?_
  refine z_putl C ff_X2_31 30 (by decide) sh30 rfl rfl rfl dX2_multiply_15 ?_
  refine z_J (J' := zupJ J 30 (vp_updL (J 30) 2 (if (J 30 3) < ((J 30 2) * x.toInt64) then (J 30 3) else ((J 30 2) * x.toInt64)))) rfl ?_
  refine z_vret C hr dX2_multiply_18 ?_
  refine ⟨rfl, ?_⟩
  exact ⟨rfl, rfl⟩
abbrev rm_X2_reduce : Room := { frames := 4, cells := 0, slots := 0, locals := 200 }
set_option maxRecDepth 100000 in
set_option maxHeartbeats 4000000 in
theorem k_X2_reduce (w : zW) (I : zI) (J : zJ) (a b : Nat)  (ha2 : J 30 2 = lN a) (hb2 : J 30 3 = lN b) (hab : a ≤ b) (hb0 : 0 < b) (hb63 : b < 2 ^ 63) : zMet yX2_reduce cX2_reduce 8 none rm_X2_reduce w [.ref (zad w 30)] I J (zpv (fun I' J' => I' = I ∧ J' = zupJ J 30 (vp_updL (vp_updL (J 30) 2 (lN (a / Nat.gcd a b))) 3 (lN (b / Nat.gcd a b))))) := by
  refine zMet_of (by decide) (Nat.le_of_ble_eq_true rfl) (fun X C hm hr => ?_)
  refine z_sub (lv' := [(0, .ref (zad w 30))]) [0] rfl ?_
  refine z_aload_n C dX2_reduce_0 rfl 0 rfl ?_
  refine z_getl C ff_X2_25 30 (by decide) sh30 rfl (v := lN b) hb2 dX2_reduce_1 ?_
  refine z_lstore_n C hm (lv' := [(1, .long (lN b)), (0, .ref (zad w 30))]) dX2_reduce_4 rfl (by decide) rfl ?_
  refine z_aload_n C dX2_reduce_5 rfl 1 rfl ?_
  refine z_getl C ff_X2_31 30 (by decide) sh30 rfl (v := lN a) ha2 dX2_reduce_6 ?_
  refine z_lstore_n C hm (lv' := [(3, .long (lN a)), (1, .long (lN b)), (0, .ref (zad w 30))]) dX2_reduce_9 rfl (by decide) rfl ?_
  refine z_iconst C (v := 0) dX2_reduce_10 (by decide) ?_
  refine z_istore C hm (lv' := [(5, .int 0), (3, .long (lN a)), (1, .long (lN b)), (0, .ref (zad w 30))]) dX2_reduce_11 (by decide) rfl ?_
  have L13 : ∀ (d : Nat) (gg ss i : Nat) (v13_1 : Int64) (v13_3 : Int64) (v13_5 : Int32), (201 - i) < d → (ss ≤ gg) → (Nat.gcd gg ss = Nat.gcd b a) → (i ≤ 200) → (gg * ss * 2 ^ i ≤ 2 ^ 126) → (gg < 2 ^ 63) → v13_1 = lN gg → v13_3 = lN ss → v13_5 = nI i → Z X w I J 13 [(0, .ref (zad w 30)), (1, .long v13_1), (3, .long v13_3), (5, .int v13_5)] [] := by
    intro d
    induction d with
    | zero => intro gg ss i v13_1 v13_3 v13_5 hd; exact absurd hd (Nat.not_lt_zero _)
    | succ d ih13 => 
      intro gg ss i v13_1 v13_3 v13_5 hd13 h1 h2 h3 h4 h5 e_v13_1 e_v13_3 e_v13_5
      replace e_v13_1 := e_v13_1.symm; subst e_v13_1
      replace e_v13_3 := e_v13_3.symm; subst e_v13_3
      replace e_v13_5 := e_v13_5.symm; subst e_v13_5
      refine z_iload C dX2_reduce_13 3 rfl ?_
      refine z_sipush C (v := 200) dX2_reduce_15 (by decide) ?_
      refine z_icmp_ge_n i 200 (tgt := 43) C rfl rfl (by omega) (by omega) dX2_reduce_18 (by decide) (fun c18 => ?_) (fun c18 => ?_)
      · skip
        have hs0 : ss = 0 := by
          rcases Nat.eq_zero_or_pos ss with q | q
          · exact q
          · exact (gcd_end h1 q (by have hi2 : i = 200 := by omega
                                    rw [hi2] at h4; exact h4)).elim
        have hgg : gg = Nat.gcd b a := by rw [← h2, hs0, Nat.gcd_zero_right]
        have hgp : 0 < gg := by rw [hgg]; exact Nat.gcd_pos_of_pos_left a hb0
        refine z_lload_n C dX2_reduce_43 rfl 1 rfl ?_
        refine z_lconst C (v := 0) dX2_reduce_44 (by decide) ?_
        refine z_lcmp C dX2_reduce_45 ?_
        refine z_if_eq (tgt := 69) C dX2_reduce_46 (by decide) (fun c46 => ?_) (fun c46 => ?_)
        · skip
          exact absurd ((pk_lEQ (b := 0) (by omega) (by decide)).mp ((lg_cmp_eq _ _).mp c46)) (by omega)
        · skip
          refine z_aload_n C dX2_reduce_49 rfl 0 rfl ?_
          refine z_dup C dX2_reduce_50 rfl ?_
          refine z_getl C ff_X2_31 30 (by decide) sh30 rfl (v := lN a) ha2 dX2_reduce_51 ?_
          refine z_lload_n C dX2_reduce_54 rfl 1 rfl ?_
          refine z_ldiv C dX2_reduce_55 (fun q => c46 ((lg_cmp_eq _ _).mpr q)) ?_
          refine z_tl (y := lN (a / gg)) (pk_lDiv (by omega) hgp (by omega)) ?_
          refine z_putl C ff_X2_31 30 (by decide) sh30 rfl rfl rfl dX2_reduce_56 ?_
          refine z_J (J' := zupJ J 30 (vp_updL (J 30) 2 (lN (a / gg)))) rfl ?_
          refine z_aload_n C dX2_reduce_59 rfl 0 rfl ?_
          refine z_dup C dX2_reduce_60 rfl ?_
          refine z_getl C ff_X2_25 30 (by decide) sh30 rfl (v := lN b) (by first | exact hb2 | (simp [zup, zupJ, upd, vp_updL]; exact hb2)) dX2_reduce_61 ?_
          refine z_lload_n C dX2_reduce_64 rfl 1 rfl ?_
          refine z_ldiv C dX2_reduce_65 (fun q => c46 ((lg_cmp_eq _ _).mpr q)) ?_
          refine z_tl (y := lN (b / gg)) (pk_lDiv (by omega) hgp (by omega)) ?_
          refine z_putl C ff_X2_25 30 (by decide) sh30 rfl rfl rfl dX2_reduce_66 ?_
          refine z_J (J' := zupJ J 30 (vp_updL (vp_updL (J 30) 2 (lN (a / gg))) 3 (lN (b / gg)))) (by rw [zupJ_s, zupJ_up]) ?_
          refine z_vret C hr dX2_reduce_69 ?_
          refine ⟨rfl, ?_⟩
          exact ⟨rfl, by rw [hgg, Nat.gcd_comm a b]⟩
      · skip
        refine z_lload_n C dX2_reduce_21 rfl 2 rfl ?_
        refine z_lconst C (v := 0) dX2_reduce_22 (by decide) ?_
        refine z_lcmp C dX2_reduce_23 ?_
        refine z_if_eq (tgt := 43) C dX2_reduce_24 (by decide) (fun c24 => ?_) (fun c24 => ?_)
        · skip
          have hs0 : ss = 0 := (pk_lEQ (b := 0) (by omega) (by decide)).mp ((lg_cmp_eq _ _).mp c24)
          have hgg : gg = Nat.gcd b a := by rw [← h2, hs0, Nat.gcd_zero_right]
          have hgp : 0 < gg := by rw [hgg]; exact Nat.gcd_pos_of_pos_left a hb0
          refine z_lload_n C dX2_reduce_43 rfl 1 rfl ?_
          refine z_lconst C (v := 0) dX2_reduce_44 (by decide) ?_
          refine z_lcmp C dX2_reduce_45 ?_
          refine z_if_eq (tgt := 69) C dX2_reduce_46 (by decide) (fun c46 => ?_) (fun c46 => ?_)
          · skip
            exact absurd ((pk_lEQ (b := 0) (by omega) (by decide)).mp ((lg_cmp_eq _ _).mp c46)) (by omega)
          · skip
            refine z_aload_n C dX2_reduce_49 rfl 0 rfl ?_
            refine z_dup C dX2_reduce_50 rfl ?_
            refine z_getl C ff_X2_31 30 (by decide) sh30 rfl (v := lN a) ha2 dX2_reduce_51 ?_
            refine z_lload_n C dX2_reduce_54 rfl 1 rfl ?_
            refine z_ldiv C dX2_reduce_55 (fun q => c46 ((lg_cmp_eq _ _).mpr q)) ?_
            refine z_tl (y := lN (a / gg)) (pk_lDiv (by omega) hgp (by omega)) ?_
            refine z_putl C ff_X2_31 30 (by decide) sh30 rfl rfl rfl dX2_reduce_56 ?_
            refine z_J (J' := zupJ J 30 (vp_updL (J 30) 2 (lN (a / gg)))) rfl ?_
            refine z_aload_n C dX2_reduce_59 rfl 0 rfl ?_
            refine z_dup C dX2_reduce_60 rfl ?_
            refine z_getl C ff_X2_25 30 (by decide) sh30 rfl (v := lN b) (by first | exact hb2 | (simp [zup, zupJ, upd, vp_updL]; exact hb2)) dX2_reduce_61 ?_
            refine z_lload_n C dX2_reduce_64 rfl 1 rfl ?_
            refine z_ldiv C dX2_reduce_65 (fun q => c46 ((lg_cmp_eq _ _).mpr q)) ?_
            refine z_tl (y := lN (b / gg)) (pk_lDiv (by omega) hgp (by omega)) ?_
            refine z_putl C ff_X2_25 30 (by decide) sh30 rfl rfl rfl dX2_reduce_66 ?_
            refine z_J (J' := zupJ J 30 (vp_updL (vp_updL (J 30) 2 (lN (a / gg))) 3 (lN (b / gg)))) (by rw [zupJ_s, zupJ_up]) ?_
            refine z_vret C hr dX2_reduce_69 ?_
            refine ⟨rfl, ?_⟩
            exact ⟨rfl, by rw [hgg, Nat.gcd_comm a b]⟩
        · skip
          have hs1 : 0 < ss := Nat.pos_of_ne_zero (fun q => c24 ((lg_cmp_eq _ _).mpr (by rw [q]; rfl)))
          refine z_lload_n C dX2_reduce_27 rfl 1 rfl ?_
          refine z_lload_n C dX2_reduce_28 rfl 2 rfl ?_
          refine z_lrem C dX2_reduce_29 (fun q => c24 ((lg_cmp_eq _ _).mpr q)) ?_
          refine z_tl (y := lN (gg % ss)) (pk_lRem (by omega) hs1 (by omega)) ?_
          refine z_lstore C hm (lv' := [(6, .long (lN (gg % ss))), (0, .ref (zad w 30)), (1, .long (lN gg)), (3, .long (lN ss)), (5, .int (nI i))]) dX2_reduce_30 (by decide) rfl ?_
          refine z_lload_n C dX2_reduce_32 rfl 3 rfl ?_
          refine z_lstore_n C hm (lv' := [(1, .long (lN ss)), (6, .long (lN (gg % ss))), (0, .ref (zad w 30)), (3, .long (lN ss)), (5, .int (nI i))]) dX2_reduce_33 rfl (by decide) rfl ?_
          refine z_lload C dX2_reduce_34 1 rfl ?_
          refine z_lstore_n C hm (lv' := [(3, .long (lN (gg % ss))), (1, .long (lN ss)), (6, .long (lN (gg % ss))), (0, .ref (zad w 30)), (5, .int (nI i))]) dX2_reduce_36 rfl (by decide) rfl ?_
          refine z_iinc C hm 4 (v := nI (i + 1)) (lv' := [(5, .int (nI (i + 1))), (3, .long (lN (gg % ss))), (1, .long (lN ss)), (6, .long (lN (gg % ss))), (0, .ref (zad w 30))]) dX2_reduce_37 rfl (nI_add i 1) (by decide) rfl ?_
          refine z_goto (tgt := 13) C dX2_reduce_40 (by decide) ?_
          exact z_sub [4, 2, 1, 0] rfl (ih13  ss (gg % ss) (i + 1) _ _ _ (by omega) (gcd_step h1 hs1 h4).1 (by rw [Nat.gcd_comm, ← Nat.gcd_rec, Nat.gcd_comm]; exact h2) (by omega) (gcd_step h1 hs1 h4).2 (by omega) rfl rfl rfl)
  exact z_sub [3, 2, 1, 0] rfl (L13 _ b a 0 _ _ _ (Nat.lt_succ_self _) hab rfl (by omega) (by rw [Nat.pow_zero, Nat.mul_one]; exact Nat.le_trans (Nat.mul_le_mul (Nat.le_of_lt hb63) (Nat.le_of_lt (Nat.lt_of_le_of_lt hab hb63))) (by decide)) hb63 rfl rfl rfl)
