/-! the reference: fills, filled, judge -/
def frF (I' I : zI) : Prop := ∀ k, k ≠ 107 → k ≠ 108 → k ≠ 109 → I' k = I k
theorem lm1 {i m : Nat} (hi : i < 2 ^ 31) (hm : m < 2 ^ 31) : nI i ≤ nI m - 1 ↔ i < m := by
  cases m with
  | zero =>
    refine ⟨fun h => ?_, fun h => absurd h (Nat.not_lt_zero _)⟩
    exact absurd (Int32.le_trans (nI_pos' hi) h) (by decide)
  | succ m => rw [nI_pred, nI_leI hi (by omega)]; omega
abbrev rm_X8_fills : Room := { frames := 6, cells := 0, slots := 0, locals := 245 }
set_option maxRecDepth 100000 in
set_option maxHeartbeats 4000000 in
theorem k_X8_fills (w : zW) (I : zI) (J : zJ) (n bk : Nat) (lt bl : Nat → Int32) (x : Int32) (hN : I 82 0 = nI n) (hn : n ≤ 8) (hK : I 82 35 = nI bk) (hbk : bk ≤ 6) (hLt : ∀ k, k < 8 → I 83 k = lt k) (hBl : ∀ k, k < 6 → I 106 k = bl k) : zMet yX8_fills cX8_fills 4 (some .int) rm_X8_fills w [.ref (zad w 82), .int x] I J (zpi (fun v I' J' => v = cif (x = -1) (nI (zWf (zNo lt n) bl bk)) (cif (zin x bk) (nI (zNo lt n (bl (zn x)))) (-1)) ∧ frF I' I ∧ J' = J)) := by
  refine zMet_of (by decide) (Nat.le_of_ble_eq_true rfl) (fun X C hm hr => ?_)
  refine z_sub (lv' := [(0, .ref (zad w 82)), (1, .int x)]) [0, 1] rfl ?_
  refine z_aload_n C dX8_fills_0 rfl 0 rfl ?_
  refine z_iload_n C dX8_fills_1 rfl 1 rfl ?_
  refine z_iconst C (v := -1) dX8_fills_2 (by decide) ?_
  refine z_aload_n C dX8_fills_3 rfl 0 rfl ?_
  refine z_geti C ff_X8_119 82 (by decide) sh82 rfl (v := nI bk) hK dX8_fills_4 ?_
  refine z_iconst C (v := 1) dX8_fills_7 (by decide) ?_
  refine z_isub C dX8_fills_8 ?_
  refine z_callVi C hm cl_X8_189 cv_X8_in 82 (by decide) sh82 ⟨_, _, rfl⟩ [.int x, .int (-1), .int ((nI bk) - 1)] rfl (rest := []) rfl (k_X8_in w _ _ x (-1) ((nI bk) - 1)) ⟨rfl, rfl, Nat.le_of_ble_eq_true rfl, Nat.le_of_ble_eq_true rfl⟩ (Nat.le_of_ble_eq_true rfl) dX8_fills_9 (fun v_1 I_1 J_1 h_1 => ?_)
  obtain ⟨ev_1, ei_1, ej_1⟩ := h_1
  replace ei_1 := ei_1.symm; subst ei_1
  replace ej_1 := ej_1.symm; subst ej_1
  replace ev_1 := ev_1.trans (bI_c (in_mn (n := bk) (by omega))); subst ev_1
  refine z_ifne_b (tgt := 17) C dX8_fills_12 (by decide) (fun c12 => ?_) (fun c12 => ?_)
  · skip
    refine z_iload_n C dX8_fills_17 rfl 1 rfl ?_
    refine z_if_ge (tgt := 26) C dX8_fills_18 (by decide) (fun c18 => ?_) (fun c18 => ?_)
    · skip
      obtain ⟨i, hi, rfl⟩ := c12.resolve_left (fun q => by rw [q] at c18; exact absurd c18 (by decide))
      refine z_iconst C (v := 0) dX8_fills_26 (by decide) ?_
      refine z_istore_n C hm (lv' := [(2, .int 0), (0, .ref (zad w 82)), (1, .int (nI i))]) dX8_fills_27 rfl (by decide) rfl ?_
      refine z_iconst C (v := 0) dX8_fills_28 (by decide) ?_
      refine z_istore_n C hm (lv' := [(3, .int 0), (2, .int 0), (0, .ref (zad w 82)), (1, .int (nI i))]) dX8_fills_29 rfl (by decide) rfl ?_
      have L30 : ∀ (d : Nat) (a : Nat) (v30_2 : Int32) (v30_3 : Int32), (n - a) < d → (a ≤ n) → v30_2 = nI (zset (fun a => pB (lt a = bl i)) a) → v30_3 = nI a → Z X w I J 30 [(0, .ref (zad w 82)), (1, .int (nI i)), (2, .int v30_2), (3, .int v30_3)] [] := by
        intro d
        induction d with
        | zero => intro a v30_2 v30_3 hd; exact absurd hd (Nat.not_lt_zero _)
        | succ d ih30 => 
          intro a v30_2 v30_3 hd30 ha e_v30_2 e_v30_3
          replace e_v30_2 := e_v30_2.symm; subst e_v30_2
          replace e_v30_3 := e_v30_3.symm; subst e_v30_3
          refine z_iload_n C dX8_fills_30 rfl 3 rfl ?_
          refine z_aload_n C dX8_fills_31 rfl 0 rfl ?_
          refine z_geti C ff_X8_7 82 (by decide) sh82 rfl (v := nI n) hN dX8_fills_32 ?_
          refine z_icmp_ge_n a n (tgt := 69) C rfl rfl (by omega) (by omega) dX8_fills_35 (by decide) (fun c35 => ?_) (fun c35 => ?_)
          · skip
            have han : a = n := by omega
            refine z_iload_n C dX8_fills_69 rfl 2 rfl ?_
            refine z_iret C hr rfl dX8_fills_70 ?_
            refine ⟨_, rfl, ?_⟩
            exact ⟨by rw [cif_f (fun q => absurd (nI_pos' (n := i) (by omega)) (by rw [q]; decide)), cif_t ⟨i, hi, rfl⟩, zn_n (by omega), han]; rfl, fun _ _ _ _ => rfl, rfl⟩
          · skip
            refine z_iload_n C dX8_fills_38 rfl 2 rfl ?_
            refine z_aload_n C dX8_fills_39 rfl 0 rfl ?_
            refine z_getr C ff_X8_13 82 (by decide) sh82 rfl dX8_fills_40 ?_
            refine z_iload_n C dX8_fills_43 rfl 3 rfl ?_
            refine z_iald C 83 (by decide) sh83 a (by omega) (by decide) rfl (v := lt a) (hLt a (by omega)) dX8_fills_44 ?_
            refine z_aload_n C dX8_fills_45 rfl 0 rfl ?_
            refine z_getr C ff_X8_122 82 (by decide) sh82 rfl dX8_fills_46 ?_
            refine z_iload_n C dX8_fills_49 rfl 1 rfl ?_
            refine z_iald C 106 (by decide) sh106 i (by omega) (by decide) rfl (v := bl i) (hBl i (by omega)) dX8_fills_50 ?_
            refine z_icmp_ne (tgt := 60) C dX8_fills_51 (by decide) (fun c51 => ?_) (fun c51 => ?_)
            · skip
              refine z_iconst C (v := 0) dX8_fills_60 (by decide) ?_
              refine z_ior C dX8_fills_61 ?_
              refine z_istore_n C hm (lv' := [(2, .int ((nI (zset (fun a => pB (lt a = bl i)) a)) ||| 0)), (0, .ref (zad w 82)), (1, .int (nI i)), (3, .int (nI a))]) dX8_fills_62 rfl (by decide) rfl ?_
              refine z_iinc C hm 3 (v := nI (a + 1)) (lv' := [(3, .int (nI (a + 1))), (2, .int ((nI (zset (fun a => pB (lt a = bl i)) a)) ||| 0)), (0, .ref (zad w 82)), (1, .int (nI i))]) dX8_fills_63 rfl (nI_add a 1) (by decide) rfl ?_
              refine z_goto (tgt := 30) C dX8_fills_66 (by decide) ?_
              exact z_sub [2, 3, 1, 0] rfl (ih30  (a + 1) _ _ (by omega) (by omega) (by rw [zset, if_neg (fun q => c51 (pB_i.mp q)), Nat.add_zero]; exact or_0 _) rfl)
            · skip
              refine z_iconst C (v := 1) dX8_fills_54 (by decide) ?_
              refine z_iload_n C dX8_fills_55 rfl 3 rfl ?_
              refine z_ishl C dX8_fills_56 ?_
              refine z_goto (tgt := 61) C dX8_fills_57 (by decide) ?_
              refine z_ior C dX8_fills_61 ?_
              refine z_istore_n C hm (lv' := [(2, .int ((nI (zset (fun a => pB (lt a = bl i)) a)) ||| (1 <<< ((nI a) &&& 31)))), (0, .ref (zad w 82)), (1, .int (nI i)), (3, .int (nI a))]) dX8_fills_62 rfl (by decide) rfl ?_
              refine z_iinc C hm 3 (v := nI (a + 1)) (lv' := [(3, .int (nI (a + 1))), (2, .int ((nI (zset (fun a => pB (lt a = bl i)) a)) ||| (1 <<< ((nI a) &&& 31)))), (0, .ref (zad w 82)), (1, .int (nI i))]) dX8_fills_63 rfl (nI_add a 1) (by decide) rfl ?_
              refine z_goto (tgt := 30) C dX8_fills_66 (by decide) ?_
              exact z_sub [2, 3, 1, 0] rfl (ih30  (a + 1) _ _ (by omega) (by omega) (by rw [zset, if_pos (pB_t c51)]; exact or_bit (zset_lt a) (by omega)) rfl)
      exact z_sub [2, 3, 1, 0] rfl (L30 _ 0 _ _ (Nat.lt_succ_self _) (Nat.zero_le _) rfl rfl)
    · skip
      have hx1 : x = -1 := c12.resolve_right (fun ⟨k, q1, q2⟩ => c18 (by rw [q2]; exact nI_pos' (by omega)))
      refine z_aload_n C dX8_fills_21 rfl 0 rfl ?_
      refine z_callVi C hm cl_X8_330 cv_X8_fillAll 82 (by decide) sh82 ⟨_, _, rfl⟩ [] rfl (rest := []) rfl (k_X8_fillAll w _ _ n bk lt bl  hN hn hK hbk hLt hBl) ⟨rfl, rfl, Nat.le_of_ble_eq_true rfl, Nat.le_of_ble_eq_true rfl⟩ (Nat.le_of_ble_eq_true rfl) dX8_fills_22 (fun v_2 I_2 J_2 h_2 => ?_)
      obtain ⟨ev_2, eJ_2, hf_2, Z_2, hZ_2⟩ := h_2
      replace ev_2 := ev_2.symm; subst ev_2
      replace eJ_2 := eJ_2.symm; subst eJ_2
      refine z_iret C hr rfl dX8_fills_25 ?_
      refine ⟨_, rfl, ?_⟩
      exact ⟨by rw [cif_t hx1], hf_2, rfl⟩
  · skip
    refine z_iconst C (v := -1) dX8_fills_15 (by decide) ?_
    refine z_iret C hr rfl dX8_fills_16 ?_
    refine ⟨_, rfl, ?_⟩
    exact ⟨by rw [cif_f (fun q => c12 (Or.inl q)), cif_f (fun q => c12 (Or.inr q))], fun _ _ _ _ => rfl, rfl⟩
theorem p9_6 {b : Nat} (h : b ≤ 6) : 9 ^ b ≤ 531441 := Nat.le_trans (Nat.pow_le_pow_right (by decide) h) (by decide)
abbrev rm_X8_filled : Room := { frames := 6, cells := 0, slots := 0, locals := 245 }
set_option maxRecDepth 100000 in
set_option maxHeartbeats 4000000 in
theorem k_X8_filled (w : zW) (I : zI) (J : zJ) (n bk : Nat) (lt bl : Nat → Int32) (x : Int32) (hN : I 82 0 = nI n) (hn : n ≤ 8) (hK : I 82 35 = nI bk) (hbk : bk ≤ 6) (hLt : ∀ k, k < 8 → I 83 k = lt k) (hBl : ∀ k, k < 6 → I 106 k = bl k) : zMet yX8_filled cX8_filled 3 (some .int) rm_X8_filled w [.ref (zad w 82), .int x] I J (zpi (fun v I' J' => ((¬ zin x bk ∧ v = -1) ∨ ∃ i, i < bk ∧ x = nI i ∧ ((zWf (zNo lt n) bl bk = 0 ∧ v = -5) ∨ (zWf (zNo lt n) bl bk ≠ 0 ∧ ((zpop (zNo lt n (bl i)) = 1 ∧ ∃ a, a < n ∧ zb (zNo lt n (bl i)) a = true ∧ v = nI a ∧ ∀ b, b < a → zb (zNo lt n (bl i)) b = false) ∨ (zpop (zNo lt n (bl i)) ≠ 1 ∧ v = -5))))) ∧ frF I' I ∧ J' = J)) := by
  refine zMet_of (by decide) (Nat.le_of_ble_eq_true rfl) (fun X C hm hr => ?_)
  refine z_sub (lv' := [(0, .ref (zad w 82)), (1, .int x)]) [0, 1] rfl ?_
  refine z_aload_n C dX8_filled_0 rfl 0 rfl ?_
  refine z_iload_n C dX8_filled_1 rfl 1 rfl ?_
  refine z_iconst C (v := 0) dX8_filled_2 (by decide) ?_
  refine z_aload_n C dX8_filled_3 rfl 0 rfl ?_
  refine z_geti C ff_X8_119 82 (by decide) sh82 rfl (v := nI bk) hK dX8_filled_4 ?_
  refine z_iconst C (v := 1) dX8_filled_7 (by decide) ?_
  refine z_isub C dX8_filled_8 ?_
  refine z_callVi C hm cl_X8_189 cv_X8_in 82 (by decide) sh82 ⟨_, _, rfl⟩ [.int x, .int 0, .int ((nI bk) - 1)] rfl (rest := []) rfl (k_X8_in w _ _ x (0) ((nI bk) - 1)) ⟨rfl, rfl, Nat.le_of_ble_eq_true rfl, Nat.le_of_ble_eq_true rfl⟩ (Nat.le_of_ble_eq_true rfl) dX8_filled_9 (fun v_1 I_1 J_1 h_1 => ?_)
  obtain ⟨ev_1, ei_1, ej_1⟩ := h_1
  replace ei_1 := ei_1.symm; subst ei_1
  replace ej_1 := ej_1.symm; subst ej_1
  replace ev_1 := ev_1.trans (bI_c (in_n (n := bk) (by omega))); subst ev_1
  refine z_ifne_b (tgt := 17) C dX8_filled_12 (by decide) (fun c12 => ?_) (fun c12 => ?_)
  · skip
    obtain ⟨i, hi, rfl⟩ := c12
    refine z_aload_n C dX8_filled_17 rfl 0 rfl ?_
    refine z_callVi C hm cl_X8_330 cv_X8_fillAll 82 (by decide) sh82 ⟨_, _, rfl⟩ [] rfl (rest := []) rfl (k_X8_fillAll w _ _ n bk lt bl  hN hn hK hbk hLt hBl) ⟨rfl, rfl, Nat.le_of_ble_eq_true rfl, Nat.le_of_ble_eq_true rfl⟩ (Nat.le_of_ble_eq_true rfl) dX8_filled_18 (fun v_2 I_2 J_2 h_2 => ?_)
    obtain ⟨ev_2, eJ_2, hf_2, Z_2, hZ_2⟩ := h_2
    replace ev_2 := ev_2.symm; subst ev_2
    replace eJ_2 := eJ_2.symm; subst eJ_2
    refine z_if_ne (tgt := 27) C dX8_filled_21 (by decide) (fun c21 => ?_) (fun c21 => ?_)
    · skip
      have hz1 : zWf (zNo lt n) bl bk ≠ 0 := fun q => c21 (by rw [q]; rfl)
      obtain ⟨hZ1, hZ2, hZ3⟩ := hZ_2 i hi
      have hZz := hZ3 hz1
      refine z_iconst C (v := 0) dX8_filled_27 (by decide) ?_
      refine z_istore_n C hm (lv' := [(2, .int 0), (0, .ref (zad w 82)), (1, .int (nI i))]) dX8_filled_28 rfl (by decide) rfl ?_
      have L29 : ∀ (d : Nat) (a : Nat) (v29_2 : Int32), (n - a) < d → (a ≤ n) → (∀ b, b < a → ¬ zb (Z_2 i) b = true) → v29_2 = nI a → Z X w I_2 J 29 [(0, .ref (zad w 82)), (1, .int (nI i)), (2, .int v29_2)] [] := by
        intro d
        induction d with
        | zero => intro a v29_2 hd; exact absurd hd (Nat.not_lt_zero _)
        | succ d ih29 => 
          intro a v29_2 hd29 ha hno e_v29_2
          replace e_v29_2 := e_v29_2.symm; subst e_v29_2
          refine z_iload_n C dX8_filled_29 rfl 2 rfl ?_
          refine z_aload_n C dX8_filled_30 rfl 0 rfl ?_
          refine z_geti C ff_X8_7 82 (by decide) sh82 rfl (v := nI n) (by rw [hf_2 82 (by decide) (by decide) (by decide)]; exact hN) dX8_filled_31 ?_
          refine z_icmp_ge_n a n (tgt := 59) C rfl rfl (by omega) (by omega) dX8_filled_34 (by decide) (fun c34 => ?_) (fun c34 => ?_)
          · skip
            have han : a = n := by omega
            refine z_bipush C (v := -5) dX8_filled_59 (by decide) ?_
            refine z_iret C hr rfl dX8_filled_61 ?_
            refine ⟨_, rfl, ?_⟩
            refine ⟨Or.inr ⟨i, hi, rfl, Or.inr ⟨hz1, Or.inr ⟨fun q => ?_, rfl⟩⟩⟩, hf_2, rfl⟩
            have q2 := q
            rw [show zNo lt n (bl i) = zset (fun a => pB (lt a = bl i)) n from rfl, ct_z n (by omega), ct_1] at q2
            obtain ⟨y0, y1, y2, _⟩ := q2
            exact hno y0 (by omega) ((hZz y0 y1).mpr ⟨q, by rw [show zNo lt n (bl i) = zset (fun a => pB (lt a = bl i)) n from rfl, zset_b, y2]; simp [y1]⟩)
          · skip
            refine z_aload_n C dX8_filled_37 rfl 0 rfl ?_
            refine z_aload_n C dX8_filled_38 rfl 0 rfl ?_
            refine z_getr C ff_X8_131 82 (by decide) sh82 rfl dX8_filled_39 ?_
            refine z_iload_n C dX8_filled_42 rfl 1 rfl ?_
            refine z_iald C 109 (by decide) sh109 i (by omega) (by decide) rfl (v := nI (Z_2 i)) hZ1 dX8_filled_43 ?_
            refine z_iload_n C dX8_filled_44 rfl 2 rfl ?_
            refine z_callVi C hm cl_X8_275 cv_X8_has 82 (by decide) sh82 ⟨_, _, rfl⟩ [.int (nI (Z_2 i)), .int (nI a)] rfl (rest := []) rfl (k_X8_has w _ _  (Z_2 i) a (by omega) (by omega)) ⟨rfl, rfl, Nat.le_of_ble_eq_true rfl, Nat.le_of_ble_eq_true rfl⟩ (Nat.le_of_ble_eq_true rfl) dX8_filled_45 (fun v_3 I_3 J_3 h_3 => ?_)
            obtain ⟨ev_3, ei_3, ej_3⟩ := h_3
            replace ev_3 := ev_3.symm; subst ev_3
            replace ei_3 := ei_3.symm; subst ei_3
            replace ej_3 := ej_3.symm; subst ej_3
            refine z_ifeq_b (tgt := 53) C dX8_filled_48 (by decide) (fun c48 => ?_) (fun c48 => ?_)
            · skip
              refine z_iinc C hm 2 (v := nI (a + 1)) (lv' := [(2, .int (nI (a + 1))), (0, .ref (zad w 82)), (1, .int (nI i))]) dX8_filled_53 rfl (nI_add a 1) (by decide) rfl ?_
              refine z_goto (tgt := 29) C dX8_filled_56 (by decide) ?_
              exact z_sub [1, 2, 0] rfl (ih29  (a + 1) _ (by omega) (by omega) (lt_s hno c48) rfl)
            · skip
              refine z_iload_n C dX8_filled_51 rfl 2 rfl ?_
              refine z_iret C hr rfl dX8_filled_52 ?_
              refine ⟨_, rfl, ?_⟩
              have hq := (hZz a c34).mp c48
              exact ⟨Or.inr ⟨i, hi, rfl, Or.inr ⟨hz1, Or.inl ⟨hq.1, a, c34, hq.2, rfl, fun b hb => eq_false_of_ne_true (fun z => hno b hb ((hZz b (by omega)).mpr ⟨hq.1, z⟩))⟩⟩⟩, hf_2, rfl⟩
      exact z_sub [1, 2, 0] rfl (L29 _ 0 _ (Nat.lt_succ_self _) (Nat.zero_le _) (fun _ h0 => absurd h0 (Nat.not_lt_zero _)) rfl)
    · skip
      have hz0 : zWf (zNo lt n) bl bk = 0 := (nI_0eq (by have := zWf_le (N := zNo lt n) (f := bl) bk; have := p9_6 hbk; omega)).mp c21
      refine z_bipush C (v := -5) dX8_filled_24 (by decide) ?_
      refine z_iret C hr rfl dX8_filled_26 ?_
      refine ⟨_, rfl, ?_⟩
      exact ⟨Or.inr ⟨i, hi, rfl, Or.inl ⟨hz0, rfl⟩⟩, hf_2, rfl⟩
  · skip
    refine z_iconst C (v := -1) dX8_filled_15 (by decide) ?_
    refine z_iret C hr rfl dX8_filled_16 ?_
    refine ⟨_, rfl, ?_⟩
    exact ⟨Or.inl ⟨c12, rfl⟩, fun _ _ _ _ => rfl, rfl⟩
theorem zin_ofm {x : Int32} {n : Nat} (h : (0 : Int32) ≤ x) (h2 : x ≤ nI n - 1) (hn : n < 2 ^ 31) : zin x n := (in_n hn).mp ⟨h, h2⟩
abbrev rm_X8_judge : Room := { frames := 7, cells := 0, slots := 0, locals := 272 }
set_option maxRecDepth 100000 in
set_option maxHeartbeats 4000000 in
theorem k_X8_judge (w : zW) (I : zI) (J : zJ) (n tr h : Nat) (A : List zCla) (jn lt : Nat → Int32) (hd : Nat → Option Nat) (bu ho lo fr : Nat → Nat) (so : Nat → Int32) (ln : Nat → Nat) (it : Nat → Nat → Int64) (x : Int32) (y : Int32) (z : Int32) (hn : n ≤ 8) (htr : tr ≤ 16) (hh : h < 7) (hd99 : ∀ a k, hd a = some k → k ≤ 99) (hS : mS I n tr h A jn lt hd bu ho lo fr) (hDg : ∀ a, a < 8 → jn (a * 8 + a) = 0) (hTs : ∀ t, t < 6 → I 119 t = so t ∧ I 120 t = nI (ln t) ∧ ln t ≤ 60 ∧ (so t = -1 ∨ zin (so t) 5) ∧ (so t = -1 → ln t = 0)) (hIt : ∀ t i, t < 6 → i < 60 → J 121 (60 * t + i) = it t i) : zMet yX8_judge cX8_judge 8 (some .int) rm_X8_judge w [.ref (zad w 82), .int x, .int y, .int z] I J (zpi (fun v I' J' => (((¬ zin x 6 ∨ ¬ zin z n) ∧ v = -1) ∨ (∃ t, t < 6 ∧ x = nI t ∧ ∃ b, b < n ∧ z = nI b ∧ ((so t ≠ -1 ∧ so t ≠ 0 ∧ v = -12) ∨ ((so t = -1 ∨ so t = 0) ∧ ((¬ zin y (ln t) ∧ v = 1000) ∨ (∃ i, i < ln t ∧ y = nI i ∧ v = zJd n (aSteps A) hd (aGo jn A) (fun p => (it t (i + p)).toInt32) b (ln t - i) 0 0 0)))))) ∧ frM I' I ∧ J' = J)) := by
  refine zMet_of (by decide) (Nat.le_of_ble_eq_true rfl) (fun X C hm hr => ?_)
  refine z_sub (lv' := [(0, .ref (zad w 82)), (1, .int x), (2, .int y), (3, .int z)]) [0, 1, 2, 3] rfl ?_
  obtain ⟨hN, hT, hM, hJn, hLt, hHd, hB, hO, hLo, hF⟩ := id hS
  have hst := aSteps_le A
  refine z_aload_n C dX8_judge_0 rfl 0 rfl ?_
  refine z_iload_n C dX8_judge_1 rfl 1 rfl ?_
  refine z_callVi C hm cl_X8_333 cv_X8_isTape 82 (by decide) sh82 ⟨_, _, rfl⟩ [.int x] rfl (rest := []) rfl (k_X8_isTape w _ _  x ) ⟨rfl, rfl, Nat.le_of_ble_eq_true rfl, Nat.le_of_ble_eq_true rfl⟩ (Nat.le_of_ble_eq_true rfl) dX8_judge_2 (fun v_1 I_1 J_1 h_1 => ?_)
  obtain ⟨ev_1, ei_1, ej_1⟩ := h_1
  replace ev_1 := ev_1.symm; subst ev_1
  replace ei_1 := ei_1.symm; subst ei_1
  replace ej_1 := ej_1.symm; subst ej_1
  refine z_ifeq_b (tgt := 16) C dX8_judge_5 (by decide) (fun c5 => ?_) (fun c5 => ?_)
  · skip
    refine z_iconst C (v := -1) dX8_judge_16 (by decide) ?_
    refine z_iret C hr rfl dX8_judge_17 ?_
    refine ⟨_, rfl, ?_⟩
    exact ⟨Or.inl ⟨Or.inl c5, rfl⟩, frM_id, rfl⟩
  · skip
    obtain ⟨t, ht, rfl⟩ := c5
    refine z_aload_n C dX8_judge_8 rfl 0 rfl ?_
    refine z_iload_n C dX8_judge_9 rfl 3 rfl ?_
    refine z_callVi C hm cl_X8_193 cv_X8_isName 82 (by decide) sh82 ⟨_, _, rfl⟩ [.int z] rfl (rest := []) rfl (k_X8_isName w _ _ n z hN hn) ⟨rfl, rfl, Nat.le_of_ble_eq_true rfl, Nat.le_of_ble_eq_true rfl⟩ (Nat.le_of_ble_eq_true rfl) dX8_judge_10 (fun v_2 I_2 J_2 h_2 => ?_)
    obtain ⟨ev_2, ei_2, ej_2⟩ := h_2
    replace ev_2 := ev_2.symm; subst ev_2
    replace ei_2 := ei_2.symm; subst ei_2
    replace ej_2 := ej_2.symm; subst ej_2
    refine z_ifne_b (tgt := 18) C dX8_judge_13 (by decide) (fun c13 => ?_) (fun c13 => ?_)
    · skip
      obtain ⟨goal, hgoal, rfl⟩ := c13
      obtain ⟨hT1, hT2, hl60, hT4, hT5⟩ := hTs t ht
      refine z_aload_n C dX8_judge_18 rfl 0 rfl ?_
      refine z_getr C ff_X8_177 82 (by decide) sh82 rfl dX8_judge_19 ?_
      refine z_iload_n C dX8_judge_22 rfl 1 rfl ?_
      refine z_iald C 119 (by decide) sh119 t (by omega) (by decide) rfl (v := so t) hT1 dX8_judge_23 ?_
      refine z_if_le (tgt := 30) C dX8_judge_24 (by decide) (fun c24 => ?_) (fun c24 => ?_)
      · skip
        have hsok : so t = -1 ∨ so t = 0 := by
          rcases hT4 with q | ⟨k, q1, q2⟩
          · exact Or.inl q
          · right
            rw [q2] at c24 ⊢
            rw [(nI_le0 (by omega)).mp c24]; rfl
        have hTs0 : 0 < ln t → so t = 0 := fun q => hsok.resolve_left (fun z => by have := hT5 z; omega)
        refine z_aload_n C dX8_judge_30 rfl 0 rfl ?_
        refine z_callVv C hm cl_X8_278 cv_X8_layHours 82 (by decide) sh82 ⟨_, _, rfl⟩ [] rfl (rest := []) rfl (k_X8_layHours w _ _ n h A jn  hN hn hh hM hJn hDg) ⟨rfl, rfl, Nat.le_of_ble_eq_true rfl, Nat.le_of_ble_eq_true rfl⟩ (Nat.le_of_ble_eq_true rfl) dX8_judge_31 (fun I_3 J_3 h_3 => ?_)
        obtain ⟨hz_3, eJ_3⟩ := h_3
        replace eJ_3 := eJ_3.symm; subst eJ_3
        obtain ⟨h82_3, hfr_3, hH_3⟩ := id hz_3
        have hN_3 : I_3 82 0 = nI n := by rw [h82_3, upd_n (by decide)]; exact hN
        have hS_3 : I_3 82 25 = nI (aSteps A) := by rw [h82_3]; exact upd_s
        have hHd_3 : ∀ a, a < n → I_3 85 a = oM (hd a) := fun a ha => by rw [hfr_3 85 (by decide) (by decide) (by decide) (by decide)]; exact hHd a ha
        by_cases hy : zin y (ln t)
        · skip
          obtain ⟨i, hi, rfl⟩ := hy
          have hso0 : so t = 0 := hTs0 (by omega)
          refine z_iconst C (v := -1) dX8_judge_34 (by decide) ?_
          refine z_istore C hm (lv' := [(4, .int (-1)), (0, .ref (zad w 82)), (1, .int (nI t)), (2, .int (nI i)), (3, .int (nI goal))]) dX8_judge_35 (by decide) rfl ?_
          refine z_iconst C (v := 0) dX8_judge_37 (by decide) ?_
          refine z_istore C hm (lv' := [(5, .int 0), (4, .int (-1)), (0, .ref (zad w 82)), (1, .int (nI t)), (2, .int (nI i)), (3, .int (nI goal))]) dX8_judge_38 (by decide) rfl ?_
          refine z_iconst C (v := 0) dX8_judge_40 (by decide) ?_
          refine z_istore C hm (lv' := [(6, .int 0), (5, .int 0), (4, .int (-1)), (0, .ref (zad w 82)), (1, .int (nI t)), (2, .int (nI i)), (3, .int (nI goal))]) dX8_judge_41 (by decide) rfl ?_
          have L43 : ∀ (d : Nat) (p bf hr9 : Nat) (bv : Int32) (v43_4 : Int32) (v43_5 : Int32) (v43_6 : Int32), (ln t - (i + p)) < d → (i + p ≤ ln t) → (p = 0 ∨ (bv = nI bf ∧ bf < n)) → (hr9 ≤ 1000 * p) → (zJd n (aSteps A) hd (aGo jn A) (fun p => (it t (i + p)).toInt32) goal (ln t - (i + p)) p bf hr9 = zJd n (aSteps A) hd (aGo jn A) (fun p => (it t (i + p)).toInt32) goal (ln t - i) 0 0 0) → v43_4 = bv → v43_5 = nI hr9 → v43_6 = nI p → Z X w I_3 J 43 [(0, .ref (zad w 82)), (1, .int (nI t)), (2, .int (nI i)), (3, .int (nI goal)), (4, .int v43_4), (5, .int v43_5), (6, .int v43_6)] [] := by
            intro d
            induction d with
            | zero => intro p bf hr9 bv v43_4 v43_5 v43_6 hd; exact absurd hd (Nat.not_lt_zero _)
            | succ d ih43 => 
              intro p bf hr9 bv v43_4 v43_5 v43_6 hd43 hp hbf hrr hE e_v43_4 e_v43_5 e_v43_6
              replace e_v43_4 := e_v43_4.symm; subst e_v43_4
              replace e_v43_5 := e_v43_5.symm; subst e_v43_5
              replace e_v43_6 := e_v43_6.symm; subst e_v43_6
              refine z_aload_n C dX8_judge_43 rfl 0 rfl ?_
              refine z_getr C ff_X8_177 82 (by decide) sh82 rfl dX8_judge_44 ?_
              refine z_iload_n C dX8_judge_47 rfl 1 rfl ?_
              refine z_iald C 119 (by decide) sh119 t (by omega) (by decide) rfl (v := 0) (by rw [hfr_3 119 (by decide) (by decide) (by decide) (by decide)]; exact hT1.trans hso0) dX8_judge_48 ?_
              refine z_if_lt (tgt := 71) C dX8_judge_49 (by decide) (fun c49 => ?_) (fun c49 => ?_)
              · skip
                exact absurd c49 (by decide)
              · skip
                refine z_iload_n C dX8_judge_52 rfl 2 rfl ?_
                refine z_if_lt (tgt := 71) C dX8_judge_53 (by decide) (fun c53 => ?_) (fun c53 => ?_)
                · skip
                  exact absurd c53 (nI_pos (by omega))
                · skip
                  refine z_iload_n C dX8_judge_56 rfl 2 rfl ?_
                  refine z_aload_n C dX8_judge_57 rfl 0 rfl ?_
                  refine z_getr C ff_X8_180 82 (by decide) sh82 rfl dX8_judge_58 ?_
                  refine z_iload_n C dX8_judge_61 rfl 1 rfl ?_
                  refine z_iald C 120 (by decide) sh120 t (by omega) (by decide) rfl (v := nI (ln t)) (by rw [hfr_3 120 (by decide) (by decide) (by decide) (by decide)]; exact hT2) dX8_judge_62 ?_
                  refine z_iload C dX8_judge_63 6 rfl ?_
                  refine z_isub C dX8_judge_65 ?_
                  refine z_ti (y := nI (ln t - p)) (pk_sub (by omega)) ?_
                  refine z_iconst C (v := 1) dX8_judge_66 (by decide) ?_
                  refine z_isub C dX8_judge_67 ?_
                  refine z_icmp_le (tgt := 78) C dX8_judge_68 (by decide) (fun c68 => ?_) (fun c68 => ?_)
                  · skip
                    have c68n : i < ln t - p := (lm1 (by omega) (by omega)).mp c68
                    have hcc : ln t - (i + p) = ln t - (i + p) - 1 + 1 := by omega
                    rw [hcc, zJd] at hE
                    refine z_aload_n C dX8_judge_78 rfl 0 rfl ?_
                    refine z_getr C ff_X8_183 82 (by decide) sh82 rfl dX8_judge_79 ?_
                    refine z_bipush C (v := 60) dX8_judge_82 (by decide) ?_
                    refine z_iload_n C dX8_judge_84 rfl 1 rfl ?_
                    refine z_imul C dX8_judge_85 ?_
                    refine z_ti (y := nI (60 * t)) (pk_mul 60 t) ?_
                    refine z_iload_n C dX8_judge_86 rfl 2 rfl ?_
                    refine z_iadd C dX8_judge_87 ?_
                    refine z_ti (y := nI (60 * t + i)) (nI_add (60 * t) i) ?_
                    refine z_iload C dX8_judge_88 6 rfl ?_
                    refine z_iadd C dX8_judge_90 ?_
                    refine z_ti (y := nI (60 * t + i + p)) (nI_add (60 * t + i) p) ?_
                    refine z_lald C 121 (by decide) sh121 (60 * t + i + p) (by omega) (by decide) rfl (v := it t (i + p)) ((congrArg (J 121) (show 60 * t + i + p = 60 * t + (i + p) by omega)).trans (hIt t (i + p) ht (by omega))) dX8_judge_91 ?_
                    refine z_l2i C (v := (it t (i + p)).toInt32) dX8_judge_92 rfl ?_
                    refine z_istore C hm (lv' := [(7, .int ((it t (i + p)).toInt32)), (0, .ref (zad w 82)), (1, .int (nI t)), (2, .int (nI i)), (3, .int (nI goal)), (4, .int bv), (5, .int (nI hr9)), (6, .int (nI p))]) dX8_judge_93 (by decide) rfl ?_
                    refine z_aload_n C dX8_judge_95 rfl 1 rfl ?_
                    refine z_iload C dX8_judge_96 0 rfl ?_
                    refine z_callVi C hm cl_X8_193 cv_X8_isName 82 (by decide) sh82 ⟨_, _, rfl⟩ [.int ((it t (i + p)).toInt32)] rfl (rest := []) rfl (k_X8_isName w _ _ n ((it t (i + p)).toInt32) hN_3 hn) ⟨rfl, rfl, Nat.le_of_ble_eq_true rfl, Nat.le_of_ble_eq_true rfl⟩ (Nat.le_of_ble_eq_true rfl) dX8_judge_98 (fun v_4 I_4 J_4 h_4 => ?_)
                    obtain ⟨ev_4, ei_4, ej_4⟩ := h_4
                    replace ev_4 := ev_4.symm; subst ev_4
                    replace ei_4 := ei_4.symm; subst ei_4
                    replace ej_4 := ej_4.symm; subst ej_4
                    refine z_ifne_b (tgt := 110) C dX8_judge_101 (by decide) (fun c101 => ?_) (fun c101 => ?_)
                    · skip
                      have hbz := c101
                      obtain ⟨b, hb, hbe⟩ := c101
                      rw [hbe]
                      refine z_iload C dX8_judge_110 7 rfl ?_
                      refine z_if_ne (tgt := 128) C dX8_judge_112 (by decide) (fun c112 => ?_) (fun c112 => ?_)
                      · skip
                        have hp0 : p ≠ 0 := fun q => c112 (by rw [q]; rfl)
                        obtain ⟨hbv, hbfn⟩ := hbf.resolve_left hp0
                        rw [hbv]
                        refine z_iload C dX8_judge_128 7 rfl ?_
                        refine z_if_le (tgt := 164) C dX8_judge_130 (by decide) (fun c130 => ?_) (fun c130 => ?_)
                        · skip
                          exact absurd (nI_le0 (by omega) |>.mp c130) hp0
                        · skip
                          refine z_iload C dX8_judge_133 7 rfl ?_
                          refine z_aload_n C dX8_judge_135 rfl 1 rfl ?_
                          refine z_geti C ff_X8_87 82 (by decide) sh82 rfl (v := nI (aSteps A)) hS_3 dX8_judge_136 ?_
                          refine z_icmp_gt_n p (aSteps A) (tgt := 158) C rfl rfl (by omega) (by omega) dX8_judge_139 (by decide) (fun c139 => ?_) (fun c139 => ?_)
                          · skip
                            refine z_bipush C (v := -10) dX8_judge_158 (by decide) ?_
                            refine z_iload C dX8_judge_160 7 rfl ?_
                            refine z_isub C dX8_judge_162 ?_
                            refine z_iret C hr rfl dX8_judge_163 ?_
                            refine ⟨_, rfl, ?_⟩
                            exact ⟨Or.inr ⟨t, ht, rfl, goal, hgoal, rfl, Or.inr ⟨hsok, Or.inr ⟨i, hi, rfl, by rw [← hE, cif_t (Or.inr c139)]⟩⟩⟩, frM_l hz_3, rfl⟩
                          · skip
                            rw [cif_f (fun q => q.elim (fun z => z hbz) (fun z => by omega)), hbe, zn_n (by omega)] at hE
                            rw [if_neg hp0] at hE
                            refine z_aload_n C dX8_judge_142 rfl 1 rfl ?_
                            refine z_getr C ff_X8_78 82 (by decide) sh82 rfl dX8_judge_143 ?_
                            refine z_bipush C (v := 8) dX8_judge_146 (by decide) ?_
                            refine z_iload C dX8_judge_148 5 rfl ?_
                            refine z_imul C dX8_judge_150 ?_
                            refine z_ti (y := nI (8 * bf)) (pk_mul 8 bf) ?_
                            refine z_iload C dX8_judge_151 0 rfl ?_
                            refine z_iadd C dX8_judge_153 ?_
                            refine z_ti (y := nI (8 * bf + b)) (nI_add (8 * bf) b) ?_
                            refine z_iald C 96 (by decide) sh96 (8 * bf + b) (by omega) (by decide) rfl (v := oI (aGo jn A bf b)) (hH_3 bf b hbfn hb) dX8_judge_154 ?_
                            refine z_if_ge (tgt := 164) C dX8_judge_155 (by decide) (fun c155 => ?_) (fun c155 => ?_)
                            · skip
                              have hps := c155
                              refine z_iload C dX8_judge_164 6 rfl ?_
                              refine z_iload C dX8_judge_166 7 rfl ?_
                              refine z_if_ne (tgt := 181) C dX8_judge_168 (by decide) (fun c168 => ?_) (fun c168 => ?_)
                              · skip
                                obtain ⟨kk, hkk⟩ := oI_t hps
                                have hk9 : kk ≤ 999 := aGo_le (mHeld_ok hM) kk hkk
                                rw [hkk] at hE
                                simp only at hE
                                refine z_aload_n C dX8_judge_181 rfl 1 rfl ?_
                                refine z_getr C ff_X8_78 82 (by decide) sh82 rfl dX8_judge_182 ?_
                                refine z_bipush C (v := 8) dX8_judge_185 (by decide) ?_
                                refine z_iload C dX8_judge_187 5 rfl ?_
                                refine z_imul C dX8_judge_189 ?_
                                refine z_ti (y := nI (8 * bf)) (pk_mul 8 bf) ?_
                                refine z_iload C dX8_judge_190 0 rfl ?_
                                refine z_iadd C dX8_judge_192 ?_
                                refine z_ti (y := nI (8 * bf + b)) (nI_add (8 * bf) b) ?_
                                refine z_iald C 96 (by decide) sh96 (8 * bf + b) (by omega) (by decide) rfl (v := nI kk) ((hH_3 bf b hbfn hb).trans (by rw [hkk]; rfl)) dX8_judge_193 ?_
                                refine z_iadd C dX8_judge_194 ?_
                                refine z_ti (y := nI (hr9 + kk)) (nI_add hr9 kk) ?_
                                refine z_istore C hm (lv' := [(5, .int (nI (hr9 + kk))), (7, .int (nI b)), (0, .ref (zad w 82)), (1, .int (nI t)), (2, .int (nI i)), (3, .int (nI goal)), (4, .int (nI bf)), (6, .int (nI p))]) dX8_judge_195 (by decide) rfl ?_
                                refine z_iload C dX8_judge_197 1 rfl ?_
                                refine z_iload_n C dX8_judge_199 rfl 5 rfl ?_
                                refine z_icmp_ne_n b goal (tgt := 206) C rfl rfl (by omega) (by omega) dX8_judge_200 (by decide) (fun c200 => ?_) (fun c200 => ?_)
                                · skip
                                  refine z_iload C dX8_judge_206 1 rfl ?_
                                  refine z_istore C hm (lv' := [(4, .int (nI b)), (5, .int (nI (hr9 + kk))), (7, .int (nI b)), (0, .ref (zad w 82)), (1, .int (nI t)), (2, .int (nI i)), (3, .int (nI goal)), (6, .int (nI p))]) dX8_judge_208 (by decide) rfl ?_
                                  refine z_iinc C hm 7 (v := nI (p + 1)) (lv' := [(6, .int (nI (p + 1))), (4, .int (nI b)), (5, .int (nI (hr9 + kk))), (7, .int (nI b)), (0, .ref (zad w 82)), (1, .int (nI t)), (2, .int (nI i)), (3, .int (nI goal))]) dX8_judge_210 rfl (nI_add p 1) (by decide) rfl ?_
                                  refine z_goto (tgt := 43) C dX8_judge_213 (by decide) ?_
                                  exact z_sub [4, 5, 6, 7, 1, 2, 0] rfl (ih43  (p + 1) b (hr9 + kk) (nI b) _ _ _ (by omega) (by omega) (Or.inr ⟨rfl, hb⟩) (by omega) (by rw [if_neg c200] at hE; rw [show ln t - (i + (p + 1)) = ln t - (i + p) - 1 by omega]; exact hE) rfl rfl rfl)
                                · skip
                                  refine z_iload C dX8_judge_203 0 rfl ?_
                                  refine z_iret C hr rfl dX8_judge_205 ?_
                                  refine ⟨_, rfl, ?_⟩
                                  exact ⟨Or.inr ⟨t, ht, rfl, goal, hgoal, rfl, Or.inr ⟨hsok, Or.inr ⟨i, hi, rfl, by rw [← hE, if_pos c200]⟩⟩⟩, frM_l hz_3, rfl⟩
                              · skip
                                exact absurd ((nI_0eq (by omega)).mp c168) hp0
                            · skip
                              have hnn : aGo jn A bf b = none := oI_f (aGo_le (mHeld_ok hM)) c155
                              rw [hnn] at hE
                              simp only [if_neg hp0] at hE
                              refine z_bipush C (v := -10) dX8_judge_158 (by decide) ?_
                              refine z_iload C dX8_judge_160 7 rfl ?_
                              refine z_isub C dX8_judge_162 ?_
                              refine z_iret C hr rfl dX8_judge_163 ?_
                              refine ⟨_, rfl, ?_⟩
                              exact ⟨Or.inr ⟨t, ht, rfl, goal, hgoal, rfl, Or.inr ⟨hsok, Or.inr ⟨i, hi, rfl, by rw [← hE]⟩⟩⟩, frM_l hz_3, rfl⟩
                      · skip
                        have hp0 : p = 0 := (nI_0eq (by omega)).mp c112
                        rw [cif_f (fun q => q.elim (fun z => z hbz) (fun z => by omega)), hbe, zn_n (by omega)] at hE
                        rw [if_pos hp0] at hE
                        refine z_aload_n C dX8_judge_115 rfl 1 rfl ?_
                        refine z_getr C ff_X8_20 82 (by decide) sh82 rfl dX8_judge_116 ?_
                        refine z_iload C dX8_judge_119 0 rfl ?_
                        refine z_iald C 85 (by decide) sh85 b (by omega) (by decide) rfl (v := oM (hd b)) (hHd_3 b hb) dX8_judge_121 ?_
                        refine z_if_ge (tgt := 128) C dX8_judge_122 (by decide) (fun c122 => ?_) (fun c122 => ?_)
                        · skip
                          have hps := c122
                          refine z_iload C dX8_judge_128 7 rfl ?_
                          refine z_if_le (tgt := 164) C dX8_judge_130 (by decide) (fun c130 => ?_) (fun c130 => ?_)
                          · skip
                            refine z_iload C dX8_judge_164 6 rfl ?_
                            refine z_iload C dX8_judge_166 7 rfl ?_
                            refine z_if_ne (tgt := 181) C dX8_judge_168 (by decide) (fun c168 => ?_) (fun c168 => ?_)
                            · skip
                              exact absurd (by rw [hp0]; rfl) c168
                            · skip
                              obtain ⟨kk, hkk⟩ := oM_ge hps
                              have hk9 : kk ≤ 999 := Nat.le_trans (hd99 b kk hkk) (by decide)
                              rw [hkk] at hE
                              simp only at hE
                              refine z_aload_n C dX8_judge_171 rfl 1 rfl ?_
                              refine z_getr C ff_X8_20 82 (by decide) sh82 rfl dX8_judge_172 ?_
                              refine z_iload C dX8_judge_175 0 rfl ?_
                              refine z_iald C 85 (by decide) sh85 b (by omega) (by decide) rfl (v := nI kk) ((hHd_3 b hb).trans (by rw [hkk]; rfl)) dX8_judge_177 ?_
                              refine z_goto (tgt := 194) C dX8_judge_178 (by decide) ?_
                              refine z_iadd C dX8_judge_194 ?_
                              refine z_ti (y := nI (hr9 + kk)) (nI_add hr9 kk) ?_
                              refine z_istore C hm (lv' := [(5, .int (nI (hr9 + kk))), (7, .int (nI b)), (0, .ref (zad w 82)), (1, .int (nI t)), (2, .int (nI i)), (3, .int (nI goal)), (4, .int bv), (6, .int (nI p))]) dX8_judge_195 (by decide) rfl ?_
                              refine z_iload C dX8_judge_197 1 rfl ?_
                              refine z_iload_n C dX8_judge_199 rfl 5 rfl ?_
                              refine z_icmp_ne_n b goal (tgt := 206) C rfl rfl (by omega) (by omega) dX8_judge_200 (by decide) (fun c200 => ?_) (fun c200 => ?_)
                              · skip
                                refine z_iload C dX8_judge_206 1 rfl ?_
                                refine z_istore C hm (lv' := [(4, .int (nI b)), (5, .int (nI (hr9 + kk))), (7, .int (nI b)), (0, .ref (zad w 82)), (1, .int (nI t)), (2, .int (nI i)), (3, .int (nI goal)), (6, .int (nI p))]) dX8_judge_208 (by decide) rfl ?_
                                refine z_iinc C hm 7 (v := nI (p + 1)) (lv' := [(6, .int (nI (p + 1))), (4, .int (nI b)), (5, .int (nI (hr9 + kk))), (7, .int (nI b)), (0, .ref (zad w 82)), (1, .int (nI t)), (2, .int (nI i)), (3, .int (nI goal))]) dX8_judge_210 rfl (nI_add p 1) (by decide) rfl ?_
                                refine z_goto (tgt := 43) C dX8_judge_213 (by decide) ?_
                                exact z_sub [4, 5, 6, 7, 1, 2, 0] rfl (ih43  (p + 1) b (hr9 + kk) (nI b) _ _ _ (by omega) (by omega) (Or.inr ⟨rfl, hb⟩) (by omega) (by rw [if_neg c200] at hE; rw [show ln t - (i + (p + 1)) = ln t - (i + p) - 1 by omega]; exact hE) rfl rfl rfl)
                              · skip
                                refine z_iload C dX8_judge_203 0 rfl ?_
                                refine z_iret C hr rfl dX8_judge_205 ?_
                                refine ⟨_, rfl, ?_⟩
                                exact ⟨Or.inr ⟨t, ht, rfl, goal, hgoal, rfl, Or.inr ⟨hsok, Or.inr ⟨i, hi, rfl, by rw [← hE, if_pos c200]⟩⟩⟩, frM_l hz_3, rfl⟩
                          · skip
                            exact absurd (by rw [hp0]; decide) c130
                        · skip
                          have hnn : hd b = none := (oM_neg (fun k q => hd99 b k q)).mp (Int32.not_le.mp c122)
                          rw [hnn] at hE
                          simp only at hE
                          refine z_bipush C (v := -5) dX8_judge_125 (by decide) ?_
                          refine z_iret C hr rfl dX8_judge_127 ?_
                          refine ⟨_, rfl, ?_⟩
                          exact ⟨Or.inr ⟨t, ht, rfl, goal, hgoal, rfl, Or.inr ⟨hsok, Or.inr ⟨i, hi, rfl, by rw [← hE, if_pos hp0]⟩⟩⟩, frM_l hz_3, rfl⟩
                    · skip
                      refine z_bipush C (v := -10) dX8_judge_104 (by decide) ?_
                      refine z_iload C dX8_judge_106 7 rfl ?_
                      refine z_isub C dX8_judge_108 ?_
                      refine z_iret C hr rfl dX8_judge_109 ?_
                      refine ⟨_, rfl, ?_⟩
                      exact ⟨Or.inr ⟨t, ht, rfl, goal, hgoal, rfl, Or.inr ⟨hsok, Or.inr ⟨i, hi, rfl, by rw [← hE, cif_t (Or.inl c101)]⟩⟩⟩, frM_l hz_3, rfl⟩
                  · skip
                    have c68n : ¬ i < ln t - p := fun q => c68 ((lm1 (by omega) (by omega)).mpr q)
                    refine z_sipush C (v := 1000) dX8_judge_71 (by decide) ?_
                    refine z_iload C dX8_judge_74 6 rfl ?_
                    refine z_iadd C dX8_judge_76 ?_
                    refine z_ti (y := nI (1000 + p)) (nI_add 1000 p) ?_
                    refine z_iret C hr rfl dX8_judge_77 ?_
                    refine ⟨_, rfl, ?_⟩
                    exact ⟨Or.inr ⟨t, ht, rfl, goal, hgoal, rfl, Or.inr ⟨hsok, Or.inr ⟨i, hi, rfl, by rw [← hE, show ln t - (i + p) = 0 by omega, zJd]⟩⟩⟩, frM_l hz_3, rfl⟩
          exact z_sub [3, 4, 5, 6, 2, 1, 0] rfl (L43 _ 0 0 0 (-1) _ _ _ (Nat.lt_succ_self _) (by omega) (Or.inl rfl) (by decide) rfl rfl rfl rfl)
        · skip
          refine z_iconst C (v := -1) dX8_judge_34 (by decide) ?_
          refine z_istore C hm (lv' := [(4, .int (-1)), (0, .ref (zad w 82)), (1, .int (nI t)), (2, .int y), (3, .int (nI goal))]) dX8_judge_35 (by decide) rfl ?_
          refine z_iconst C (v := 0) dX8_judge_37 (by decide) ?_
          refine z_istore C hm (lv' := [(5, .int 0), (4, .int (-1)), (0, .ref (zad w 82)), (1, .int (nI t)), (2, .int y), (3, .int (nI goal))]) dX8_judge_38 (by decide) rfl ?_
          refine z_iconst C (v := 0) dX8_judge_40 (by decide) ?_
          refine z_istore C hm (lv' := [(6, .int 0), (5, .int 0), (4, .int (-1)), (0, .ref (zad w 82)), (1, .int (nI t)), (2, .int y), (3, .int (nI goal))]) dX8_judge_41 (by decide) rfl ?_
          refine z_aload_n C dX8_judge_43 rfl 3 rfl ?_
          refine z_getr C ff_X8_177 82 (by decide) sh82 rfl dX8_judge_44 ?_
          refine z_iload_n C dX8_judge_47 rfl 4 rfl ?_
          refine z_iald C 119 (by decide) sh119 t (by omega) (by decide) rfl (v := so t) (by rw [hfr_3 119 (by decide) (by decide) (by decide) (by decide)]; exact hT1) dX8_judge_48 ?_
          refine z_if_lt (tgt := 71) C dX8_judge_49 (by decide) (fun c49 => ?_) (fun c49 => ?_)
          · skip
            refine z_sipush C (v := 1000) dX8_judge_71 (by decide) ?_
            refine z_iload C dX8_judge_74 0 rfl ?_
            refine z_iadd C dX8_judge_76 ?_
            refine z_ti (y := nI (1000 + 0)) (nI_add 1000 0) ?_
            refine z_iret C hr rfl dX8_judge_77 ?_
            refine ⟨_, rfl, ?_⟩
            exact ⟨Or.inr ⟨t, ht, rfl, goal, hgoal, rfl, Or.inr ⟨hsok, Or.inl ⟨hy, rfl⟩⟩⟩, frM_l hz_3, rfl⟩
          · skip
            refine z_iload_n C dX8_judge_52 rfl 5 rfl ?_
            refine z_if_lt (tgt := 71) C dX8_judge_53 (by decide) (fun c53 => ?_) (fun c53 => ?_)
            · skip
              refine z_sipush C (v := 1000) dX8_judge_71 (by decide) ?_
              refine z_iload C dX8_judge_74 0 rfl ?_
              refine z_iadd C dX8_judge_76 ?_
              refine z_ti (y := nI (1000 + 0)) (nI_add 1000 0) ?_
              refine z_iret C hr rfl dX8_judge_77 ?_
              refine ⟨_, rfl, ?_⟩
              exact ⟨Or.inr ⟨t, ht, rfl, goal, hgoal, rfl, Or.inr ⟨hsok, Or.inl ⟨hy, rfl⟩⟩⟩, frM_l hz_3, rfl⟩
            · skip
              refine z_iload_n C dX8_judge_56 rfl 5 rfl ?_
              refine z_aload_n C dX8_judge_57 rfl 3 rfl ?_
              refine z_getr C ff_X8_180 82 (by decide) sh82 rfl dX8_judge_58 ?_
              refine z_iload_n C dX8_judge_61 rfl 4 rfl ?_
              refine z_iald C 120 (by decide) sh120 t (by omega) (by decide) rfl (v := nI (ln t)) (by rw [hfr_3 120 (by decide) (by decide) (by decide) (by decide)]; exact hT2) dX8_judge_62 ?_
              refine z_iload C dX8_judge_63 0 rfl ?_
              refine z_isub C dX8_judge_65 ?_
              refine z_ti (y := nI (ln t)) (Int32.sub_zero _) ?_
              refine z_iconst C (v := 1) dX8_judge_66 (by decide) ?_
              refine z_isub C dX8_judge_67 ?_
              refine z_icmp_le (tgt := 78) C dX8_judge_68 (by decide) (fun c68 => ?_) (fun c68 => ?_)
              · skip
                exact absurd (zin_ofm (Int32.not_lt.mp c53) c68 (by omega)) hy
              · skip
                refine z_sipush C (v := 1000) dX8_judge_71 (by decide) ?_
                refine z_iload C dX8_judge_74 0 rfl ?_
                refine z_iadd C dX8_judge_76 ?_
                refine z_ti (y := nI (1000 + 0)) (nI_add 1000 0) ?_
                refine z_iret C hr rfl dX8_judge_77 ?_
                refine ⟨_, rfl, ?_⟩
                exact ⟨Or.inr ⟨t, ht, rfl, goal, hgoal, rfl, Or.inr ⟨hsok, Or.inl ⟨hy, rfl⟩⟩⟩, frM_l hz_3, rfl⟩
      · skip
        refine z_bipush C (v := -12) dX8_judge_27 (by decide) ?_
        refine z_iret C hr rfl dX8_judge_29 ?_
        refine ⟨_, rfl, ?_⟩
        exact ⟨Or.inr ⟨t, ht, rfl, goal, hgoal, rfl, Or.inl ⟨fun q => by rw [q] at c24; exact absurd c24 (by decide), fun q => by rw [q] at c24; exact absurd c24 (by decide), rfl⟩⟩, frM_id, rfl⟩
    · skip
      refine z_iconst C (v := -1) dX8_judge_16 (by decide) ?_
      refine z_iret C hr rfl dX8_judge_17 ?_
      refine ⟨_, rfl, ?_⟩
      exact ⟨Or.inl ⟨Or.inr c13, rfl⟩, frM_id, rfl⟩
