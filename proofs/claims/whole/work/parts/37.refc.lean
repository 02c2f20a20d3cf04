/-! the reference's calls: taken, trace, count, blank, image, undo -/
def zcp (f g : Nat → Int32) (n : Nat) : Nat → Int32 := fun k => if k < n then f k else g k
theorem zcp_0 {f g : Nat → Int32} : zcp f g 0 = g := by funext k; simp [zcp]
theorem zcp_s {f g : Nat → Int32} {n : Nat} : upd (zcp f g n) n (f n) = zcp f g (n + 1) := by
  funext k; simp only [upd, zcp]
  by_cases h : k = n
  · subst h; rw [if_pos rfl, if_pos (by omega)]
  · rw [if_neg h]; by_cases q : k < n
    · rw [if_pos q, if_pos (by omega)]
    · rw [if_neg q, if_neg (by omega)]
theorem zcp_l {f g : Nat → Int32} {n k : Nat} (h : k < n) : zcp f g n k = f k := if_pos h
theorem zTak_t {c k : Nat} (h : k = 0 ∨ c = k ∨ (k = 1 ∧ c = 4) ∨ (k = 3 ∧ 5 ≤ c)) : zTak c k = true := decide_eq_true h
theorem zTak_n {c k : Nat} (h : zTak c k = true) : k = 0 ∨ c = k ∨ (k = 1 ∧ c = 4) ∨ (k = 3 ∧ 5 ≤ c) := of_decide_eq_true h
abbrev rm_X8_taken : Room := { frames := 6, cells := 0, slots := 0, locals := 244 }
set_option maxRecDepth 100000 in
set_option maxHeartbeats 4000000 in
theorem k_X8_taken (w : zW) (I : zI) (J : zJ) (tr : Nat) (kd : Nat → Nat) (x : Int32) (z : Int32) (hT : I 82 27 = nI tr) (htr : tr ≤ 16) (hKd : ∀ t, t < tr → I 100 t = nI (kd t) ∧ kd t < 7) : zMet yX8_taken cX8_taken 4 (some .int) rm_X8_taken w [.ref (zad w 82), .int x, .int z] I J (zpi (fun v I' J' => v = cif (zin z 7) (cif (zin x tr) (cif (zTak (kd (zn x)) (zn z) = true) (nI (kd (zn x))) (-12)) (-11)) (-2) ∧ I' = I ∧ J' = J)) := by
  refine zMet_of (by decide) (Nat.le_of_ble_eq_true rfl) (fun X C hm hr => ?_)
  refine z_sub (lv' := [(0, .ref (zad w 82)), (1, .int x), (2, .int z)]) [0, 1, 2] rfl ?_
  refine z_aload_n C dX8_taken_0 rfl 0 rfl ?_
  refine z_iload_n C dX8_taken_1 rfl 2 rfl ?_
  refine z_iconst C (v := 0) dX8_taken_2 (by decide) ?_
  refine z_bipush C (v := 6) dX8_taken_3 (by decide) ?_
  refine z_callVi C hm cl_X8_189 cv_X8_in 82 (by decide) sh82 ⟨_, _, rfl⟩ [.int z, .int 0, .int 6] rfl (rest := []) rfl (k_X8_in w _ _ z (0) (6)) ⟨rfl, rfl, Nat.le_of_ble_eq_true rfl, Nat.le_of_ble_eq_true rfl⟩ (Nat.le_of_ble_eq_true rfl) dX8_taken_5 (fun v_1 I_1 J_1 h_1 => ?_)
  obtain ⟨ev_1, ei_1, ej_1⟩ := h_1
  replace ei_1 := ei_1.symm; subst ei_1
  replace ej_1 := ej_1.symm; subst ej_1
  replace ev_1 := ev_1.trans (bI_c (in_z (m := 6) (by decide))); subst ev_1
  refine z_ifne_b (tgt := 14) C dX8_taken_8 (by decide) (fun c8 => ?_) (fun c8 => ?_)
  · skip
    obtain ⟨k, hk, rfl⟩ := c8
    refine z_aload_n C dX8_taken_14 rfl 0 rfl ?_
    refine z_iload_n C dX8_taken_15 rfl 1 rfl ?_
    refine z_callVi C hm cl_X8_302 cv_X8_isTrade 82 (by decide) sh82 ⟨_, _, rfl⟩ [.int x] rfl (rest := []) rfl (k_X8_isTrade w _ _ tr x hT htr) ⟨rfl, rfl, Nat.le_of_ble_eq_true rfl, Nat.le_of_ble_eq_true rfl⟩ (Nat.le_of_ble_eq_true rfl) dX8_taken_16 (fun v_2 I_2 J_2 h_2 => ?_)
    obtain ⟨ev_2, ei_2, ej_2⟩ := h_2
    replace ev_2 := ev_2.symm; subst ev_2
    replace ei_2 := ei_2.symm; subst ei_2
    replace ej_2 := ej_2.symm; subst ej_2
    refine z_ifne_b (tgt := 25) C dX8_taken_19 (by decide) (fun c19 => ?_) (fun c19 => ?_)
    · skip
      obtain ⟨t, ht, rfl⟩ := c19
      have hk7 := (hKd t ht).2
      refine z_aload_n C dX8_taken_25 rfl 0 rfl ?_
      refine z_getr C ff_X8_96 82 (by decide) sh82 rfl dX8_taken_26 ?_
      refine z_iload_n C dX8_taken_29 rfl 1 rfl ?_
      refine z_iald C 100 (by decide) sh100 t (by omega) (by decide) rfl (v := nI (kd t)) (hKd t ht).1 dX8_taken_30 ?_
      refine z_istore_n C hm (lv' := [(3, .int (nI (kd t))), (0, .ref (zad w 82)), (1, .int (nI t)), (2, .int (nI k))]) dX8_taken_31 rfl (by decide) rfl ?_
      refine z_iload_n C dX8_taken_32 rfl 3 rfl ?_
      refine z_if_eq (tgt := 61) C dX8_taken_33 (by decide) (fun c33 => ?_) (fun c33 => ?_)
      · skip
        have hk0 : k = 0 := (nI_0eq (by omega)).mp c33
        refine z_iload_n C dX8_taken_61 rfl 0 rfl ?_
        refine z_goto (tgt := 67) C dX8_taken_62 (by decide) ?_
        refine z_iret C hr rfl dX8_taken_67 ?_
        refine ⟨_, rfl, ?_⟩
        exact ⟨by rw [cif_t ⟨k, hk, rfl⟩, cif_t ⟨t, ht, rfl⟩, zn_n (by omega), zn_n (by omega), cif_t (zTak_t (by omega))], rfl, rfl⟩
      · skip
        have hk0 : k ≠ 0 := fun q => c33 (by rw [q]; rfl)
        refine z_iload_n C dX8_taken_36 rfl 0 rfl ?_
        refine z_iload_n C dX8_taken_37 rfl 3 rfl ?_
        refine z_icmp_eq_n (kd t) k (tgt := 61) C rfl rfl (by omega) (by omega) dX8_taken_38 (by decide) (fun c38 => ?_) (fun c38 => ?_)
        · skip
          refine z_iload_n C dX8_taken_61 rfl 0 rfl ?_
          refine z_goto (tgt := 67) C dX8_taken_62 (by decide) ?_
          refine z_iret C hr rfl dX8_taken_67 ?_
          refine ⟨_, rfl, ?_⟩
          exact ⟨by rw [cif_t ⟨k, hk, rfl⟩, cif_t ⟨t, ht, rfl⟩, zn_n (by omega), zn_n (by omega), cif_t (zTak_t (by omega))], rfl, rfl⟩
        · skip
          refine z_iload_n C dX8_taken_41 rfl 3 rfl ?_
          refine z_iconst C (v := 1) dX8_taken_42 (by decide) ?_
          refine z_icmp_ne_n k 1 (tgt := 51) C rfl rfl (by omega) (by omega) dX8_taken_43 (by decide) (fun c43 => ?_) (fun c43 => ?_)
          · skip
            refine z_iload_n C dX8_taken_51 rfl 3 rfl ?_
            refine z_iconst C (v := 3) dX8_taken_52 (by decide) ?_
            refine z_icmp_ne_n k 3 (tgt := 65) C rfl rfl (by omega) (by omega) dX8_taken_53 (by decide) (fun c53 => ?_) (fun c53 => ?_)
            · skip
              refine z_bipush C (v := -12) dX8_taken_65 (by decide) ?_
              refine z_iret C hr rfl dX8_taken_67 ?_
              refine ⟨_, rfl, ?_⟩
              exact ⟨by rw [cif_t ⟨k, hk, rfl⟩, cif_t ⟨t, ht, rfl⟩, zn_n (by omega), zn_n (by omega), cif_f (fun z => by have := zTak_n z; omega)], rfl, rfl⟩
            · skip
              refine z_iload_n C dX8_taken_56 rfl 0 rfl ?_
              refine z_iconst C (v := 5) dX8_taken_57 (by decide) ?_
              refine z_icmp_lt_n (kd t) 5 (tgt := 65) C rfl rfl (by omega) (by omega) dX8_taken_58 (by decide) (fun c58 => ?_) (fun c58 => ?_)
              · skip
                refine z_bipush C (v := -12) dX8_taken_65 (by decide) ?_
                refine z_iret C hr rfl dX8_taken_67 ?_
                refine ⟨_, rfl, ?_⟩
                exact ⟨by rw [cif_t ⟨k, hk, rfl⟩, cif_t ⟨t, ht, rfl⟩, zn_n (by omega), zn_n (by omega), cif_f (fun z => by have := zTak_n z; omega)], rfl, rfl⟩
              · skip
                refine z_iload_n C dX8_taken_61 rfl 0 rfl ?_
                refine z_goto (tgt := 67) C dX8_taken_62 (by decide) ?_
                refine z_iret C hr rfl dX8_taken_67 ?_
                refine ⟨_, rfl, ?_⟩
                exact ⟨by rw [cif_t ⟨k, hk, rfl⟩, cif_t ⟨t, ht, rfl⟩, zn_n (by omega), zn_n (by omega), cif_t (zTak_t (by omega))], rfl, rfl⟩
          · skip
            refine z_iload_n C dX8_taken_46 rfl 0 rfl ?_
            refine z_iconst C (v := 4) dX8_taken_47 (by decide) ?_
            refine z_icmp_eq_n (kd t) 4 (tgt := 61) C rfl rfl (by omega) (by omega) dX8_taken_48 (by decide) (fun c48 => ?_) (fun c48 => ?_)
            · skip
              refine z_iload_n C dX8_taken_61 rfl 0 rfl ?_
              refine z_goto (tgt := 67) C dX8_taken_62 (by decide) ?_
              refine z_iret C hr rfl dX8_taken_67 ?_
              refine ⟨_, rfl, ?_⟩
              exact ⟨by rw [cif_t ⟨k, hk, rfl⟩, cif_t ⟨t, ht, rfl⟩, zn_n (by omega), zn_n (by omega), cif_t (zTak_t (by omega))], rfl, rfl⟩
            · skip
              refine z_iload_n C dX8_taken_51 rfl 3 rfl ?_
              refine z_iconst C (v := 3) dX8_taken_52 (by decide) ?_
              refine z_icmp_ne_n k 3 (tgt := 65) C rfl rfl (by omega) (by omega) dX8_taken_53 (by decide) (fun c53 => ?_) (fun c53 => ?_)
              · skip
                refine z_bipush C (v := -12) dX8_taken_65 (by decide) ?_
                refine z_iret C hr rfl dX8_taken_67 ?_
                refine ⟨_, rfl, ?_⟩
                exact ⟨by rw [cif_t ⟨k, hk, rfl⟩, cif_t ⟨t, ht, rfl⟩, zn_n (by omega), zn_n (by omega), cif_f (fun z => by have := zTak_n z; omega)], rfl, rfl⟩
              · skip
                refine z_iload_n C dX8_taken_56 rfl 0 rfl ?_
                refine z_iconst C (v := 5) dX8_taken_57 (by decide) ?_
                refine z_icmp_lt_n (kd t) 5 (tgt := 65) C rfl rfl (by omega) (by omega) dX8_taken_58 (by decide) (fun c58 => ?_) (fun c58 => ?_)
                · skip
                  refine z_bipush C (v := -12) dX8_taken_65 (by decide) ?_
                  refine z_iret C hr rfl dX8_taken_67 ?_
                  refine ⟨_, rfl, ?_⟩
                  exact ⟨by rw [cif_t ⟨k, hk, rfl⟩, cif_t ⟨t, ht, rfl⟩, zn_n (by omega), zn_n (by omega), cif_f (fun z => by have := zTak_n z; omega)], rfl, rfl⟩
                · skip
                  refine z_iload_n C dX8_taken_61 rfl 0 rfl ?_
                  refine z_goto (tgt := 67) C dX8_taken_62 (by decide) ?_
                  refine z_iret C hr rfl dX8_taken_67 ?_
                  refine ⟨_, rfl, ?_⟩
                  exact ⟨by rw [cif_t ⟨k, hk, rfl⟩, cif_t ⟨t, ht, rfl⟩, zn_n (by omega), zn_n (by omega), cif_t (zTak_t (by omega))], rfl, rfl⟩
    · skip
      refine z_bipush C (v := -11) dX8_taken_22 (by decide) ?_
      refine z_iret C hr rfl dX8_taken_24 ?_
      refine ⟨_, rfl, ?_⟩
      exact ⟨by rw [cif_t ⟨k, hk, rfl⟩, cif_f c19], rfl, rfl⟩
  · skip
    refine z_bipush C (v := -2) dX8_taken_11 (by decide) ?_
    refine z_iret C hr rfl dX8_taken_13 ?_
    refine ⟨_, rfl, ?_⟩
    exact ⟨by rw [cif_f c8], rfl, rfl⟩
theorem zin_w {x : Int32} {n m : Nat} (h : n ≤ m) (q : zin x n) : zin x m := by
  obtain ⟨k, h1, h2⟩ := q; exact ⟨k, by omega, h2⟩
abbrev rm_X8_trace : Room := { frames := 5, cells := 0, slots := 0, locals := 223 }
set_option maxRecDepth 100000 in
set_option maxHeartbeats 4000000 in
theorem k_X8_trace (w : zW) (I : zI) (J : zJ) (bg : Nat) (x : Int32) (hbg : I 82 52 = nI bg) (hb1 : bg ≤ 10000) : zMet yX8_trace cX8_trace 2 (some .int) rm_X8_trace w [.ref (zad w 82), .int x] I J (zpi (fun v I' J' => v = cif (zin x (min bg 20)) (I 118 (zn x)) (-1) ∧ I' = I ∧ J' = J)) := by
  refine zMet_of (by decide) (Nat.le_of_ble_eq_true rfl) (fun X C hm hr => ?_)
  refine z_sub (lv' := [(0, .ref (zad w 82)), (1, .int x)]) [0, 1] rfl ?_
  refine z_aload_n C dX8_trace_0 rfl 0 rfl ?_
  refine z_iload_n C dX8_trace_1 rfl 1 rfl ?_
  refine z_iconst C (v := 0) dX8_trace_2 (by decide) ?_
  refine z_bipush C (v := 19) dX8_trace_3 (by decide) ?_
  refine z_callVi C hm cl_X8_189 cv_X8_in 82 (by decide) sh82 ⟨_, _, rfl⟩ [.int x, .int 0, .int 19] rfl (rest := []) rfl (k_X8_in w _ _ x (0) (19)) ⟨rfl, rfl, Nat.le_of_ble_eq_true rfl, Nat.le_of_ble_eq_true rfl⟩ (Nat.le_of_ble_eq_true rfl) dX8_trace_5 (fun v_1 I_1 J_1 h_1 => ?_)
  obtain ⟨ev_1, ei_1, ej_1⟩ := h_1
  replace ei_1 := ei_1.symm; subst ei_1
  replace ej_1 := ej_1.symm; subst ej_1
  replace ev_1 := ev_1.trans (bI_c (in_z (m := 19) (by decide))); subst ev_1
  refine z_ifeq_b (tgt := 28) C dX8_trace_8 (by decide) (fun c8 => ?_) (fun c8 => ?_)
  · skip
    refine z_iconst C (v := -1) dX8_trace_28 (by decide) ?_
    refine z_iret C hr rfl dX8_trace_29 ?_
    refine ⟨_, rfl, ?_⟩
    exact ⟨by rw [cif_f (fun q => c8 (zin_w (by omega) q))], rfl, rfl⟩
  · skip
    obtain ⟨i, hi, rfl⟩ := c8
    refine z_iload_n C dX8_trace_11 rfl 1 rfl ?_
    refine z_aload_n C dX8_trace_12 rfl 0 rfl ?_
    refine z_geti C ff_X8_171 82 (by decide) sh82 rfl (v := nI bg) hbg dX8_trace_13 ?_
    refine z_icmp_ge_n i bg (tgt := 28) C rfl rfl (by omega) (by omega) dX8_trace_16 (by decide) (fun c16 => ?_) (fun c16 => ?_)
    · skip
      refine z_iconst C (v := -1) dX8_trace_28 (by decide) ?_
      refine z_iret C hr rfl dX8_trace_29 ?_
      refine ⟨_, rfl, ?_⟩
      exact ⟨by rw [cif_f (fun ⟨j, q1, q2⟩ => by have := (nI_eq (by omega) (by omega)).mp q2; omega)], rfl, rfl⟩
    · skip
      refine z_aload_n C dX8_trace_19 rfl 0 rfl ?_
      refine z_getr C ff_X8_174 82 (by decide) sh82 rfl dX8_trace_20 ?_
      refine z_iload_n C dX8_trace_23 rfl 1 rfl ?_
      refine z_iald C 118 (by decide) sh118 i (by omega) (by decide) rfl (v := I 118 i) rfl dX8_trace_24 ?_
      refine z_goto (tgt := 29) C dX8_trace_25 (by decide) ?_
      refine z_iret C hr rfl dX8_trace_29 ?_
      refine ⟨_, rfl, ?_⟩
      exact ⟨by rw [cif_t ⟨i, by omega, rfl⟩, zn_n (by omega)], rfl, rfl⟩
abbrev rm_X8_count : Room := { frames := 4, cells := 0, slots := 0, locals := 200 }
set_option maxRecDepth 100000 in
set_option maxHeartbeats 4000000 in
theorem k_X8_count (w : zW) (I : zI) (J : zJ)  (x : Int32)  : zMet yX8_count cX8_count 2 (some .int) rm_X8_count w [.ref (zad w 82), .int x] I J (zpi (fun v I' J' => v = zCt x (I 82 0) (I 82 27) (I 82 4) (I 82 35) (I 82 6) (I 82 52) ∧ I' = I ∧ J' = J)) := by
  refine zMet_of (by decide) (Nat.le_of_ble_eq_true rfl) (fun X C hm hr => ?_)
  refine z_sub (lv' := [(0, .ref (zad w 82)), (1, .int x)]) [0, 1] rfl ?_
  refine z_iload_n C dX8_count_0 rfl 1 rfl ?_
  by_cases c1_0 : x = 0
  · skip
    refine z_tableIn (tgt := 40) C dX8_count_1 (by rw [c1_0]; decide) (by rw [c1_0]; decide) (off := 39) (by rw [c1_0]; decide) (by decide) ?_
    refine z_aload_n C dX8_count_40 rfl 0 rfl ?_
    refine z_geti C ff_X8_7 82 (by decide) sh82 rfl (v := I 82 0) rfl dX8_count_41 ?_
    refine z_iret C hr rfl dX8_count_44 ?_
    refine ⟨_, rfl, ?_⟩
    exact ⟨by unfold zCt; rw [if_pos c1_0], rfl, rfl⟩
  by_cases c1_1 : x = 1
  · skip
    refine z_tableIn (tgt := 45) C dX8_count_1 (by rw [c1_1]; decide) (by rw [c1_1]; decide) (off := 44) (by rw [c1_1]; decide) (by decide) ?_
    refine z_aload_n C dX8_count_45 rfl 0 rfl ?_
    refine z_geti C ff_X8_93 82 (by decide) sh82 rfl (v := I 82 27) rfl dX8_count_46 ?_
    refine z_iret C hr rfl dX8_count_49 ?_
    refine ⟨_, rfl, ?_⟩
    exact ⟨by unfold zCt; rw [if_neg c1_0, if_pos c1_1], rfl, rfl⟩
  by_cases c1_2 : x = 2
  · skip
    refine z_tableIn (tgt := 50) C dX8_count_1 (by rw [c1_2]; decide) (by rw [c1_2]; decide) (off := 49) (by rw [c1_2]; decide) (by decide) ?_
    refine z_aload_n C dX8_count_50 rfl 0 rfl ?_
    refine z_geti C ff_X8_23 82 (by decide) sh82 rfl (v := I 82 4) rfl dX8_count_51 ?_
    refine z_iret C hr rfl dX8_count_54 ?_
    refine ⟨_, rfl, ?_⟩
    exact ⟨by unfold zCt; rw [if_neg c1_0, if_neg c1_1, if_pos c1_2], rfl, rfl⟩
  by_cases c1_3 : x = 3
  · skip
    refine z_tableIn (tgt := 55) C dX8_count_1 (by rw [c1_3]; decide) (by rw [c1_3]; decide) (off := 54) (by rw [c1_3]; decide) (by decide) ?_
    refine z_aload_n C dX8_count_55 rfl 0 rfl ?_
    refine z_geti C ff_X8_119 82 (by decide) sh82 rfl (v := I 82 35) rfl dX8_count_56 ?_
    refine z_iret C hr rfl dX8_count_59 ?_
    refine ⟨_, rfl, ?_⟩
    exact ⟨by unfold zCt; rw [if_neg c1_0, if_neg c1_1, if_neg c1_2, if_pos c1_3], rfl, rfl⟩
  by_cases c1_4 : x = 4
  · skip
    refine z_tableIn (tgt := 60) C dX8_count_1 (by rw [c1_4]; decide) (by rw [c1_4]; decide) (off := 59) (by rw [c1_4]; decide) (by decide) ?_
    refine z_aload_n C dX8_count_60 rfl 0 rfl ?_
    refine z_geti C ff_X8_29 82 (by decide) sh82 rfl (v := I 82 6) rfl dX8_count_61 ?_
    refine z_iret C hr rfl dX8_count_64 ?_
    refine ⟨_, rfl, ?_⟩
    exact ⟨by unfold zCt; rw [if_neg c1_0, if_neg c1_1, if_neg c1_2, if_neg c1_3, if_pos c1_4], rfl, rfl⟩
  by_cases c1_5 : x = 5
  · skip
    refine z_tableIn (tgt := 65) C dX8_count_1 (by rw [c1_5]; decide) (by rw [c1_5]; decide) (off := 64) (by rw [c1_5]; decide) (by decide) ?_
    refine z_aload_n C dX8_count_65 rfl 0 rfl ?_
    refine z_geti C ff_X8_171 82 (by decide) sh82 rfl (v := I 82 52) rfl dX8_count_66 ?_
    refine z_iret C hr rfl dX8_count_69 ?_
    refine ⟨_, rfl, ?_⟩
    exact ⟨by unfold zCt; rw [if_neg c1_0, if_neg c1_1, if_neg c1_2, if_neg c1_3, if_neg c1_4, if_pos c1_5], rfl, rfl⟩
  refine z_tableOut (tgt := 70) C dX8_count_1 (by have h0 := lv_neT c1_0 (a := 0) (by decide); have h1 := lv_neT c1_1 (a := 1) (by decide); have h2 := lv_neT c1_2 (a := 2) (by decide); have h3 := lv_neT c1_3 (a := 3) (by decide); have h4 := lv_neT c1_4 (a := 4) (by decide); have h5 := lv_neT c1_5 (a := 5) (by decide); omega) (by decide) ?_
  refine z_bipush C (v := -2) dX8_count_70 (by decide) ?_
  refine z_iret C hr rfl dX8_count_72 ?_
  refine ⟨_, rfl, ?_⟩
  exact ⟨by unfold zCt; rw [if_neg c1_0, if_neg c1_1, if_neg c1_2, if_neg c1_3, if_neg c1_4, if_neg c1_5], rfl, rfl⟩
abbrev rm_X8_blank : Room := { frames := 5, cells := 0, slots := 0, locals := 223 }
set_option maxRecDepth 100000 in
set_option maxHeartbeats 4000000 in
theorem k_X8_blank (w : zW) (I : zI) (J : zJ) (bk : Nat) (x : Int32) (hK : I 82 35 = nI bk) (hbk : bk ≤ 6) : zMet yX8_blank cX8_blank 2 (some .int) rm_X8_blank w [.ref (zad w 82), .int x] I J (zpi (fun v I' J' => v = cif (x = -1) 0 (cif (zi1 x 12) (cif (bk < 6) (nI (bk + 1)) (-4)) (-2)) ∧ I' = cif (x = -1) (zup I 82 (upd (I 82) 35 0)) (cif (zi1 x 12 ∧ bk < 6) (zup (zup I 106 (upd (I 106) bk x)) 82 (upd (I 82) 35 (nI (bk + 1)))) I) ∧ J' = J)) := by
  refine zMet_of (by decide) (Nat.le_of_ble_eq_true rfl) (fun X C hm hr => ?_)
  refine z_sub (lv' := [(0, .ref (zad w 82)), (1, .int x)]) [0, 1] rfl ?_
  refine z_iload_n C dX8_blank_0 rfl 1 rfl ?_
  refine z_iconst C (v := -1) dX8_blank_1 (by decide) ?_
  refine z_icmp_ne (tgt := 12) C dX8_blank_2 (by decide) (fun c2 => ?_) (fun c2 => ?_)
  · skip
    refine z_aload_n C dX8_blank_12 rfl 0 rfl ?_
    refine z_iload_n C dX8_blank_13 rfl 1 rfl ?_
    refine z_iconst C (v := 1) dX8_blank_14 (by decide) ?_
    refine z_bipush C (v := 12) dX8_blank_15 (by decide) ?_
    refine z_callVi C hm cl_X8_189 cv_X8_in 82 (by decide) sh82 ⟨_, _, rfl⟩ [.int x, .int 1, .int 12] rfl (rest := []) rfl (k_X8_in w _ _ x (1) (12)) ⟨rfl, rfl, Nat.le_of_ble_eq_true rfl, Nat.le_of_ble_eq_true rfl⟩ (Nat.le_of_ble_eq_true rfl) dX8_blank_17 (fun v_1 I_1 J_1 h_1 => ?_)
    obtain ⟨ev_1, ei_1, ej_1⟩ := h_1
    replace ei_1 := ei_1.symm; subst ei_1
    replace ej_1 := ej_1.symm; subst ej_1
    replace ev_1 := ev_1.trans (bI_c (in_1 (m := 12) (by decide))); subst ev_1
    refine z_ifne_b (tgt := 26) C dX8_blank_20 (by decide) (fun c20 => ?_) (fun c20 => ?_)
    · skip
      refine z_aload_n C dX8_blank_26 rfl 0 rfl ?_
      refine z_geti C ff_X8_119 82 (by decide) sh82 rfl (v := nI bk) hK dX8_blank_27 ?_
      refine z_bipush C (v := 6) dX8_blank_30 (by decide) ?_
      refine z_icmp_ne_n bk 6 (tgt := 38) C rfl rfl (by omega) (by omega) dX8_blank_32 (by decide) (fun c32 => ?_) (fun c32 => ?_)
      · skip
        refine z_aload_n C dX8_blank_38 rfl 0 rfl ?_
        refine z_getr C ff_X8_122 82 (by decide) sh82 rfl dX8_blank_39 ?_
        refine z_aload_n C dX8_blank_42 rfl 0 rfl ?_
        refine z_geti C ff_X8_119 82 (by decide) sh82 rfl (v := nI bk) hK dX8_blank_43 ?_
        refine z_iload_n C dX8_blank_46 rfl 1 rfl ?_
        refine z_iast C 106 (by decide) sh106 bk (by omega) (by decide) rfl dX8_blank_47 ?_
        refine z_I (I' := zup I 106 (upd (I 106) bk x)) rfl ?_
        refine z_aload_n C dX8_blank_48 rfl 0 rfl ?_
        refine z_dup C dX8_blank_49 rfl ?_
        refine z_geti C ff_X8_119 82 (by decide) sh82 rfl (v := nI bk) (by first | exact hK | (simp [zup, zupJ, upd, vp_updL]; exact hK)) dX8_blank_50 ?_
        refine z_iconst C (v := 1) dX8_blank_53 (by decide) ?_
        refine z_iadd C dX8_blank_54 ?_
        refine z_ti (y := nI (bk + 1)) (nI_add bk 1) ?_
        refine z_puti C ff_X8_119 82 (by decide) sh82 rfl rfl rfl dX8_blank_55 ?_
        refine z_I (I' := zup (zup I 106 (upd (I 106) bk x)) 82 (upd (I 82) 35 (nI (bk + 1)))) (by first | rfl | (rw [zup_n] <;> omega)) ?_
        refine z_aload_n C dX8_blank_58 rfl 0 rfl ?_
        refine z_geti C ff_X8_119 82 (by decide) sh82 rfl (v := nI (bk + 1)) (by first | rfl | (simp [zup, zupJ, upd, vp_updL]; done)) dX8_blank_59 ?_
        refine z_iret C hr rfl dX8_blank_62 ?_
        refine ⟨_, rfl, ?_⟩
        exact ⟨by rw [cif_f c2, cif_t c20, cif_t (by omega)], by rw [cif_f c2, cif_t ⟨c20, by omega⟩], rfl⟩
      · skip
        refine z_bipush C (v := -4) dX8_blank_35 (by decide) ?_
        refine z_iret C hr rfl dX8_blank_37 ?_
        refine ⟨_, rfl, ?_⟩
        exact ⟨by rw [cif_f c2, cif_t c20, cif_f (by omega)], by rw [cif_f c2, cif_f (fun q => by omega)], rfl⟩
    · skip
      refine z_bipush C (v := -2) dX8_blank_23 (by decide) ?_
      refine z_iret C hr rfl dX8_blank_25 ?_
      refine ⟨_, rfl, ?_⟩
      exact ⟨by rw [cif_f c2, cif_f c20], by rw [cif_f c2, cif_f (fun q => c20 q.1)], rfl⟩
  · skip
    refine z_aload_n C dX8_blank_5 rfl 0 rfl ?_
    refine z_iconst C (v := 0) dX8_blank_6 (by decide) ?_
    refine z_puti C ff_X8_119 82 (by decide) sh82 rfl rfl rfl dX8_blank_7 ?_
    refine z_I (I' := zup I 82 (upd (I 82) 35 0)) rfl ?_
    refine z_iconst C (v := 0) dX8_blank_10 (by decide) ?_
    refine z_iret C hr rfl dX8_blank_11 ?_
    refine ⟨_, rfl, ?_⟩
    exact ⟨by rw [cif_t c2], by rw [cif_t c2], rfl⟩
abbrev rm_X8_body : Room := { frames := 4, cells := 0, slots := 0, locals := 200 }
set_option maxRecDepth 100000 in
set_option maxHeartbeats 4000000 in
theorem k_X8_body (w : zW) (I : zI) (J : zJ) (bg : Nat) (b : Int32) (hbg : I 82 52 = nI bg) (hb1 : bg ≤ 10000) : zMet yX8_body cX8_body 2 none rm_X8_body w [.ref (zad w 82), .int b] I J (zpv (fun I' J' => I' = zup (zup I 118 (aPut (I 118) bg b)) 82 (upd (I 82) 52 (nI (bg + 1))) ∧ J' = J)) := by
  refine zMet_of (by decide) (Nat.le_of_ble_eq_true rfl) (fun X C hm hr => ?_)
  refine z_sub (lv' := [(0, .ref (zad w 82)), (1, .int b)]) [0, 1] rfl ?_
  refine z_aload_n C dX8_body_0 rfl 0 rfl ?_
  refine z_geti C ff_X8_171 82 (by decide) sh82 rfl (v := nI bg) hbg dX8_body_1 ?_
  refine z_bipush C (v := 20) dX8_body_4 (by decide) ?_
  refine z_icmp_ge_n bg 20 (tgt := 19) C rfl rfl (by omega) (by omega) dX8_body_6 (by decide) (fun c6 => ?_) (fun c6 => ?_)
  · skip
    refine z_aload_n C dX8_body_19 rfl 0 rfl ?_
    refine z_dup C dX8_body_20 rfl ?_
    refine z_geti C ff_X8_171 82 (by decide) sh82 rfl (v := nI bg) hbg dX8_body_21 ?_
    refine z_iconst C (v := 1) dX8_body_24 (by decide) ?_
    refine z_iadd C dX8_body_25 ?_
    refine z_ti (y := nI (bg + 1)) (nI_add bg 1) ?_
    refine z_puti C ff_X8_171 82 (by decide) sh82 rfl rfl rfl dX8_body_26 ?_
    refine z_I (I' := zup I 82 (upd (I 82) 52 (nI (bg + 1)))) rfl ?_
    refine z_vret C hr dX8_body_29 ?_
    refine ⟨rfl, ?_⟩
    exact ⟨by rw [aPut, if_neg (by omega), zup_id], rfl⟩
  · skip
    refine z_aload_n C dX8_body_9 rfl 0 rfl ?_
    refine z_getr C ff_X8_174 82 (by decide) sh82 rfl dX8_body_10 ?_
    refine z_aload_n C dX8_body_13 rfl 0 rfl ?_
    refine z_geti C ff_X8_171 82 (by decide) sh82 rfl (v := nI bg) hbg dX8_body_14 ?_
    refine z_iload_n C dX8_body_17 rfl 1 rfl ?_
    refine z_iast C 118 (by decide) sh118 bg (by omega) (by decide) rfl dX8_body_18 ?_
    refine z_I (I' := zup I 118 (upd (I 118) bg b)) rfl ?_
    refine z_aload_n C dX8_body_19 rfl 0 rfl ?_
    refine z_dup C dX8_body_20 rfl ?_
    refine z_geti C ff_X8_171 82 (by decide) sh82 rfl (v := nI bg) (by first | exact hbg | (simp [zup, zupJ, upd, vp_updL]; exact hbg)) dX8_body_21 ?_
    refine z_iconst C (v := 1) dX8_body_24 (by decide) ?_
    refine z_iadd C dX8_body_25 ?_
    refine z_ti (y := nI (bg + 1)) (nI_add bg 1) ?_
    refine z_puti C ff_X8_171 82 (by decide) sh82 rfl rfl rfl dX8_body_26 ?_
    refine z_I (I' := zup (zup I 118 (upd (I 118) bg b)) 82 (upd (I 82) 52 (nI (bg + 1)))) (by first | rfl | (rw [zup_n] <;> omega)) ?_
    refine z_vret C hr dX8_body_29 ?_
    refine ⟨rfl, ?_⟩
    exact ⟨by rw [aPut, if_pos (by omega)], rfl⟩
theorem zup_na {I : zI} {a b k : Nat} {g : Nat → Int32} (h : a ≠ b) : zup I b g a k = I a k := by rw [zup_n h]
abbrev rm_X8_copy : Room := { frames := 4, cells := 0, slots := 0, locals := 200 }
set_option maxRecDepth 100000 in
set_option maxHeartbeats 4000000 in
theorem k_X8_copy (w : zW) (I : zI) (J : zJ) (a b m n : Nat) (r q : Nat → Option Nat)  (ha : a < zN) (hb : b < zN) (hab : a ≠ b) (hsa : zsh a = .inl (0, m, 0, r)) (hsb : zsh b = .inl (0, n, 0, q)) (hnm : n ≤ m) (hm3 : m ≤ 1000) : zMet yX8_copy cX8_copy 4 none rm_X8_copy w [.ref (zad w 82), .ref (zad w a), .ref (zad w b)] I J (zpv (fun I' J' => I' = zup I b (zcp (I a) (I b) n) ∧ J' = J)) := by
  refine zMet_of (by decide) (Nat.le_of_ble_eq_true rfl) (fun X C hm hr => ?_)
  refine z_sub (lv' := [(0, .ref (zad w 82)), (1, .ref (zad w a)), (2, .ref (zad w b))]) [0, 1, 2] rfl ?_
  refine z_iconst C (v := 0) dX8_copy_0 (by decide) ?_
  refine z_istore_n C hm (lv' := [(3, .int 0), (0, .ref (zad w 82)), (1, .ref (zad w a)), (2, .ref (zad w b))]) dX8_copy_1 rfl (by decide) rfl ?_
  have L2 : ∀ (d : Nat) (k : Nat) (v2_3 : Int32) (I2 : zI), (n - k) < d → (k ≤ n) → v2_3 = nI k → I2 = zup I b (zcp (I a) (I b) k) → Z X w I2 J 2 [(0, .ref (zad w 82)), (1, .ref (zad w a)), (2, .ref (zad w b)), (3, .int v2_3)] [] := by
    intro d
    induction d with
    | zero => intro k v2_3 I2 hd; exact absurd hd (Nat.not_lt_zero _)
    | succ d ih2 => 
      intro k v2_3 I2 hd2 hk e_v2_3 e_I2
      replace e_v2_3 := e_v2_3.symm; subst e_v2_3
      replace e_I2 := e_I2.symm; subst e_I2
      refine z_iload_n C dX8_copy_2 rfl 3 rfl ?_
      refine z_aload_n C dX8_copy_3 rfl 2 rfl ?_
      refine z_alen C b hb hsb (by decide) (v := nI n) rfl dX8_copy_4 ?_
      refine z_icmp_ge_n k n (tgt := 20) C rfl rfl (by omega) (by omega) dX8_copy_5 (by decide) (fun c5 => ?_) (fun c5 => ?_)
      · skip
        have hkk : k = n := by omega
        refine z_vret C hr dX8_copy_20 ?_
        refine ⟨rfl, ?_⟩
        exact ⟨by rw [hkk], rfl⟩
      · skip
        refine z_aload_n C dX8_copy_8 rfl 2 rfl ?_
        refine z_iload_n C dX8_copy_9 rfl 3 rfl ?_
        refine z_aload_n C dX8_copy_10 rfl 1 rfl ?_
        refine z_iload_n C dX8_copy_11 rfl 3 rfl ?_
        refine z_iald C a ha hsa k (by omega) (by omega) rfl (v := I a k) (by first | exact (zup_na hab) | (simp [zup, zupJ, upd, vp_updL]; exact (zup_na hab))) dX8_copy_12 ?_
        refine z_iast C b hb hsb k (by omega) (by omega) rfl dX8_copy_13 ?_
        refine z_I (I' := zup I b (upd (zcp (I a) (I b) k) k (I a k))) (by rw [zup_s, zup_up]) ?_
        refine z_iinc C hm 3 (v := nI (k + 1)) (lv' := [(3, .int (nI (k + 1))), (0, .ref (zad w 82)), (1, .ref (zad w a)), (2, .ref (zad w b))]) dX8_copy_14 rfl (nI_add k 1) (by decide) rfl ?_
        refine z_goto (tgt := 2) C dX8_copy_17 (by decide) ?_
        exact z_sub [1, 2, 3, 0] rfl (ih2  (k + 1) _ _ (by omega) (by omega) rfl (by rw [zcp_s]))
  exact z_sub [1, 2, 3, 0] rfl (L2 _ 0 _ _ (Nat.lt_succ_self _) (by omega) rfl (by rw [zcp_0, zup_id]))
abbrev rm_X8_image : Room := { frames := 5, cells := 0, slots := 0, locals := 223 }
set_option maxRecDepth 100000 in
set_option maxHeartbeats 4000000 in
theorem k_X8_image (w : zW) (I : zI) (J : zJ)    : zMet yX8_image cX8_image 1 (some .int) rm_X8_image w [.ref (zad w 82)] I J (zpi (fun v I' J' => v = I 82 27 ∧ I' 82 = upd (upd (upd (upd (I 82) 40 1) 41 (I 82 5)) 42 (I 82 27)) 43 (I 82 35) ∧ ((∀ k, k < 64 → I' 110 k = I 84 k) ∧ (∀ k, k < 8 → I' 111 k = I 85 k) ∧ (∀ k, k < 16 → I' 112 k = I 100 k) ∧ (∀ k, k < 16 → I' 113 k = I 101 k) ∧ (∀ k, k < 16 → I' 114 k = I 102 k) ∧ (∀ k, k < 16 → I' 115 k = I 103 k) ∧ (∀ k, k < 16 → I' 116 k = I 104 k) ∧ (∀ k, k < 6 → I' 117 k = I 106 k)) ∧ (∀ a, a ≠ 82 → (a < 110 ∨ 117 < a) → I' a = I a) ∧ J' = J)) := by
  refine zMet_of (by decide) (Nat.le_of_ble_eq_true rfl) (fun X C hm hr => ?_)
  refine z_sub (lv' := [(0, .ref (zad w 82))]) [0] rfl ?_
  refine z_aload_n C dX8_image_0 rfl 0 rfl ?_
  refine z_iconst C (v := 1) dX8_image_1 (by decide) ?_
  refine z_puti C ff_X8_134 82 (by decide) sh82 rfl rfl rfl dX8_image_2 ?_
  refine z_I (I' := zup I 82 (upd (I 82) 40 1)) rfl ?_
  refine z_aload_n C dX8_image_5 rfl 0 rfl ?_
  refine z_aload_n C dX8_image_6 rfl 0 rfl ?_
  refine z_geti C ff_X8_26 82 (by decide) sh82 rfl (v := I 82 5) (by first | rfl | (simp [zup, zupJ, upd, vp_updL]; done)) dX8_image_7 ?_
  refine z_puti C ff_X8_138 82 (by decide) sh82 rfl rfl rfl dX8_image_10 ?_
  refine z_I (I' := zup I 82 (upd (upd (I 82) 40 1) 41 (I 82 5))) (by rw [zup_s, zup_up]) ?_
  refine z_aload_n C dX8_image_13 rfl 0 rfl ?_
  refine z_aload_n C dX8_image_14 rfl 0 rfl ?_
  refine z_geti C ff_X8_93 82 (by decide) sh82 rfl (v := I 82 27) (by first | rfl | (simp [zup, zupJ, upd, vp_updL]; done)) dX8_image_15 ?_
  refine z_puti C ff_X8_141 82 (by decide) sh82 rfl rfl rfl dX8_image_18 ?_
  refine z_I (I' := zup I 82 (upd (upd (upd (I 82) 40 1) 41 (I 82 5)) 42 (I 82 27))) (by rw [zup_s, zup_up]) ?_
  refine z_aload_n C dX8_image_21 rfl 0 rfl ?_
  refine z_aload_n C dX8_image_22 rfl 0 rfl ?_
  refine z_geti C ff_X8_119 82 (by decide) sh82 rfl (v := I 82 35) (by first | rfl | (simp [zup, zupJ, upd, vp_updL]; done)) dX8_image_23 ?_
  refine z_puti C ff_X8_144 82 (by decide) sh82 rfl rfl rfl dX8_image_26 ?_
  refine z_I (I' := zup I 82 (upd (upd (upd (upd (I 82) 40 1) 41 (I 82 5)) 42 (I 82 27)) 43 (I 82 35))) (by rw [zup_s, zup_up]) ?_
  refine z_aload_n C dX8_image_29 rfl 0 rfl ?_
  refine z_aload_n C dX8_image_30 rfl 0 rfl ?_
  refine z_getr C ff_X8_17 82 (by decide) sh82 rfl dX8_image_31 ?_
  refine z_aload_n C dX8_image_34 rfl 0 rfl ?_
  refine z_getr C ff_X8_147 82 (by decide) sh82 rfl dX8_image_35 ?_
  refine z_callVv C hm cl_X8_336 cv_X8_copy 82 (by decide) sh82 ⟨_, _, rfl⟩ [.ref (zad w 84), .ref (zad w 110)] rfl (rest := []) rfl (k_X8_copy w _ _ 84 110 64 64 _ _ (by decide) (by decide) (by decide) sh84 sh110 (by decide) (by decide)) ⟨rfl, rfl, Nat.le_of_ble_eq_true rfl, Nat.le_of_ble_eq_true rfl⟩ (Nat.le_of_ble_eq_true rfl) dX8_image_38 (fun I_1 J_1 h_1 => ?_)
  obtain ⟨ei_1, ej_1⟩ := h_1
  replace ei_1 := ei_1.symm; subst ei_1
  replace ej_1 := ej_1.symm; subst ej_1
  refine z_aload_n C dX8_image_41 rfl 0 rfl ?_
  refine z_aload_n C dX8_image_42 rfl 0 rfl ?_
  refine z_getr C ff_X8_20 82 (by decide) sh82 rfl dX8_image_43 ?_
  refine z_aload_n C dX8_image_46 rfl 0 rfl ?_
  refine z_getr C ff_X8_150 82 (by decide) sh82 rfl dX8_image_47 ?_
  refine z_callVv C hm cl_X8_336 cv_X8_copy 82 (by decide) sh82 ⟨_, _, rfl⟩ [.ref (zad w 85), .ref (zad w 111)] rfl (rest := []) rfl (k_X8_copy w _ _ 85 111 8 8 _ _ (by decide) (by decide) (by decide) sh85 sh111 (by decide) (by decide)) ⟨rfl, rfl, Nat.le_of_ble_eq_true rfl, Nat.le_of_ble_eq_true rfl⟩ (Nat.le_of_ble_eq_true rfl) dX8_image_50 (fun I_2 J_2 h_2 => ?_)
  obtain ⟨ei_2, ej_2⟩ := h_2
  replace ei_2 := ei_2.symm; subst ei_2
  replace ej_2 := ej_2.symm; subst ej_2
  refine z_aload_n C dX8_image_53 rfl 0 rfl ?_
  refine z_aload_n C dX8_image_54 rfl 0 rfl ?_
  refine z_getr C ff_X8_96 82 (by decide) sh82 rfl dX8_image_55 ?_
  refine z_aload_n C dX8_image_58 rfl 0 rfl ?_
  refine z_getr C ff_X8_153 82 (by decide) sh82 rfl dX8_image_59 ?_
  refine z_callVv C hm cl_X8_336 cv_X8_copy 82 (by decide) sh82 ⟨_, _, rfl⟩ [.ref (zad w 100), .ref (zad w 112)] rfl (rest := []) rfl (k_X8_copy w _ _ 100 112 16 16 _ _ (by decide) (by decide) (by decide) sh100 sh112 (by decide) (by decide)) ⟨rfl, rfl, Nat.le_of_ble_eq_true rfl, Nat.le_of_ble_eq_true rfl⟩ (Nat.le_of_ble_eq_true rfl) dX8_image_62 (fun I_3 J_3 h_3 => ?_)
  obtain ⟨ei_3, ej_3⟩ := h_3
  replace ei_3 := ei_3.symm; subst ei_3
  replace ej_3 := ej_3.symm; subst ej_3
  refine z_aload_n C dX8_image_65 rfl 0 rfl ?_
  refine z_aload_n C dX8_image_66 rfl 0 rfl ?_
  refine z_getr C ff_X8_99 82 (by decide) sh82 rfl dX8_image_67 ?_
  refine z_aload_n C dX8_image_70 rfl 0 rfl ?_
  refine z_getr C ff_X8_156 82 (by decide) sh82 rfl dX8_image_71 ?_
  refine z_callVv C hm cl_X8_336 cv_X8_copy 82 (by decide) sh82 ⟨_, _, rfl⟩ [.ref (zad w 101), .ref (zad w 113)] rfl (rest := []) rfl (k_X8_copy w _ _ 101 113 16 16 _ _ (by decide) (by decide) (by decide) sh101 sh113 (by decide) (by decide)) ⟨rfl, rfl, Nat.le_of_ble_eq_true rfl, Nat.le_of_ble_eq_true rfl⟩ (Nat.le_of_ble_eq_true rfl) dX8_image_74 (fun I_4 J_4 h_4 => ?_)
  obtain ⟨ei_4, ej_4⟩ := h_4
  replace ei_4 := ei_4.symm; subst ei_4
  replace ej_4 := ej_4.symm; subst ej_4
  refine z_aload_n C dX8_image_77 rfl 0 rfl ?_
  refine z_aload_n C dX8_image_78 rfl 0 rfl ?_
  refine z_getr C ff_X8_102 82 (by decide) sh82 rfl dX8_image_79 ?_
  refine z_aload_n C dX8_image_82 rfl 0 rfl ?_
  refine z_getr C ff_X8_159 82 (by decide) sh82 rfl dX8_image_83 ?_
  refine z_callVv C hm cl_X8_336 cv_X8_copy 82 (by decide) sh82 ⟨_, _, rfl⟩ [.ref (zad w 102), .ref (zad w 114)] rfl (rest := []) rfl (k_X8_copy w _ _ 102 114 16 16 _ _ (by decide) (by decide) (by decide) sh102 sh114 (by decide) (by decide)) ⟨rfl, rfl, Nat.le_of_ble_eq_true rfl, Nat.le_of_ble_eq_true rfl⟩ (Nat.le_of_ble_eq_true rfl) dX8_image_86 (fun I_5 J_5 h_5 => ?_)
  obtain ⟨ei_5, ej_5⟩ := h_5
  replace ei_5 := ei_5.symm; subst ei_5
  replace ej_5 := ej_5.symm; subst ej_5
  refine z_aload_n C dX8_image_89 rfl 0 rfl ?_
  refine z_aload_n C dX8_image_90 rfl 0 rfl ?_
  refine z_getr C ff_X8_105 82 (by decide) sh82 rfl dX8_image_91 ?_
  refine z_aload_n C dX8_image_94 rfl 0 rfl ?_
  refine z_getr C ff_X8_162 82 (by decide) sh82 rfl dX8_image_95 ?_
  refine z_callVv C hm cl_X8_336 cv_X8_copy 82 (by decide) sh82 ⟨_, _, rfl⟩ [.ref (zad w 103), .ref (zad w 115)] rfl (rest := []) rfl (k_X8_copy w _ _ 103 115 16 16 _ _ (by decide) (by decide) (by decide) sh103 sh115 (by decide) (by decide)) ⟨rfl, rfl, Nat.le_of_ble_eq_true rfl, Nat.le_of_ble_eq_true rfl⟩ (Nat.le_of_ble_eq_true rfl) dX8_image_98 (fun I_6 J_6 h_6 => ?_)
  obtain ⟨ei_6, ej_6⟩ := h_6
  replace ei_6 := ei_6.symm; subst ei_6
  replace ej_6 := ej_6.symm; subst ej_6
  refine z_aload_n C dX8_image_101 rfl 0 rfl ?_
  refine z_aload_n C dX8_image_102 rfl 0 rfl ?_
  refine z_getr C ff_X8_108 82 (by decide) sh82 rfl dX8_image_103 ?_
  refine z_aload_n C dX8_image_106 rfl 0 rfl ?_
  refine z_getr C ff_X8_165 82 (by decide) sh82 rfl dX8_image_107 ?_
  refine z_callVv C hm cl_X8_336 cv_X8_copy 82 (by decide) sh82 ⟨_, _, rfl⟩ [.ref (zad w 104), .ref (zad w 116)] rfl (rest := []) rfl (k_X8_copy w _ _ 104 116 16 16 _ _ (by decide) (by decide) (by decide) sh104 sh116 (by decide) (by decide)) ⟨rfl, rfl, Nat.le_of_ble_eq_true rfl, Nat.le_of_ble_eq_true rfl⟩ (Nat.le_of_ble_eq_true rfl) dX8_image_110 (fun I_7 J_7 h_7 => ?_)
  obtain ⟨ei_7, ej_7⟩ := h_7
  replace ei_7 := ei_7.symm; subst ei_7
  replace ej_7 := ej_7.symm; subst ej_7
  refine z_aload_n C dX8_image_113 rfl 0 rfl ?_
  refine z_aload_n C dX8_image_114 rfl 0 rfl ?_
  refine z_getr C ff_X8_122 82 (by decide) sh82 rfl dX8_image_115 ?_
  refine z_aload_n C dX8_image_118 rfl 0 rfl ?_
  refine z_getr C ff_X8_168 82 (by decide) sh82 rfl dX8_image_119 ?_
  refine z_callVv C hm cl_X8_336 cv_X8_copy 82 (by decide) sh82 ⟨_, _, rfl⟩ [.ref (zad w 106), .ref (zad w 117)] rfl (rest := []) rfl (k_X8_copy w _ _ 106 117 6 6 _ _ (by decide) (by decide) (by decide) sh106 sh117 (by decide) (by decide)) ⟨rfl, rfl, Nat.le_of_ble_eq_true rfl, Nat.le_of_ble_eq_true rfl⟩ (Nat.le_of_ble_eq_true rfl) dX8_image_122 (fun I_8 J_8 h_8 => ?_)
  obtain ⟨ei_8, ej_8⟩ := h_8
  replace ei_8 := ei_8.symm; subst ei_8
  replace ej_8 := ej_8.symm; subst ej_8
  refine z_aload_n C dX8_image_125 rfl 0 rfl ?_
  refine z_geti C ff_X8_93 82 (by decide) sh82 rfl (v := I 82 27) (by first | rfl | (simp [zup, zupJ, upd, vp_updL]; done)) dX8_image_126 ?_
  refine z_iret C hr rfl dX8_image_129 ?_
  refine ⟨_, rfl, ?_⟩
  refine ⟨rfl, ?_, ⟨?_, ?_, ?_, ?_, ?_, ?_, ?_, ?_⟩, ?_, rfl⟩
  · simp only [zup]; rfl
  · intro k hk; simp only [zup]; first | exact zcp_l hk | (rw [zcp_l hk]; rfl)
  · intro k hk; simp only [zup]; first | exact zcp_l hk | (rw [zcp_l hk]; rfl)
  · intro k hk; simp only [zup]; first | exact zcp_l hk | (rw [zcp_l hk]; rfl)
  · intro k hk; simp only [zup]; first | exact zcp_l hk | (rw [zcp_l hk]; rfl)
  · intro k hk; simp only [zup]; first | exact zcp_l hk | (rw [zcp_l hk]; rfl)
  · intro k hk; simp only [zup]; first | exact zcp_l hk | (rw [zcp_l hk]; rfl)
  · intro k hk; simp only [zup]; first | exact zcp_l hk | (rw [zcp_l hk]; rfl)
  · intro k hk; simp only [zup]; first | exact zcp_l hk | (rw [zcp_l hk]; rfl)
  · intro a h1 h2
    simp only [zup]
    rw [if_neg (by omega), if_neg (by omega), if_neg (by omega), if_neg (by omega), if_neg (by omega), if_neg (by omega), if_neg (by omega), if_neg (by omega), if_neg (by omega)]
abbrev rm_X8_undo : Room := { frames := 5, cells := 0, slots := 0, locals := 223 }
set_option maxRecDepth 100000 in
set_option maxHeartbeats 4000000 in
theorem k_X8_undo (w : zW) (I : zI) (J : zJ)    : zMet yX8_undo cX8_undo 1 (some .int) rm_X8_undo w [.ref (zad w 82)] I J (zpi (fun v I' J' => ((I 82 40 = 0 ∧ v = -3 ∧ I' = I) ∨ (I 82 40 ≠ 0 ∧ v = I 82 42 ∧ I' 82 = upd (upd (upd (I 82) 5 (I 82 41)) 27 (I 82 42)) 35 (I 82 43) ∧ ((∀ k, k < 64 → I' 84 k = I 110 k) ∧ (∀ k, k < 8 → I' 85 k = I 111 k) ∧ (∀ k, k < 16 → I' 100 k = I 112 k) ∧ (∀ k, k < 16 → I' 101 k = I 113 k) ∧ (∀ k, k < 16 → I' 102 k = I 114 k) ∧ (∀ k, k < 16 → I' 103 k = I 115 k) ∧ (∀ k, k < 16 → I' 104 k = I 116 k) ∧ (∀ k, k < 6 → I' 106 k = I 117 k)) ∧ (∀ a, a ≠ 82 → a ≠ 84 → a ≠ 85 → (a < 100 ∨ 104 < a) → a ≠ 106 → I' a = I a))) ∧ J' = J)) := by
  refine zMet_of (by decide) (Nat.le_of_ble_eq_true rfl) (fun X C hm hr => ?_)
  refine z_sub (lv' := [(0, .ref (zad w 82))]) [0] rfl ?_
  refine z_aload_n C dX8_undo_0 rfl 0 rfl ?_
  refine z_geti C ff_X8_134 82 (by decide) sh82 rfl (v := I 82 40) rfl dX8_undo_1 ?_
  refine z_if_ne (tgt := 10) C dX8_undo_4 (by decide) (fun c4 => ?_) (fun c4 => ?_)
  · skip
    refine z_aload_n C dX8_undo_10 rfl 0 rfl ?_
    refine z_aload_n C dX8_undo_11 rfl 0 rfl ?_
    refine z_geti C ff_X8_138 82 (by decide) sh82 rfl (v := I 82 41) rfl dX8_undo_12 ?_
    refine z_puti C ff_X8_26 82 (by decide) sh82 rfl rfl rfl dX8_undo_15 ?_
    refine z_I (I' := zup I 82 (upd (I 82) 5 (I 82 41))) rfl ?_
    refine z_aload_n C dX8_undo_18 rfl 0 rfl ?_
    refine z_aload_n C dX8_undo_19 rfl 0 rfl ?_
    refine z_geti C ff_X8_141 82 (by decide) sh82 rfl (v := I 82 42) (by first | rfl | (simp [zup, zupJ, upd, vp_updL]; done)) dX8_undo_20 ?_
    refine z_puti C ff_X8_93 82 (by decide) sh82 rfl rfl rfl dX8_undo_23 ?_
    refine z_I (I' := zup I 82 (upd (upd (I 82) 5 (I 82 41)) 27 (I 82 42))) (by rw [zup_s, zup_up]) ?_
    refine z_aload_n C dX8_undo_26 rfl 0 rfl ?_
    refine z_aload_n C dX8_undo_27 rfl 0 rfl ?_
    refine z_geti C ff_X8_144 82 (by decide) sh82 rfl (v := I 82 43) (by first | rfl | (simp [zup, zupJ, upd, vp_updL]; done)) dX8_undo_28 ?_
    refine z_puti C ff_X8_119 82 (by decide) sh82 rfl rfl rfl dX8_undo_31 ?_
    refine z_I (I' := zup I 82 (upd (upd (upd (I 82) 5 (I 82 41)) 27 (I 82 42)) 35 (I 82 43))) (by rw [zup_s, zup_up]) ?_
    refine z_aload_n C dX8_undo_34 rfl 0 rfl ?_
    refine z_aload_n C dX8_undo_35 rfl 0 rfl ?_
    refine z_getr C ff_X8_147 82 (by decide) sh82 rfl dX8_undo_36 ?_
    refine z_aload_n C dX8_undo_39 rfl 0 rfl ?_
    refine z_getr C ff_X8_17 82 (by decide) sh82 rfl dX8_undo_40 ?_
    refine z_callVv C hm cl_X8_336 cv_X8_copy 82 (by decide) sh82 ⟨_, _, rfl⟩ [.ref (zad w 110), .ref (zad w 84)] rfl (rest := []) rfl (k_X8_copy w _ _ 110 84 64 64 _ _ (by decide) (by decide) (by decide) sh110 sh84 (by decide) (by decide)) ⟨rfl, rfl, Nat.le_of_ble_eq_true rfl, Nat.le_of_ble_eq_true rfl⟩ (Nat.le_of_ble_eq_true rfl) dX8_undo_43 (fun I_1 J_1 h_1 => ?_)
    obtain ⟨ei_1, ej_1⟩ := h_1
    replace ei_1 := ei_1.symm; subst ei_1
    replace ej_1 := ej_1.symm; subst ej_1
    refine z_aload_n C dX8_undo_46 rfl 0 rfl ?_
    refine z_aload_n C dX8_undo_47 rfl 0 rfl ?_
    refine z_getr C ff_X8_150 82 (by decide) sh82 rfl dX8_undo_48 ?_
    refine z_aload_n C dX8_undo_51 rfl 0 rfl ?_
    refine z_getr C ff_X8_20 82 (by decide) sh82 rfl dX8_undo_52 ?_
    refine z_callVv C hm cl_X8_336 cv_X8_copy 82 (by decide) sh82 ⟨_, _, rfl⟩ [.ref (zad w 111), .ref (zad w 85)] rfl (rest := []) rfl (k_X8_copy w _ _ 111 85 8 8 _ _ (by decide) (by decide) (by decide) sh111 sh85 (by decide) (by decide)) ⟨rfl, rfl, Nat.le_of_ble_eq_true rfl, Nat.le_of_ble_eq_true rfl⟩ (Nat.le_of_ble_eq_true rfl) dX8_undo_55 (fun I_2 J_2 h_2 => ?_)
    obtain ⟨ei_2, ej_2⟩ := h_2
    replace ei_2 := ei_2.symm; subst ei_2
    replace ej_2 := ej_2.symm; subst ej_2
    refine z_aload_n C dX8_undo_58 rfl 0 rfl ?_
    refine z_aload_n C dX8_undo_59 rfl 0 rfl ?_
    refine z_getr C ff_X8_153 82 (by decide) sh82 rfl dX8_undo_60 ?_
    refine z_aload_n C dX8_undo_63 rfl 0 rfl ?_
    refine z_getr C ff_X8_96 82 (by decide) sh82 rfl dX8_undo_64 ?_
    refine z_callVv C hm cl_X8_336 cv_X8_copy 82 (by decide) sh82 ⟨_, _, rfl⟩ [.ref (zad w 112), .ref (zad w 100)] rfl (rest := []) rfl (k_X8_copy w _ _ 112 100 16 16 _ _ (by decide) (by decide) (by decide) sh112 sh100 (by decide) (by decide)) ⟨rfl, rfl, Nat.le_of_ble_eq_true rfl, Nat.le_of_ble_eq_true rfl⟩ (Nat.le_of_ble_eq_true rfl) dX8_undo_67 (fun I_3 J_3 h_3 => ?_)
    obtain ⟨ei_3, ej_3⟩ := h_3
    replace ei_3 := ei_3.symm; subst ei_3
    replace ej_3 := ej_3.symm; subst ej_3
    refine z_aload_n C dX8_undo_70 rfl 0 rfl ?_
    refine z_aload_n C dX8_undo_71 rfl 0 rfl ?_
    refine z_getr C ff_X8_156 82 (by decide) sh82 rfl dX8_undo_72 ?_
    refine z_aload_n C dX8_undo_75 rfl 0 rfl ?_
    refine z_getr C ff_X8_99 82 (by decide) sh82 rfl dX8_undo_76 ?_
    refine z_callVv C hm cl_X8_336 cv_X8_copy 82 (by decide) sh82 ⟨_, _, rfl⟩ [.ref (zad w 113), .ref (zad w 101)] rfl (rest := []) rfl (k_X8_copy w _ _ 113 101 16 16 _ _ (by decide) (by decide) (by decide) sh113 sh101 (by decide) (by decide)) ⟨rfl, rfl, Nat.le_of_ble_eq_true rfl, Nat.le_of_ble_eq_true rfl⟩ (Nat.le_of_ble_eq_true rfl) dX8_undo_79 (fun I_4 J_4 h_4 => ?_)
    obtain ⟨ei_4, ej_4⟩ := h_4
    replace ei_4 := ei_4.symm; subst ei_4
    replace ej_4 := ej_4.symm; subst ej_4
    refine z_aload_n C dX8_undo_82 rfl 0 rfl ?_
    refine z_aload_n C dX8_undo_83 rfl 0 rfl ?_
    refine z_getr C ff_X8_159 82 (by decide) sh82 rfl dX8_undo_84 ?_
    refine z_aload_n C dX8_undo_87 rfl 0 rfl ?_
    refine z_getr C ff_X8_102 82 (by decide) sh82 rfl dX8_undo_88 ?_
    refine z_callVv C hm cl_X8_336 cv_X8_copy 82 (by decide) sh82 ⟨_, _, rfl⟩ [.ref (zad w 114), .ref (zad w 102)] rfl (rest := []) rfl (k_X8_copy w _ _ 114 102 16 16 _ _ (by decide) (by decide) (by decide) sh114 sh102 (by decide) (by decide)) ⟨rfl, rfl, Nat.le_of_ble_eq_true rfl, Nat.le_of_ble_eq_true rfl⟩ (Nat.le_of_ble_eq_true rfl) dX8_undo_91 (fun I_5 J_5 h_5 => ?_)
    obtain ⟨ei_5, ej_5⟩ := h_5
    replace ei_5 := ei_5.symm; subst ei_5
    replace ej_5 := ej_5.symm; subst ej_5
    refine z_aload_n C dX8_undo_94 rfl 0 rfl ?_
    refine z_aload_n C dX8_undo_95 rfl 0 rfl ?_
    refine z_getr C ff_X8_162 82 (by decide) sh82 rfl dX8_undo_96 ?_
    refine z_aload_n C dX8_undo_99 rfl 0 rfl ?_
    refine z_getr C ff_X8_105 82 (by decide) sh82 rfl dX8_undo_100 ?_
    refine z_callVv C hm cl_X8_336 cv_X8_copy 82 (by decide) sh82 ⟨_, _, rfl⟩ [.ref (zad w 115), .ref (zad w 103)] rfl (rest := []) rfl (k_X8_copy w _ _ 115 103 16 16 _ _ (by decide) (by decide) (by decide) sh115 sh103 (by decide) (by decide)) ⟨rfl, rfl, Nat.le_of_ble_eq_true rfl, Nat.le_of_ble_eq_true rfl⟩ (Nat.le_of_ble_eq_true rfl) dX8_undo_103 (fun I_6 J_6 h_6 => ?_)
    obtain ⟨ei_6, ej_6⟩ := h_6
    replace ei_6 := ei_6.symm; subst ei_6
    replace ej_6 := ej_6.symm; subst ej_6
    refine z_aload_n C dX8_undo_106 rfl 0 rfl ?_
    refine z_aload_n C dX8_undo_107 rfl 0 rfl ?_
    refine z_getr C ff_X8_165 82 (by decide) sh82 rfl dX8_undo_108 ?_
    refine z_aload_n C dX8_undo_111 rfl 0 rfl ?_
    refine z_getr C ff_X8_108 82 (by decide) sh82 rfl dX8_undo_112 ?_
    refine z_callVv C hm cl_X8_336 cv_X8_copy 82 (by decide) sh82 ⟨_, _, rfl⟩ [.ref (zad w 116), .ref (zad w 104)] rfl (rest := []) rfl (k_X8_copy w _ _ 116 104 16 16 _ _ (by decide) (by decide) (by decide) sh116 sh104 (by decide) (by decide)) ⟨rfl, rfl, Nat.le_of_ble_eq_true rfl, Nat.le_of_ble_eq_true rfl⟩ (Nat.le_of_ble_eq_true rfl) dX8_undo_115 (fun I_7 J_7 h_7 => ?_)
    obtain ⟨ei_7, ej_7⟩ := h_7
    replace ei_7 := ei_7.symm; subst ei_7
    replace ej_7 := ej_7.symm; subst ej_7
    refine z_aload_n C dX8_undo_118 rfl 0 rfl ?_
    refine z_aload_n C dX8_undo_119 rfl 0 rfl ?_
    refine z_getr C ff_X8_168 82 (by decide) sh82 rfl dX8_undo_120 ?_
    refine z_aload_n C dX8_undo_123 rfl 0 rfl ?_
    refine z_getr C ff_X8_122 82 (by decide) sh82 rfl dX8_undo_124 ?_
    refine z_callVv C hm cl_X8_336 cv_X8_copy 82 (by decide) sh82 ⟨_, _, rfl⟩ [.ref (zad w 117), .ref (zad w 106)] rfl (rest := []) rfl (k_X8_copy w _ _ 117 106 6 6 _ _ (by decide) (by decide) (by decide) sh117 sh106 (by decide) (by decide)) ⟨rfl, rfl, Nat.le_of_ble_eq_true rfl, Nat.le_of_ble_eq_true rfl⟩ (Nat.le_of_ble_eq_true rfl) dX8_undo_127 (fun I_8 J_8 h_8 => ?_)
    obtain ⟨ei_8, ej_8⟩ := h_8
    replace ei_8 := ei_8.symm; subst ei_8
    replace ej_8 := ej_8.symm; subst ej_8
    refine z_aload_n C dX8_undo_130 rfl 0 rfl ?_
    refine z_geti C ff_X8_93 82 (by decide) sh82 rfl (v := I 82 42) (by first | rfl | (simp [zup, zupJ, upd, vp_updL]; done)) dX8_undo_131 ?_
    refine z_iret C hr rfl dX8_undo_134 ?_
    refine ⟨_, rfl, ?_⟩
    refine ⟨Or.inr ⟨c4, rfl, ?_, ⟨?_, ?_, ?_, ?_, ?_, ?_, ?_, ?_⟩, ?_⟩, rfl⟩
    · simp only [zup]; rfl
    · intro k hk; simp only [zup]; first | exact zcp_l hk | (rw [zcp_l hk]; rfl)
    · intro k hk; simp only [zup]; first | exact zcp_l hk | (rw [zcp_l hk]; rfl)
    · intro k hk; simp only [zup]; first | exact zcp_l hk | (rw [zcp_l hk]; rfl)
    · intro k hk; simp only [zup]; first | exact zcp_l hk | (rw [zcp_l hk]; rfl)
    · intro k hk; simp only [zup]; first | exact zcp_l hk | (rw [zcp_l hk]; rfl)
    · intro k hk; simp only [zup]; first | exact zcp_l hk | (rw [zcp_l hk]; rfl)
    · intro k hk; simp only [zup]; first | exact zcp_l hk | (rw [zcp_l hk]; rfl)
    · intro k hk; simp only [zup]; first | exact zcp_l hk | (rw [zcp_l hk]; rfl)
    · intro a h1 h2 h3 h4 h5
      simp only [zup]
      rw [if_neg (by omega), if_neg (by omega), if_neg (by omega), if_neg (by omega), if_neg (by omega), if_neg (by omega), if_neg (by omega), if_neg (by omega), if_neg (by omega)]
  · skip
    refine z_bipush C (v := -3) dX8_undo_7 (by decide) ?_
    refine z_iret C hr rfl dX8_undo_9 ?_
    refine ⟨_, rfl, ?_⟩
    exact ⟨Or.inl ⟨c4, rfl, rfl⟩, rfl⟩
