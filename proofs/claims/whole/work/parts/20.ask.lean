/-! parted, watch, ask, blanks -/
noncomputable def zKn (n : Nat) (E : Nat → Nat) (hr : Nat) : Nat := zpop (zset (fun a => decide (E a ≤ hr)) n)
def zPt (p la kn : Nat) : Int32 := if p = 0 then 0 else if la < 2 then -5 else if (p + (la - 1) - 1) / (la - 1) ≤ kn then nI ((p + (la - 1) - 1) / (la - 1)) else -5
def zWt (p k kn : Nat) : Int32 := if p = 0 then 1 else if min k kn < 1 then -5 else if (p + min k kn - 1) / min k kn < 999 then nI ((p + min k kn - 1) / min k kn + 1) else -5
theorem la_2 {l : Nat} (hl : l ≤ 999) (c : (1 : Int32) ≤ nI l - 1) : 2 ≤ l := by
  rcases Nat.lt_or_ge l 2 with q | q
  · exfalso
    rcases (show l = 0 ∨ l = 1 by omega) with z | z
    · rw [z] at c; exact absurd c (by decide)
    · rw [z] at c; exact absurd c (by decide)
  · exact q
theorem la_1 {l : Nat} (hl : l ≤ 999) (c : ¬ (1 : Int32) ≤ nI l - 1) : l < 2 := by
  rcases Nat.lt_or_ge l 2 with q | q
  · exact q
  · exfalso
    have e : nI l - 1 = nI (l - 1) := pk_sub (b := 1) (by omega)
    rw [e] at c
    exact c ((nI_leI (a := 1) (b := l - 1) (by omega) (by omega)).mpr (by omega))
/-- how many others would not know, without this one -/
noncomputable def zLo (n : Nat) (E : Nat → Nat → Nat) (hr a : Nat) : Nat := zpop (zset (fun b => (decide (E 0 b ≤ hr) && !(decide (b < n) && decide (b = a))) && !(decide (b < n) && decide (E (2 ^ a) b ≤ hr))) n)
noncomputable def zNo (l : Nat → Int32) (n : Nat) (x : Int32) : Nat := zset (fun a => pB (l a = x)) n
noncomputable def zCe (f : Nat → Int32) (i : Nat) : Nat → Nat
  | 0 => 0
  | b + 1 => zCe f i b + cif (f b = f i) 1 0
noncomputable def zWf (N : Int32 → Nat) (f : Nat → Int32) : Nat → Nat
  | 0 => 1
  | i + 1 => zWf N f i * (zpop (N (f i)) - zCe f i i)
theorem dec1 (a c : Nat) : nI a - nI c + Int32.ofInt (-1) = nI a - nI (c + 1) := by
  rw [← nI_1]
  apply Int32.toBitVec_inj.mp
  simp only [Int32.toBitVec_sub, Int32.toBitVec_add]
  have e : (Int32.ofInt (-1)).toBitVec = -1#32 := by decide
  have e1 : (1 : Int32).toBitVec = 1#32 := by decide
  rw [e, e1]
  generalize (nI a).toBitVec = x
  generalize (nI c).toBitVec = y
  rw [BitVec.sub_eq_add_neg, BitVec.sub_eq_add_neg, BitVec.neg_add, BitVec.sub_eq_add_neg, BitVec.add_assoc]
theorem max_d {a c : Nat} (ha : a < 2 ^ 30) (hc : c < 2 ^ 30) : (if nI a - nI c < (0 : Int32) then (0 : Int32) else nI a - nI c) = nI (a - c) := by
  by_cases q : c ≤ a
  · rw [pk_sub q, max0 (by omega)]
  · have h1 : nI a - nI c < 0 := by
      rw [Int32.lt_iff_toInt_lt, pk_sub_toInt ha hc]
      have : (0 : Int32).toInt = 0 := by decide
      omega
    rw [if_pos h1, show a - c = 0 by omega]; rfl
theorem zWf_le {N : Int32 → Nat} {f : Nat → Int32} : ∀ i, zWf N f i ≤ 9 ^ i
  | 0 => Nat.le_refl _
  | i + 1 => by
    rw [zWf, Nat.pow_succ]
    exact Nat.mul_le_mul (zWf_le i) (Nat.le_trans (Nat.sub_le _ _) (zpop_le _))
theorem zCe_le {f : Nat → Int32} {i : Nat} : ∀ b, zCe f i b ≤ b
  | 0 => Nat.le_refl _
  | b + 1 => by
    have := zCe_le (f := f) (i := i) b
    rw [zCe]; unfold cif; split <;> omega
theorem zNo_lt {l : Nat → Int32} {n : Nat} {x : Int32} : zNo l n x < 2 ^ n := zset_lt n
abbrev rm_X7_parted : Room := { frames := 11, cells := 0, slots := 0, locals := 369 }
set_option maxRecDepth 100000 in
set_option maxHeartbeats 4000000 in
theorem k_X7_parted (w : zW) (I : zI) (J : zJ) (n : Nat) (h : Nat) (A : List zCla) (hd : Nat → Option Nat) (x : Int32) (y : Int32) (hN : I 0 1 = nI n) (hn : n ≤ 8) (hh : h < 7) (hH : I 5 2 = nI h) (hL : cLaw I h A) (hd7 : ∀ a, a < n → I 7 a = oI (hd a)) (hd99 : ∀ a k, hd a = some k → k ≤ 99) : zMet yX7_parted cX7_parted 5 (some .int) rm_X7_parted w [.ref (zad w 0), .int x, .int y] I J (zpi (fun v I' J' => v = cif (zin x 1000 ∧ zin y 100) (zPt (zn x) (aLast 3 A 999) (zKn n (ern 0 n (I 6) A hd) (zn y))) (-2) ∧ J' = J ∧ frS I' I)) := by
  refine zMet_of (by decide) (Nat.le_of_ble_eq_true rfl) (fun X C hm hr => ?_)
  refine z_sub (lv' := [(0, .ref (zad w 0)), (1, .int x), (2, .int y)]) [0, 1, 2] rfl ?_
  refine z_iload_n C dX7_parted_0 rfl 1 rfl ?_
  refine z_callSi C hm cl_X7_231 cs_X7_isParted [.int x] rfl (rest := []) rfl (k_X7_isParted w _ _  x ) ⟨rfl, rfl, Nat.le_of_ble_eq_true rfl, Nat.le_of_ble_eq_true rfl⟩ (Nat.le_of_ble_eq_true rfl) dX7_parted_1 (fun v_1 I_1 J_1 h_1 => ?_)
  obtain ⟨ev_1, ei_1, ej_1⟩ := h_1
  replace ev_1 := ev_1.symm; subst ev_1
  replace ei_1 := ei_1.symm; subst ei_1
  replace ej_1 := ej_1.symm; subst ej_1
  refine z_ifeq_b (tgt := 14) C dX7_parted_4 (by decide) (fun c4 => ?_) (fun c4 => ?_)
  · skip
    refine z_bipush C (v := -2) dX7_parted_14 (by decide) ?_
    refine z_iret C hr rfl dX7_parted_16 ?_
    refine ⟨_, rfl, ?_⟩
    exact ⟨by rw [cif_f (fun q => c4 q.1)], rfl, frS_id⟩
  · skip
    obtain ⟨p, hp, rfl⟩ := c4
    refine z_iload_n C dX7_parted_7 rfl 2 rfl ?_
    refine z_callSi C hm cl_X7_84 cs_X7_isHour [.int y] rfl (rest := []) rfl (k_X7_isHour w _ _  y ) ⟨rfl, rfl, Nat.le_of_ble_eq_true rfl, Nat.le_of_ble_eq_true rfl⟩ (Nat.le_of_ble_eq_true rfl) dX7_parted_8 (fun v_2 I_2 J_2 h_2 => ?_)
    obtain ⟨ev_2, ei_2, ej_2⟩ := h_2
    replace ev_2 := ev_2.symm; subst ev_2
    replace ei_2 := ei_2.symm; subst ei_2
    replace ej_2 := ej_2.symm; subst ej_2
    refine z_ifne_b (tgt := 17) C dX7_parted_11 (by decide) (fun c11 => ?_) (fun c11 => ?_)
    · skip
      obtain ⟨hr9, hhr9, rfl⟩ := c11
      have hkn : zKn n (ern 0 n (I 6) A hd) hr9 ≤ 9 := zpop_le _
      have hl3 : aLast 3 A 999 ≤ 999 := aLast_9 hL.1
      refine z_iload_n C dX7_parted_17 rfl 1 rfl ?_
      refine z_if_ne (tgt := 23) C dX7_parted_18 (by decide) (fun c18 => ?_) (fun c18 => ?_)
      · skip
        have hp0 : p ≠ 0 := fun q => c18 ((nI_0eq (by omega)).mpr q)
        refine z_aload_n C dX7_parted_23 rfl 0 rfl ?_
        refine z_getr C ff_X7_62 0 (by decide) sh0 rfl dX7_parted_24 ?_
        refine z_geth C ff_X7_104 5 (by decide) sh5 rfl (q := 47 + 5 * h) (zhd_h hH hh) dX7_parted_27 ?_
        refine z_iconst C (v := 3) dX7_parted_30 (by decide) ?_
        refine z_sipush C (v := 999) dX7_parted_31 (by decide) ?_
        refine z_callVi C hm cl_X7_213 cv_X1_lastOf (47 + 5 * h) (shLn0 hh) (shL0 hh) ⟨_, _, rfl⟩ [.int 3, .int 999] rfl (rest := []) rfl (k_X1_lastOf w _ _ h A 3 999 (3) (999) hh hL rfl rfl (by decide)) ⟨rfl, rfl, Nat.le_of_ble_eq_true rfl, Nat.le_of_ble_eq_true rfl⟩ (Nat.le_of_ble_eq_true rfl) dX7_parted_34 (fun v_3 I_3 J_3 h_3 => ?_)
        obtain ⟨ev_3, ei_3, ej_3⟩ := h_3
        replace ev_3 := ev_3.symm; subst ev_3
        replace ei_3 := ei_3.symm; subst ei_3
        replace ej_3 := ej_3.symm; subst ej_3
        refine z_iconst C (v := 1) dX7_parted_37 (by decide) ?_
        refine z_isub C dX7_parted_38 ?_
        refine z_istore_n C hm (lv' := [(3, .int ((nI (aLast 3 A 999)) - 1)), (0, .ref (zad w 0)), (1, .int (nI p)), (2, .int (nI hr9))]) dX7_parted_39 rfl (by decide) rfl ?_
        refine z_iload_n C dX7_parted_40 rfl 0 rfl ?_
        refine z_iconst C (v := 1) dX7_parted_41 (by decide) ?_
        refine z_icmp_ge (tgt := 48) C dX7_parted_42 (by decide) (fun c42 => ?_) (fun c42 => ?_)
        · skip
          have hl2 := la_2 hl3 c42
          have e1 : nI (aLast 3 A 999) - 1 = nI (aLast 3 A 999 - 1) := pk_sub (b := 1) (by omega)
          rw [e1]
          have hdl : (p + (aLast 3 A 999 - 1) - 1) / (aLast 3 A 999 - 1) ≤ 1998 := Nat.le_trans (Nat.div_le_self _ _) (by omega)
          refine z_iload_n C dX7_parted_48 rfl 2 rfl ?_
          refine z_iload_n C dX7_parted_49 rfl 0 rfl ?_
          refine z_iadd C dX7_parted_50 ?_
          refine z_ti (y := nI (p + (aLast 3 A 999 - 1))) (nI_add p (aLast 3 A 999 - 1)) ?_
          refine z_iconst C (v := 1) dX7_parted_51 (by decide) ?_
          refine z_isub C dX7_parted_52 ?_
          refine z_ti (y := nI ((p + (aLast 3 A 999 - 1)) - 1)) (pk_sub (b := 1) (by omega)) ?_
          refine z_iload_n C dX7_parted_53 rfl 0 rfl ?_
          refine z_idiv C dX7_parted_54 (fun q => absurd ((nI_0eq (by omega)).mp q) (by omega)) ?_
          refine z_ti (y := nI ((p + (aLast 3 A 999 - 1) - 1) / (aLast 3 A 999 - 1))) (pk_div (by omega) (by omega) (by omega)) ?_
          refine z_istore C hm (lv' := [(4, .int (nI ((p + (aLast 3 A 999 - 1) - 1) / (aLast 3 A 999 - 1)))), (3, .int (nI (aLast 3 A 999 - 1))), (0, .ref (zad w 0)), (1, .int (nI p)), (2, .int (nI hr9))]) dX7_parted_55 (by decide) rfl ?_
          refine z_iload C dX7_parted_57 0 rfl ?_
          refine z_aload_n C dX7_parted_59 rfl 2 rfl ?_
          refine z_iload_n C dX7_parted_60 rfl 4 rfl ?_
          refine z_callVi C hm cl_X7_234 cv_X7_knowers 0 (by decide) sh0 ⟨_, _, rfl⟩ [.int (nI hr9)] rfl (rest := [.int (nI ((p + (aLast 3 A 999 - 1) - 1) / (aLast 3 A 999 - 1)))]) rfl (k_X7_knowers w _ _ n h A hd hr9 hN hn hh hH hL hd7 hd99 (by omega)) ⟨rfl, rfl, Nat.le_of_ble_eq_true rfl, Nat.le_of_ble_eq_true rfl⟩ (Nat.le_of_ble_eq_true rfl) dX7_parted_61 (fun v_4 I_4 J_4 h_4 => ?_)
          obtain ⟨ev_4, eJ_4, hf_4⟩ := h_4
          replace ev_4 := ev_4.symm; subst ev_4
          replace eJ_4 := eJ_4.symm; subst eJ_4
          refine z_icmp_gt_n ((p + (aLast 3 A 999 - 1) - 1) / (aLast 3 A 999 - 1)) (zKn n (ern 0 n (I 6) A hd) hr9) (tgt := 72) C rfl rfl (by omega) (by omega) dX7_parted_64 (by decide) (fun c64 => ?_) (fun c64 => ?_)
          · skip
            refine z_bipush C (v := -5) dX7_parted_72 (by decide) ?_
            refine z_iret C hr rfl dX7_parted_74 ?_
            refine ⟨_, rfl, ?_⟩
            exact ⟨by rw [cif_t ⟨⟨p, hp, rfl⟩, ⟨hr9, hhr9, rfl⟩⟩, zn_n (by omega), zn_n (by omega), zPt, if_neg hp0, if_neg (by omega), if_neg (by omega)], rfl, hf_4⟩
          · skip
            refine z_iload C dX7_parted_67 0 rfl ?_
            refine z_goto (tgt := 74) C dX7_parted_69 (by decide) ?_
            refine z_iret C hr rfl dX7_parted_74 ?_
            refine ⟨_, rfl, ?_⟩
            exact ⟨by rw [cif_t ⟨⟨p, hp, rfl⟩, ⟨hr9, hhr9, rfl⟩⟩, zn_n (by omega), zn_n (by omega), zPt, if_neg hp0, if_neg (by omega), if_pos (by omega)], rfl, hf_4⟩
        · skip
          refine z_bipush C (v := -5) dX7_parted_45 (by decide) ?_
          refine z_iret C hr rfl dX7_parted_47 ?_
          refine ⟨_, rfl, ?_⟩
          exact ⟨by rw [cif_t ⟨⟨p, hp, rfl⟩, ⟨hr9, hhr9, rfl⟩⟩, zn_n (by omega), zn_n (by omega), zPt, if_neg hp0, if_pos (la_1 hl3 c42)], rfl, frS_id⟩
      · skip
        have hp0 : p = 0 := (nI_0eq (by omega)).mp c18
        refine z_iconst C (v := 0) dX7_parted_21 (by decide) ?_
        refine z_iret C hr rfl dX7_parted_22 ?_
        refine ⟨_, rfl, ?_⟩
        exact ⟨by rw [cif_t ⟨⟨p, hp, rfl⟩, ⟨hr9, hhr9, rfl⟩⟩, zn_n (by omega), zn_n (by omega), zPt, if_pos hp0], rfl, frS_id⟩
    · skip
      refine z_bipush C (v := -2) dX7_parted_14 (by decide) ?_
      refine z_iret C hr rfl dX7_parted_16 ?_
      refine ⟨_, rfl, ?_⟩
      exact ⟨by rw [cif_f (fun q => c11 q.2)], rfl, frS_id⟩
abbrev rm_X7_watch : Room := { frames := 11, cells := 0, slots := 0, locals := 369 }
set_option maxRecDepth 100000 in
set_option maxHeartbeats 4000000 in
theorem k_X7_watch (w : zW) (I : zI) (J : zJ) (n : Nat) (h : Nat) (A : List zCla) (hd : Nat → Option Nat) (x : Int32) (y : Int32) (z : Int32) (hN : I 0 1 = nI n) (hn : n ≤ 8) (hh : h < 7) (hH : I 5 2 = nI h) (hL : cLaw I h A) (hd7 : ∀ a, a < n → I 7 a = oI (hd a)) (hd99 : ∀ a k, hd a = some k → k ≤ 99) : zMet yX7_watch cX7_watch 6 (some .int) rm_X7_watch w [.ref (zad w 0), .int x, .int y, .int z] I J (zpi (fun v I' J' => v = cif (zin x 1000 ∧ zin y 100 ∧ zin z 9) (zWt (zn x) (zn z) (zKn n (ern 0 n (I 6) A hd) (zn y))) (-2) ∧ J' = J ∧ frS I' I)) := by
  refine zMet_of (by decide) (Nat.le_of_ble_eq_true rfl) (fun X C hm hr => ?_)
  refine z_sub (lv' := [(0, .ref (zad w 0)), (1, .int x), (2, .int y), (3, .int z)]) [0, 1, 2, 3] rfl ?_
  refine z_iload_n C dX7_watch_0 rfl 1 rfl ?_
  refine z_callSi C hm cl_X7_231 cs_X7_isParted [.int x] rfl (rest := []) rfl (k_X7_isParted w _ _  x ) ⟨rfl, rfl, Nat.le_of_ble_eq_true rfl, Nat.le_of_ble_eq_true rfl⟩ (Nat.le_of_ble_eq_true rfl) dX7_watch_1 (fun v_1 I_1 J_1 h_1 => ?_)
  obtain ⟨ev_1, ei_1, ej_1⟩ := h_1
  replace ev_1 := ev_1.symm; subst ev_1
  replace ei_1 := ei_1.symm; subst ei_1
  replace ej_1 := ej_1.symm; subst ej_1
  refine z_ifeq_b (tgt := 24) C dX7_watch_4 (by decide) (fun c4 => ?_) (fun c4 => ?_)
  · skip
    refine z_bipush C (v := -2) dX7_watch_24 (by decide) ?_
    refine z_iret C hr rfl dX7_watch_26 ?_
    refine ⟨_, rfl, ?_⟩
    exact ⟨by rw [cif_f (fun q => c4 q.1)], rfl, frS_id⟩
  · skip
    obtain ⟨p, hp, rfl⟩ := c4
    refine z_iload_n C dX7_watch_7 rfl 2 rfl ?_
    refine z_callSi C hm cl_X7_84 cs_X7_isHour [.int y] rfl (rest := []) rfl (k_X7_isHour w _ _  y ) ⟨rfl, rfl, Nat.le_of_ble_eq_true rfl, Nat.le_of_ble_eq_true rfl⟩ (Nat.le_of_ble_eq_true rfl) dX7_watch_8 (fun v_2 I_2 J_2 h_2 => ?_)
    obtain ⟨ev_2, ei_2, ej_2⟩ := h_2
    replace ev_2 := ev_2.symm; subst ev_2
    replace ei_2 := ei_2.symm; subst ei_2
    replace ej_2 := ej_2.symm; subst ej_2
    refine z_ifeq_b (tgt := 24) C dX7_watch_11 (by decide) (fun c11 => ?_) (fun c11 => ?_)
    · skip
      refine z_bipush C (v := -2) dX7_watch_24 (by decide) ?_
      refine z_iret C hr rfl dX7_watch_26 ?_
      refine ⟨_, rfl, ?_⟩
      exact ⟨by rw [cif_f (fun q => c11 q.2.1)], rfl, frS_id⟩
    · skip
      obtain ⟨hr9, hhr9, rfl⟩ := c11
      have hkn : zKn n (ern 0 n (I 6) A hd) hr9 ≤ 9 := zpop_le _
      have hl3 : aLast 3 A 999 ≤ 999 := aLast_9 hL.1
      refine z_iload_n C dX7_watch_14 rfl 3 rfl ?_
      refine z_if_lt (tgt := 24) C dX7_watch_15 (by decide) (fun c15 => ?_) (fun c15 => ?_)
      · skip
        refine z_bipush C (v := -2) dX7_watch_24 (by decide) ?_
        refine z_iret C hr rfl dX7_watch_26 ?_
        refine ⟨_, rfl, ?_⟩
        exact ⟨by rw [cif_f (fun q => zin_neg c15 (by decide) q.2.2)], rfl, frS_id⟩
      · skip
        refine z_iload_n C dX7_watch_18 rfl 3 rfl ?_
        refine z_bipush C (v := 8) dX7_watch_19 (by decide) ?_
        refine z_icmp_le (tgt := 27) C dX7_watch_21 (by decide) (fun c21 => ?_) (fun c21 => ?_)
        · skip
          obtain ⟨k, hk, rfl⟩ := zin_le (m := 8) c15 (Int32.not_lt.mpr c21) (by decide)
          refine z_iload_n C dX7_watch_27 rfl 1 rfl ?_
          refine z_if_ne (tgt := 33) C dX7_watch_28 (by decide) (fun c28 => ?_) (fun c28 => ?_)
          · skip
            have hp0 : p ≠ 0 := fun q => c28 ((nI_0eq (by omega)).mpr q)
            refine z_iload_n C dX7_watch_33 rfl 3 rfl ?_
            refine z_aload_n C dX7_watch_34 rfl 0 rfl ?_
            refine z_iload_n C dX7_watch_35 rfl 2 rfl ?_
            refine z_callVi C hm cl_X7_234 cv_X7_knowers 0 (by decide) sh0 ⟨_, _, rfl⟩ [.int (nI hr9)] rfl (rest := [.int (nI k)]) rfl (k_X7_knowers w _ _ n h A hd hr9 hN hn hh hH hL hd7 hd99 (by omega)) ⟨rfl, rfl, Nat.le_of_ble_eq_true rfl, Nat.le_of_ble_eq_true rfl⟩ (Nat.le_of_ble_eq_true rfl) dX7_watch_36 (fun v_3 I_3 J_3 h_3 => ?_)
            obtain ⟨ev_3, eJ_3, hf_3⟩ := h_3
            replace ev_3 := ev_3.symm; subst ev_3
            replace eJ_3 := eJ_3.symm; subst eJ_3
            refine z_min C hm ml_X7_237 st_min in_math co_min (Nat.le_of_ble_eq_true rfl) (Nat.le_of_ble_eq_true rfl) dX7_watch_39 ?_
            refine z_ti (y := nI (min k (zKn n (ern 0 n (I 6) A hd) hr9))) (mn_n (a := k) (b := zKn n (ern 0 n (I 6) A hd) hr9) (by omega) (by omega)) ?_
            refine z_istore C hm (lv' := [(4, .int (nI (min k (zKn n (ern 0 n (I 6) A hd) hr9)))), (0, .ref (zad w 0)), (1, .int (nI p)), (2, .int (nI hr9)), (3, .int (nI k))]) dX7_watch_42 (by decide) rfl ?_
            refine z_iload C dX7_watch_44 0 rfl ?_
            refine z_iconst C (v := 1) dX7_watch_46 (by decide) ?_
            refine z_icmp_ge_n (min k (zKn n (ern 0 n (I 6) A hd) hr9)) 1 (tgt := 53) C rfl rfl (by omega) (by omega) dX7_watch_47 (by decide) (fun c47 => ?_) (fun c47 => ?_)
            · skip
              have hdl : (p + min k (zKn n (ern 0 n (I 6) A hd) hr9) - 1) / min k (zKn n (ern 0 n (I 6) A hd) hr9) ≤ 1008 := Nat.le_trans (Nat.div_le_self _ _) (by omega)
              refine z_iload_n C dX7_watch_53 rfl 2 rfl ?_
              refine z_iload C dX7_watch_54 0 rfl ?_
              refine z_iadd C dX7_watch_56 ?_
              refine z_ti (y := nI (p + (min k (zKn n (ern 0 n (I 6) A hd) hr9)))) (nI_add p (min k (zKn n (ern 0 n (I 6) A hd) hr9))) ?_
              refine z_iconst C (v := 1) dX7_watch_57 (by decide) ?_
              refine z_isub C dX7_watch_58 ?_
              refine z_ti (y := nI ((p + (min k (zKn n (ern 0 n (I 6) A hd) hr9))) - 1)) (pk_sub (b := 1) (by omega)) ?_
              refine z_iload C dX7_watch_59 0 rfl ?_
              refine z_idiv C dX7_watch_61 (fun q => absurd ((nI_0eq (by omega)).mp q) (by omega)) ?_
              refine z_ti (y := nI ((p + min k (zKn n (ern 0 n (I 6) A hd) hr9) - 1) / min k (zKn n (ern 0 n (I 6) A hd) hr9))) (pk_div (by omega) (by omega) (by omega)) ?_
              refine z_istore C hm (lv' := [(5, .int (nI ((p + min k (zKn n (ern 0 n (I 6) A hd) hr9) - 1) / min k (zKn n (ern 0 n (I 6) A hd) hr9)))), (4, .int (nI (min k (zKn n (ern 0 n (I 6) A hd) hr9)))), (0, .ref (zad w 0)), (1, .int (nI p)), (2, .int (nI hr9)), (3, .int (nI k))]) dX7_watch_62 (by decide) rfl ?_
              refine z_iload C dX7_watch_64 0 rfl ?_
              refine z_sipush C (v := 999) dX7_watch_66 (by decide) ?_
              refine z_icmp_ge_n ((p + min k (zKn n (ern 0 n (I 6) A hd) hr9) - 1) / min k (zKn n (ern 0 n (I 6) A hd) hr9)) 999 (tgt := 79) C rfl rfl (by omega) (by omega) dX7_watch_69 (by decide) (fun c69 => ?_) (fun c69 => ?_)
              · skip
                refine z_bipush C (v := -5) dX7_watch_79 (by decide) ?_
                refine z_iret C hr rfl dX7_watch_81 ?_
                refine ⟨_, rfl, ?_⟩
                exact ⟨by rw [cif_t ⟨⟨p, hp, rfl⟩, ⟨hr9, hhr9, rfl⟩, ⟨k, hk, rfl⟩⟩, zn_n (by omega), zn_n (by omega), zn_n (by omega), zWt, if_neg hp0, if_neg (by omega), if_neg (by omega)], rfl, hf_3⟩
              · skip
                refine z_iload C dX7_watch_72 0 rfl ?_
                refine z_iconst C (v := 1) dX7_watch_74 (by decide) ?_
                refine z_iadd C dX7_watch_75 ?_
                refine z_ti (y := nI (((p + min k (zKn n (ern 0 n (I 6) A hd) hr9) - 1) / min k (zKn n (ern 0 n (I 6) A hd) hr9)) + 1)) (nI_add ((p + min k (zKn n (ern 0 n (I 6) A hd) hr9) - 1) / min k (zKn n (ern 0 n (I 6) A hd) hr9)) 1) ?_
                refine z_goto (tgt := 81) C dX7_watch_76 (by decide) ?_
                refine z_iret C hr rfl dX7_watch_81 ?_
                refine ⟨_, rfl, ?_⟩
                exact ⟨by rw [cif_t ⟨⟨p, hp, rfl⟩, ⟨hr9, hhr9, rfl⟩, ⟨k, hk, rfl⟩⟩, zn_n (by omega), zn_n (by omega), zn_n (by omega), zWt, if_neg hp0, if_neg (by omega), if_pos (by omega)], rfl, hf_3⟩
            · skip
              refine z_bipush C (v := -5) dX7_watch_50 (by decide) ?_
              refine z_iret C hr rfl dX7_watch_52 ?_
              refine ⟨_, rfl, ?_⟩
              exact ⟨by rw [cif_t ⟨⟨p, hp, rfl⟩, ⟨hr9, hhr9, rfl⟩, ⟨k, hk, rfl⟩⟩, zn_n (by omega), zn_n (by omega), zn_n (by omega), zWt, if_neg hp0, if_pos (by omega)], rfl, hf_3⟩
          · skip
            have hp0 : p = 0 := (nI_0eq (by omega)).mp c28
            refine z_iconst C (v := 1) dX7_watch_31 (by decide) ?_
            refine z_iret C hr rfl dX7_watch_32 ?_
            refine ⟨_, rfl, ?_⟩
            exact ⟨by rw [cif_t ⟨⟨p, hp, rfl⟩, ⟨hr9, hhr9, rfl⟩, ⟨k, hk, rfl⟩⟩, zn_n (by omega), zn_n (by omega), zn_n (by omega), zWt, if_pos hp0], rfl, frS_id⟩
        · skip
          refine z_bipush C (v := -2) dX7_watch_24 (by decide) ?_
          refine z_iret C hr rfl dX7_watch_26 ?_
          refine ⟨_, rfl, ?_⟩
          exact ⟨by rw [cif_f (fun q => zin_gt (m := 8) (Int32.not_le.mp c21) (by decide) q.2.2)], rfl, frS_id⟩
abbrev rm_X7_ask : Room := { frames := 10, cells := 0, slots := 0, locals := 348 }
set_option maxRecDepth 100000 in
set_option maxHeartbeats 4000000 in
theorem k_X7_ask (w : zW) (I : zI) (J : zJ) (n : Nat) (h : Nat) (A : List zCla) (hd : Nat → Option Nat) (y : Int32) (hN : I 0 1 = nI n) (hn : n ≤ 8) (hh : h < 7) (hH : I 5 2 = nI h) (hL : cLaw I h A) (hd7 : ∀ a, a < n → I 7 a = oI (hd a)) (hd99 : ∀ a k, hd a = some k → k ≤ 99) : zMet yX7_ask cX7_ask 8 (some .int) rm_X7_ask w [.ref (zad w 0), .int y] I J (zpi (fun v I' J' => J' = J ∧ frS I' I ∧ ((n = 0 ∧ v = -1) ∨ (n ≠ 0 ∧ ¬ zin y 100 ∧ v = -2) ∨ (n ≠ 0 ∧ ∃ hr9, hr9 < 100 ∧ y = nI hr9 ∧ ∃ fb, fb < n ∧ v = nI fb ∧ ∀ b, b < n → zLo n (fun m => ern m n (I 6) A hd) hr9 b ≤ zLo n (fun m => ern m n (I 6) A hd) hr9 fb ∧ (b < fb → zLo n (fun m => ern m n (I 6) A hd) hr9 b < zLo n (fun m => ern m n (I 6) A hd) hr9 fb))))) := by
  refine zMet_of (by decide) (Nat.le_of_ble_eq_true rfl) (fun X C hm hr => ?_)
  refine z_sub (lv' := [(0, .ref (zad w 0)), (1, .int y)]) [0, 1] rfl ?_
  have hp8 := p2_8 hn
  refine z_aload_n C dX7_ask_0 rfl 0 rfl ?_
  refine z_geti C ff_X7_73 0 (by decide) sh0 rfl (v := nI n) hN dX7_ask_1 ?_
  refine z_if_ne (tgt := 9) C dX7_ask_4 (by decide) (fun c4 => ?_) (fun c4 => ?_)
  · skip
    have hn0 : n ≠ 0 := fun q => c4 ((nI_0eq (by omega)).mpr q)
    refine z_iload_n C dX7_ask_9 rfl 1 rfl ?_
    refine z_callSi C hm cl_X7_84 cs_X7_isHour [.int y] rfl (rest := []) rfl (k_X7_isHour w _ _  y ) ⟨rfl, rfl, Nat.le_of_ble_eq_true rfl, Nat.le_of_ble_eq_true rfl⟩ (Nat.le_of_ble_eq_true rfl) dX7_ask_10 (fun v_1 I_1 J_1 h_1 => ?_)
    obtain ⟨ev_1, ei_1, ej_1⟩ := h_1
    replace ev_1 := ev_1.symm; subst ev_1
    replace ei_1 := ei_1.symm; subst ei_1
    replace ej_1 := ej_1.symm; subst ej_1
    refine z_ifne_b (tgt := 19) C dX7_ask_13 (by decide) (fun c13 => ?_) (fun c13 => ?_)
    · skip
      obtain ⟨hr9, hhr9, rfl⟩ := c13
      refine z_aload_n C dX7_ask_19 rfl 0 rfl ?_
      refine z_callVv C hm cl_X7_118 cv_X7_spreadAll 0 (by decide) sh0 ⟨_, _, rfl⟩ [] rfl (rest := []) rfl (k_X7_spreadAll w _ _ n h A hd  (by exact hN) hn hh (by exact hH) hL hd7 hd99) ⟨rfl, rfl, Nat.le_of_ble_eq_true rfl, Nat.le_of_ble_eq_true rfl⟩ (Nat.le_of_ble_eq_true rfl) dX7_ask_20 (fun I_2 J_2 h_2 => ?_)
      obtain ⟨eJ_2, H_2, Gr_2, R_2, Q_2, eI_2, hH_2, hG_2, hR_2⟩ := h_2
      replace eJ_2 := eJ_2.symm; subst eJ_2
      subst eI_2
      refine z_aload_n C dX7_ask_23 rfl 0 rfl ?_
      refine z_getr C ff_X7_31 0 (by decide) sh0 rfl dX7_ask_24 ?_
      refine z_iload_n C dX7_ask_27 rfl 1 rfl ?_
      refine z_callVi C hm cl_X7_242 cv_X3_knownByAll 23 (by decide) sh23 ⟨_, _, rfl⟩ [.int (nI hr9)] rfl (rest := []) rfl (k_X3_knownByAll w _ _ n (ern 0 n (I 6) A hd) hr9 hn rfl hR_2 (fun b _ => ern_le hd99 b) (by omega)) ⟨rfl, rfl, Nat.le_of_ble_eq_true rfl, Nat.le_of_ble_eq_true rfl⟩ (Nat.le_of_ble_eq_true rfl) dX7_ask_28 (fun v_3 I_3 J_3 h_3 => ?_)
      obtain ⟨ev_3, ei_3, ej_3⟩ := h_3
      replace ev_3 := ev_3.symm; subst ev_3
      replace ei_3 := ei_3.symm; subst ei_3
      replace ej_3 := ej_3.symm; subst ej_3
      refine z_istore_n C hm (lv' := [(2, .int (nI (zset (fun a => decide ((ern 0 n (I 6) A hd) a ≤ hr9)) n))), (0, .ref (zad w 0)), (1, .int (nI hr9))]) dX7_ask_31 rfl (by decide) rfl ?_
      refine z_iconst C (v := 0) dX7_ask_32 (by decide) ?_
      refine z_istore_n C hm (lv' := [(3, .int 0), (2, .int (nI (zset (fun a => decide ((ern 0 n (I 6) A hd) a ≤ hr9)) n))), (0, .ref (zad w 0)), (1, .int (nI hr9))]) dX7_ask_33 rfl (by decide) rfl ?_
      refine z_iconst C (v := -1) dX7_ask_34 (by decide) ?_
      refine z_istore C hm (lv' := [(4, .int (-1)), (3, .int 0), (2, .int (nI (zset (fun a => decide ((ern 0 n (I 6) A hd) a ≤ hr9)) n))), (0, .ref (zad w 0)), (1, .int (nI hr9))]) dX7_ask_35 (by decide) rfl ?_
      refine z_iconst C (v := 0) dX7_ask_37 (by decide) ?_
      refine z_istore C hm (lv' := [(5, .int 0), (4, .int (-1)), (3, .int 0), (2, .int (nI (zset (fun a => decide ((ern 0 n (I 6) A hd) a ≤ hr9)) n))), (0, .ref (zad w 0)), (1, .int (nI hr9))]) dX7_ask_38 (by decide) rfl ?_
      have L40 : ∀ (d : Nat) (a fb : Nat) (mo : Int32) (R Q : Nat → Int32) (v40_3 : Int32) (v40_4 : Int32) (v40_5 : Int32) (I40 : zI), (n - a) < d → (a ≤ n) → ((a = 0 ∧ mo = -1 ∧ fb = 0) ∨ (fb < a ∧ mo = nI (zLo n (fun m => ern m n (I 6) A hd) hr9 fb) ∧ ∀ b, b < a → zLo n (fun m => ern m n (I 6) A hd) hr9 b ≤ zLo n (fun m => ern m n (I 6) A hd) hr9 fb ∧ (b < fb → zLo n (fun m => ern m n (I 6) A hd) hr9 b < zLo n (fun m => ern m n (I 6) A hd) hr9 fb))) → v40_3 = nI fb → v40_4 = mo → v40_5 = nI a → I40 = zup (zup (zup (zup (zup I 23 (upd (upd (I 23) 6 (nI n)) 7 (nI (aSteps A)))) 25 H_2) 24 Gr_2) 26 R) 27 Q → Z X w I40 J 40 [(0, .ref (zad w 0)), (1, .int (nI hr9)), (2, .int (nI (zset (fun a => decide ((ern 0 n (I 6) A hd) a ≤ hr9)) n))), (3, .int v40_3), (4, .int v40_4), (5, .int v40_5)] [] := by
        intro d
        induction d with
        | zero => intro a fb mo R Q v40_3 v40_4 v40_5 I40 hd; exact absurd hd (Nat.not_lt_zero _)
        | succ d ih40 => 
          intro a fb mo R Q v40_3 v40_4 v40_5 I40 hd40 ha hi e_v40_3 e_v40_4 e_v40_5 e_I40
          replace e_v40_3 := e_v40_3.symm; subst e_v40_3
          replace e_v40_4 := e_v40_4.symm; subst e_v40_4
          replace e_v40_5 := e_v40_5.symm; subst e_v40_5
          replace e_I40 := e_I40.symm; subst e_I40
          refine z_iload C dX7_ask_40 5 rfl ?_
          refine z_aload_n C dX7_ask_42 rfl 0 rfl ?_
          refine z_geti C ff_X7_73 0 (by decide) sh0 rfl (v := nI n) (by first | exact hN | (simp [zup, zupJ, upd, vp_updL]; exact hN)) dX7_ask_43 ?_
          refine z_icmp_ge_n a n (tgt := 108) C rfl rfl (by omega) (by omega) dX7_ask_46 (by decide) (fun c46 => ?_) (fun c46 => ?_)
          · skip
            have han : a = n := by omega
            obtain ⟨hf1, _, hf3⟩ := hi.resolve_left (fun q => by omega)
            refine z_iload_n C dX7_ask_108 rfl 3 rfl ?_
            refine z_iret C hr rfl dX7_ask_109 ?_
            refine ⟨_, rfl, ?_⟩
            exact ⟨rfl, (by intro zk hzk; simp only [zup]; rw [if_neg (by omega), if_neg (by omega), if_neg (by omega), if_neg (by omega), if_neg (by omega)]), Or.inr (Or.inr ⟨hn0, hr9, hhr9, rfl, fb, by omega, rfl, by rw [han] at hf3; exact hf3⟩)⟩
          · skip
            have h2a : 2 ^ a < 2 ^ n := Nat.pow_lt_pow_right (by decide) (by omega)
            have hlo9 : zLo n (fun m => ern m n (I 6) A hd) hr9 a ≤ 9 := zpop_le _
            refine z_aload_n C dX7_ask_49 rfl 0 rfl ?_
            refine z_getr C ff_X7_31 0 (by decide) sh0 rfl dX7_ask_50 ?_
            refine z_iconst C (v := 1) dX7_ask_53 (by decide) ?_
            refine z_iload C dX7_ask_54 5 rfl ?_
            refine z_ishl C dX7_ask_56 ?_
            refine z_ti (y := nI (2 ^ a)) (shl1 (by omega)) ?_
            refine z_callVv C hm cl_X7_143 cv_X3_run 23 (by decide) sh23 ⟨_, _, rfl⟩ [.int (nI (2 ^ a))] rfl (rest := []) rfl (k_X3_run w _ _ n (aSteps A) (zGt (I 6) A) (zT0 hd) (2 ^ a) hn (by exact rfl) (by exact rfl) (aSteps_le A) (by omega) hH_2 (fun b _ => zT0_le hd99 b) hG_2 (fun a b _ _ => zGt_le hL.1 a b)) ⟨rfl, rfl, Nat.le_of_ble_eq_true rfl, Nat.le_of_ble_eq_true rfl⟩ (Nat.le_of_ble_eq_true rfl) dX7_ask_57 (fun I_4 J_4 h_4 => ?_)
            obtain ⟨eJ_4, R_4, Q_4, eI_4, hR_4⟩ := h_4
            replace eJ_4 := eJ_4.symm; subst eJ_4
            subst eI_4
            refine z_I (I' := zup (zup (zup (zup (zup I 23 (upd (upd (I 23) 6 (nI n)) 7 (nI (aSteps A)))) 25 H_2) 24 Gr_2) 26 R_4) 27 Q_4) (by funext zk; simp only [zup]; split <;> simp_all [zup]) ?_
            refine z_iload_n C dX7_ask_60 rfl 2 rfl ?_
            refine z_iconst C (v := 1) dX7_ask_61 (by decide) ?_
            refine z_iload C dX7_ask_62 5 rfl ?_
            refine z_ishl C dX7_ask_64 ?_
            refine z_ti (y := nI (2 ^ a)) (shl1 (by omega)) ?_
            refine z_iconst C (v := -1) dX7_ask_65 (by decide) ?_
            refine z_ixor C dX7_ask_66 ?_
            refine z_iand C dX7_ask_67 ?_
            refine z_ti (y := nI (zset (fun b => decide (ern 0 n (I 6) A hd b ≤ hr9) && !(decide (b < n) && decide (b = a))) n)) (by rw [← zset_one (a := a) (n := n) (by omega)]; exact zset_andn) ?_
            refine z_istore C hm (lv' := [(6, .int (nI (zset (fun b => decide (ern 0 n (I 6) A hd b ≤ hr9) && !(decide (b < n) && decide (b = a))) n))), (0, .ref (zad w 0)), (1, .int (nI hr9)), (2, .int (nI (zset (fun a => decide ((ern 0 n (I 6) A hd) a ≤ hr9)) n))), (3, .int (nI fb)), (4, .int mo), (5, .int (nI a))]) dX7_ask_68 (by decide) rfl ?_
            refine z_iload C dX7_ask_70 0 rfl ?_
            refine z_aload_n C dX7_ask_72 rfl 1 rfl ?_
            refine z_getr C ff_X7_31 0 (by decide) sh0 rfl dX7_ask_73 ?_
            refine z_iload_n C dX7_ask_76 rfl 2 rfl ?_
            refine z_callVi C hm cl_X7_242 cv_X3_knownByAll 23 (by decide) sh23 ⟨_, _, rfl⟩ [.int (nI hr9)] rfl (rest := [.int (nI (zset (fun b => decide (ern 0 n (I 6) A hd b ≤ hr9) && !(decide (b < n) && decide (b = a))) n))]) rfl (k_X3_knownByAll w _ _ n (ern (2 ^ a) n (I 6) A hd) hr9 hn (by exact rfl) hR_4 (fun b _ => ern_le hd99 b) (by omega)) ⟨rfl, rfl, Nat.le_of_ble_eq_true rfl, Nat.le_of_ble_eq_true rfl⟩ (Nat.le_of_ble_eq_true rfl) dX7_ask_77 (fun v_5 I_5 J_5 h_5 => ?_)
            obtain ⟨ev_5, ei_5, ej_5⟩ := h_5
            replace ev_5 := ev_5.symm; subst ev_5
            replace ei_5 := ei_5.symm; subst ei_5
            replace ej_5 := ej_5.symm; subst ej_5
            refine z_iconst C (v := -1) dX7_ask_80 (by decide) ?_
            refine z_ixor C dX7_ask_81 ?_
            refine z_iand C dX7_ask_82 ?_
            refine z_ti (y := nI (zset (fun b => (decide (ern 0 n (I 6) A hd b ≤ hr9) && !(decide (b < n) && decide (b = a))) && !(decide (b < n) && decide (ern (2 ^ a) n (I 6) A hd b ≤ hr9))) n)) zset_andn ?_
            refine z_callSi C hm cl_X7_138 cs_J6_bitCount_0f7a4 [.int (nI (zset (fun b => (decide (ern 0 n (I 6) A hd b ≤ hr9) && !(decide (b < n) && decide (b = a))) && !(decide (b < n) && decide (ern (2 ^ a) n (I 6) A hd b ≤ hr9))) n))] rfl (rest := []) rfl (k_J6_bitCount_0f7a4 w _ _  (nI (zset (fun b => (decide (ern 0 n (I 6) A hd b ≤ hr9) && !(decide (b < n) && decide (b = a))) && !(decide (b < n) && decide (ern (2 ^ a) n (I 6) A hd b ≤ hr9))) n)) ) ⟨rfl, rfl, Nat.le_of_ble_eq_true rfl, Nat.le_of_ble_eq_true rfl⟩ (Nat.le_of_ble_eq_true rfl) dX7_ask_83 (fun v_6 I_6 J_6 h_6 => ?_)
            obtain ⟨ev_6, ei_6, ej_6⟩ := h_6
            replace ev_6 := ev_6.symm; subst ev_6
            replace ei_6 := ei_6.symm; subst ei_6
            replace ej_6 := ej_6.symm; subst ej_6
            refine z_ti (y := nI (zLo n (fun m => ern m n (I 6) A hd) hr9 a)) (zbc_pop _ (Nat.lt_of_lt_of_le (zset_lt n) (by omega))) ?_
            refine z_istore C hm (lv' := [(7, .int (nI (zLo n (fun m => ern m n (I 6) A hd) hr9 a))), (6, .int (nI (zset (fun b => decide (ern 0 n (I 6) A hd b ≤ hr9) && !(decide (b < n) && decide (b = a))) n))), (0, .ref (zad w 0)), (1, .int (nI hr9)), (2, .int (nI (zset (fun a => decide ((ern 0 n (I 6) A hd) a ≤ hr9)) n))), (3, .int (nI fb)), (4, .int mo), (5, .int (nI a))]) dX7_ask_86 (by decide) rfl ?_
            refine z_iload C dX7_ask_88 0 rfl ?_
            refine z_iload C dX7_ask_90 6 rfl ?_
            refine z_icmp_le (tgt := 102) C dX7_ask_92 (by decide) (fun c92 => ?_) (fun c92 => ?_)
            · skip
              refine z_iinc C hm 7 (v := nI (a + 1)) (lv' := [(5, .int (nI (a + 1))), (7, .int (nI (zLo n (fun m => ern m n (I 6) A hd) hr9 a))), (6, .int (nI (zset (fun b => decide (ern 0 n (I 6) A hd b ≤ hr9) && !(decide (b < n) && decide (b = a))) n))), (0, .ref (zad w 0)), (1, .int (nI hr9)), (2, .int (nI (zset (fun a => decide ((ern 0 n (I 6) A hd) a ≤ hr9)) n))), (3, .int (nI fb)), (4, .int mo)]) dX7_ask_102 rfl (nI_add a 1) (by decide) rfl ?_
              refine z_goto (tgt := 40) C dX7_ask_105 (by decide) ?_
              exact z_sub [3, 4, 5, 6, 7, 0] rfl (ih40  (a + 1) fb mo R_4 Q_4 _ _ _ _ (by omega) (by omega) (Or.inr (by
                  rcases hi with ⟨q1, q2, q3⟩ | ⟨q1, q2, q3⟩
                  · exfalso; rw [q2] at c92; exact absurd (Int32.le_trans (nI_pos' (by omega)) c92) (by decide)
                  · refine ⟨by omega, q2, lt_s q3 ?_⟩
                    rw [q2] at c92
                    exact ⟨(nI_leI (by omega) (Nat.lt_of_le_of_lt (zpop_le _) (by decide))).mp c92, fun z => absurd z (by omega)⟩)) rfl rfl rfl (by funext zk; by_cases h26 : zk = 26 <;> by_cases h27 : zk = 27 <;> simp [zup, h26, h27]))
            · skip
              refine z_iload C dX7_ask_95 0 rfl ?_
              refine z_istore C hm (lv' := [(4, .int (nI (zLo n (fun m => ern m n (I 6) A hd) hr9 a))), (7, .int (nI (zLo n (fun m => ern m n (I 6) A hd) hr9 a))), (6, .int (nI (zset (fun b => decide (ern 0 n (I 6) A hd b ≤ hr9) && !(decide (b < n) && decide (b = a))) n))), (0, .ref (zad w 0)), (1, .int (nI hr9)), (2, .int (nI (zset (fun a => decide ((ern 0 n (I 6) A hd) a ≤ hr9)) n))), (3, .int (nI fb)), (5, .int (nI a))]) dX7_ask_97 (by decide) rfl ?_
              refine z_iload C dX7_ask_99 7 rfl ?_
              refine z_istore_n C hm (lv' := [(3, .int (nI a)), (4, .int (nI (zLo n (fun m => ern m n (I 6) A hd) hr9 a))), (7, .int (nI (zLo n (fun m => ern m n (I 6) A hd) hr9 a))), (6, .int (nI (zset (fun b => decide (ern 0 n (I 6) A hd b ≤ hr9) && !(decide (b < n) && decide (b = a))) n))), (0, .ref (zad w 0)), (1, .int (nI hr9)), (2, .int (nI (zset (fun a => decide ((ern 0 n (I 6) A hd) a ≤ hr9)) n))), (5, .int (nI a))]) dX7_ask_101 rfl (by decide) rfl ?_
              refine z_iinc C hm 7 (v := nI (a + 1)) (lv' := [(5, .int (nI (a + 1))), (3, .int (nI a)), (4, .int (nI (zLo n (fun m => ern m n (I 6) A hd) hr9 a))), (7, .int (nI (zLo n (fun m => ern m n (I 6) A hd) hr9 a))), (6, .int (nI (zset (fun b => decide (ern 0 n (I 6) A hd b ≤ hr9) && !(decide (b < n) && decide (b = a))) n))), (0, .ref (zad w 0)), (1, .int (nI hr9)), (2, .int (nI (zset (fun a => decide ((ern 0 n (I 6) A hd) a ≤ hr9)) n)))]) dX7_ask_102 rfl (nI_add a 1) (by decide) rfl ?_
              refine z_goto (tgt := 40) C dX7_ask_105 (by decide) ?_
              exact z_sub [5, 6, 7, 1, 2, 0] rfl (ih40  (a + 1) a (nI (zLo n (fun m => ern m n (I 6) A hd) hr9 a)) R_4 Q_4 _ _ _ _ (by omega) (by omega) (Or.inr ⟨by omega, rfl, fun b hb => by
                  by_cases q : b = a
                  · subst q; exact ⟨Nat.le_refl _, fun z => absurd z (Nat.lt_irrefl _)⟩
                  · rcases hi with ⟨q1, q2, q3⟩ | ⟨q1, q2, q3⟩
                    · omega
                    · rw [q2] at c92
                      have h1 := (q3 b (by omega)).1
                      have h2 : ¬ zLo n (fun m => ern m n (I 6) A hd) hr9 a ≤ zLo n (fun m => ern m n (I 6) A hd) hr9 fb := fun z => c92 ((nI_leI (Nat.lt_of_le_of_lt (zpop_le _) (by decide)) (Nat.lt_of_le_of_lt (zpop_le _) (by decide))).mpr z)
                      exact ⟨by omega, fun _ => by omega⟩⟩) rfl rfl rfl (by funext zk; by_cases h26 : zk = 26 <;> by_cases h27 : zk = 27 <;> simp [zup, h26, h27]))
      exact z_sub [4, 5, 3, 2, 1, 0] rfl (L40 _ 0 0 (-1) R_2 Q_2 _ _ _ _ (Nat.lt_succ_self _) (by omega) (Or.inl ⟨rfl, rfl, rfl⟩) rfl rfl rfl rfl)
    · skip
      refine z_bipush C (v := -2) dX7_ask_16 (by decide) ?_
      refine z_iret C hr rfl dX7_ask_18 ?_
      refine ⟨_, rfl, ?_⟩
      exact ⟨rfl, frS_id, Or.inr (Or.inl ⟨hn0, c13, rfl⟩)⟩
  · skip
    have hn0 : n = 0 := (nI_0eq (by omega)).mp c4
    refine z_iconst C (v := -1) dX7_ask_7 (by decide) ?_
    refine z_iret C hr rfl dX7_ask_8 ?_
    refine ⟨_, rfl, ?_⟩
    exact ⟨rfl, frS_id, Or.inl ⟨hn0, rfl⟩⟩
abbrev rm_X7_blank : Room := { frames := 5, cells := 0, slots := 0, locals := 220 }
set_option maxRecDepth 100000 in
set_option maxHeartbeats 4000000 in
theorem k_X7_blank (w : zW) (I : zI) (J : zJ) (bk : Nat) (x : Int32) (hK : I 5 10 = nI bk) (hbk : bk ≤ 6) : zMet yX7_blank cX7_blank 2 (some .int) rm_X7_blank w [.ref (zad w 0), .int x] I J (zpi (fun v I' J' => v = cif (x = -1) 0 (cif (zi1 x 12) (cif (bk < 6) (nI (bk + 1)) (-4)) (-2)) ∧ I' = cif (x = -1) (zup I 5 (upd (I 5) 10 0)) (cif (zi1 x 12 ∧ bk < 6) (zup (zup I 13 (upd (I 13) bk x)) 5 (upd (I 5) 10 (nI (bk + 1)))) I) ∧ J' = J)) := by
  refine zMet_of (by decide) (Nat.le_of_ble_eq_true rfl) (fun X C hm hr => ?_)
  refine z_sub (lv' := [(0, .ref (zad w 0)), (1, .int x)]) [0, 1] rfl ?_
  refine z_iload_n C dX7_blank_0 rfl 1 rfl ?_
  refine z_iconst C (v := -1) dX7_blank_1 (by decide) ?_
  refine z_icmp_ne (tgt := 15) C dX7_blank_2 (by decide) (fun c2 => ?_) (fun c2 => ?_)
  · skip
    refine z_iload_n C dX7_blank_15 rfl 1 rfl ?_
    refine z_callSi C hm cl_X7_69 cs_X7_isLetters [.int x] rfl (rest := []) rfl (k_X7_isLetters w _ _  x ) ⟨rfl, rfl, Nat.le_of_ble_eq_true rfl, Nat.le_of_ble_eq_true rfl⟩ (Nat.le_of_ble_eq_true rfl) dX7_blank_16 (fun v_1 I_1 J_1 h_1 => ?_)
    obtain ⟨ev_1, ei_1, ej_1⟩ := h_1
    replace ev_1 := ev_1.symm; subst ev_1
    replace ei_1 := ei_1.symm; subst ei_1
    replace ej_1 := ej_1.symm; subst ej_1
    refine z_ifne_b (tgt := 25) C dX7_blank_19 (by decide) (fun c19 => ?_) (fun c19 => ?_)
    · skip
      refine z_aload_n C dX7_blank_25 rfl 0 rfl ?_
      refine z_getr C ff_X7_62 0 (by decide) sh0 rfl dX7_blank_26 ?_
      refine z_geti C ff_X7_245 5 (by decide) sh5 rfl (v := nI bk) hK dX7_blank_29 ?_
      refine z_bipush C (v := 6) dX7_blank_32 (by decide) ?_
      refine z_icmp_lt_n bk 6 (tgt := 40) C rfl rfl (by omega) (by omega) dX7_blank_34 (by decide) (fun c34 => ?_) (fun c34 => ?_)
      · skip
        refine z_aload_n C dX7_blank_40 rfl 0 rfl ?_
        refine z_getr C ff_X7_62 0 (by decide) sh0 rfl dX7_blank_41 ?_
        refine z_getr C ff_X7_248 5 (by decide) sh5 rfl dX7_blank_44 ?_
        refine z_aload_n C dX7_blank_47 rfl 0 rfl ?_
        refine z_getr C ff_X7_62 0 (by decide) sh0 rfl dX7_blank_48 ?_
        refine z_geti C ff_X7_245 5 (by decide) sh5 rfl (v := nI bk) hK dX7_blank_51 ?_
        refine z_iload_n C dX7_blank_54 rfl 1 rfl ?_
        refine z_iast C 13 (by decide) sh13 bk (by omega) (by decide) rfl dX7_blank_55 ?_
        refine z_I (I' := zup I 13 (upd (I 13) bk x)) rfl ?_
        refine z_aload_n C dX7_blank_56 rfl 0 rfl ?_
        refine z_getr C ff_X7_62 0 (by decide) sh0 rfl dX7_blank_57 ?_
        refine z_dup C dX7_blank_60 rfl ?_
        refine z_geti C ff_X7_245 5 (by decide) sh5 rfl (v := nI bk) (by first | exact hK | (simp [zup, zupJ, upd, vp_updL]; exact hK)) dX7_blank_61 ?_
        refine z_iconst C (v := 1) dX7_blank_64 (by decide) ?_
        refine z_iadd C dX7_blank_65 ?_
        refine z_ti (y := nI (bk + 1)) (nI_add bk 1) ?_
        refine z_puti C ff_X7_245 5 (by decide) sh5 rfl rfl rfl dX7_blank_66 ?_
        refine z_I (I' := zup (zup I 13 (upd (I 13) bk x)) 5 (upd (I 5) 10 (nI (bk + 1)))) (by first | rfl | (rw [zup_n] <;> omega)) ?_
        refine z_aload_n C dX7_blank_69 rfl 0 rfl ?_
        refine z_getr C ff_X7_62 0 (by decide) sh0 rfl dX7_blank_70 ?_
        refine z_geti C ff_X7_245 5 (by decide) sh5 rfl (v := nI (bk + 1)) (by first | rfl | (simp [zup, zupJ, upd, vp_updL]; done)) dX7_blank_73 ?_
        refine z_iret C hr rfl dX7_blank_76 ?_
        refine ⟨_, rfl, ?_⟩
        exact ⟨by rw [cif_f c2, cif_t c19, cif_t c34], by rw [cif_f c2, cif_t ⟨c19, c34⟩], rfl⟩
      · skip
        refine z_bipush C (v := -4) dX7_blank_37 (by decide) ?_
        refine z_iret C hr rfl dX7_blank_39 ?_
        refine ⟨_, rfl, ?_⟩
        exact ⟨by rw [cif_f c2, cif_t c19, cif_f (by omega)], by rw [cif_f c2, cif_f (fun q => by omega)], rfl⟩
    · skip
      refine z_bipush C (v := -2) dX7_blank_22 (by decide) ?_
      refine z_iret C hr rfl dX7_blank_24 ?_
      refine ⟨_, rfl, ?_⟩
      exact ⟨by rw [cif_f c2, cif_f c19], by rw [cif_f c2, cif_f (fun q => c19 q.1)], rfl⟩
  · skip
    refine z_aload_n C dX7_blank_5 rfl 0 rfl ?_
    refine z_getr C ff_X7_62 0 (by decide) sh0 rfl dX7_blank_6 ?_
    refine z_iconst C (v := 0) dX7_blank_9 (by decide) ?_
    refine z_puti C ff_X7_245 5 (by decide) sh5 rfl rfl rfl dX7_blank_10 ?_
    refine z_I (I' := zup I 5 (upd (I 5) 10 0)) rfl ?_
    refine z_iconst C (v := 0) dX7_blank_13 (by decide) ?_
    refine z_iret C hr rfl dX7_blank_14 ?_
    refine ⟨_, rfl, ?_⟩
    exact ⟨by rw [cif_t c2], by rw [cif_t c2], rfl⟩
abbrev rm_X7_namesOfLetters : Room := { frames := 4, cells := 0, slots := 0, locals := 200 }
set_option maxRecDepth 100000 in
set_option maxHeartbeats 4000000 in
theorem k_X7_namesOfLetters (w : zW) (I : zI) (J : zJ) (n : Nat) (x : Int32) (hN : I 0 1 = nI n) (hn : n ≤ 8) : zMet yX7_namesOfLetters cX7_namesOfLetters 4 (some .int) rm_X7_namesOfLetters w [.ref (zad w 0), .int x] I J (zpi (fun v I' J' => v = nI (zNo (I 1) n x) ∧ I' = I ∧ J' = J)) := by
  refine zMet_of (by decide) (Nat.le_of_ble_eq_true rfl) (fun X C hm hr => ?_)
  refine z_sub (lv' := [(0, .ref (zad w 0)), (1, .int x)]) [0, 1] rfl ?_
  refine z_iconst C (v := 0) dX7_namesOfLetters_0 (by decide) ?_
  refine z_istore_n C hm (lv' := [(2, .int 0), (0, .ref (zad w 0)), (1, .int x)]) dX7_namesOfLetters_1 rfl (by decide) rfl ?_
  refine z_iconst C (v := 0) dX7_namesOfLetters_2 (by decide) ?_
  refine z_istore_n C hm (lv' := [(3, .int 0), (2, .int 0), (0, .ref (zad w 0)), (1, .int x)]) dX7_namesOfLetters_3 rfl (by decide) rfl ?_
  have L4 : ∀ (d : Nat) (a : Nat) (v4_2 : Int32) (v4_3 : Int32), (n - a) < d → (a ≤ n) → v4_2 = nI (zset (fun a => pB (I 1 a = x)) a) → v4_3 = nI a → Z X w I J 4 [(0, .ref (zad w 0)), (1, .int x), (2, .int v4_2), (3, .int v4_3)] [] := by
    intro d
    induction d with
    | zero => intro a v4_2 v4_3 hd; exact absurd hd (Nat.not_lt_zero _)
    | succ d ih4 => 
      intro a v4_2 v4_3 hd4 ha e_v4_2 e_v4_3
      replace e_v4_2 := e_v4_2.symm; subst e_v4_2
      replace e_v4_3 := e_v4_3.symm; subst e_v4_3
      refine z_iload_n C dX7_namesOfLetters_4 rfl 3 rfl ?_
      refine z_aload_n C dX7_namesOfLetters_5 rfl 0 rfl ?_
      refine z_geti C ff_X7_73 0 (by decide) sh0 rfl (v := nI n) hN dX7_namesOfLetters_6 ?_
      refine z_icmp_ge_n a n (tgt := 34) C rfl rfl (by omega) (by omega) dX7_namesOfLetters_9 (by decide) (fun c9 => ?_) (fun c9 => ?_)
      · skip
        have han : a = n := by omega
        refine z_iload_n C dX7_namesOfLetters_34 rfl 2 rfl ?_
        refine z_iret C hr rfl dX7_namesOfLetters_35 ?_
        refine ⟨_, rfl, ?_⟩
        exact ⟨by rw [han]; rfl, rfl, rfl⟩
      · skip
        refine z_aload_n C dX7_namesOfLetters_12 rfl 0 rfl ?_
        refine z_getr C ff_X7_11 0 (by decide) sh0 rfl dX7_namesOfLetters_13 ?_
        refine z_iload_n C dX7_namesOfLetters_16 rfl 3 rfl ?_
        refine z_iald C 1 (by decide) sh1 a (by omega) (by decide) rfl (v := I 1 a) rfl dX7_namesOfLetters_17 ?_
        refine z_iload_n C dX7_namesOfLetters_18 rfl 1 rfl ?_
        refine z_icmp_ne (tgt := 28) C dX7_namesOfLetters_19 (by decide) (fun c19 => ?_) (fun c19 => ?_)
        · skip
          refine z_iinc C hm 3 (v := nI (a + 1)) (lv' := [(3, .int (nI (a + 1))), (0, .ref (zad w 0)), (1, .int x), (2, .int (nI (zset (fun a => pB (I 1 a = x)) a)))]) dX7_namesOfLetters_28 rfl (nI_add a 1) (by decide) rfl ?_
          refine z_goto (tgt := 4) C dX7_namesOfLetters_31 (by decide) ?_
          exact z_sub [1, 2, 3, 0] rfl (ih4  (a + 1) _ _ (by omega) (by omega) (by rw [zset, if_neg (fun q => c19 (pB_i.mp q)), Nat.add_zero]) rfl)
        · skip
          refine z_iload_n C dX7_namesOfLetters_22 rfl 2 rfl ?_
          refine z_iconst C (v := 1) dX7_namesOfLetters_23 (by decide) ?_
          refine z_iload_n C dX7_namesOfLetters_24 rfl 3 rfl ?_
          refine z_ishl C dX7_namesOfLetters_25 ?_
          refine z_ior C dX7_namesOfLetters_26 ?_
          refine z_istore_n C hm (lv' := [(2, .int ((nI (zset (fun a => pB (I 1 a = x)) a)) ||| (1 <<< ((nI a) &&& 31)))), (0, .ref (zad w 0)), (1, .int x), (3, .int (nI a))]) dX7_namesOfLetters_27 rfl (by decide) rfl ?_
          refine z_iinc C hm 3 (v := nI (a + 1)) (lv' := [(3, .int (nI (a + 1))), (2, .int ((nI (zset (fun a => pB (I 1 a = x)) a)) ||| (1 <<< ((nI a) &&& 31)))), (0, .ref (zad w 0)), (1, .int x)]) dX7_namesOfLetters_28 rfl (nI_add a 1) (by decide) rfl ?_
          refine z_goto (tgt := 4) C dX7_namesOfLetters_31 (by decide) ?_
          exact z_sub [2, 3, 1, 0] rfl (ih4  (a + 1) _ _ (by omega) (by omega) (by rw [zset, if_pos (pB_t c19)]; exact or_bit (zset_lt a) (by omega)) rfl)
  exact z_sub [2, 3, 1, 0] rfl (L4 _ 0 _ _ (Nat.lt_succ_self _) (by omega) rfl rfl)
abbrev rm_X7_leastOf : Room := { frames := 4, cells := 0, slots := 0, locals := 200 }
set_option maxRecDepth 100000 in
set_option maxHeartbeats 4000000 in
theorem k_X7_leastOf (w : zW) (I : zI) (J : zJ) (n : Nat) (m : Nat) (hN : I 0 1 = nI n) (hn : n ≤ 8) (hm8 : m < 256) : zMet yX7_leastOf cX7_leastOf 3 (some .int) rm_X7_leastOf w [.ref (zad w 0), .int (nI m)] I J (zpi (fun v I' J' => ((∃ a, a < n ∧ zb m a = true ∧ v = nI a ∧ ∀ b, b < a → zb m b = false) ∨ ((∀ b, b < n → zb m b = false) ∧ v = -1)) ∧ I' = I ∧ J' = J)) := by
  refine zMet_of (by decide) (Nat.le_of_ble_eq_true rfl) (fun X C hm hr => ?_)
  refine z_sub (lv' := [(0, .ref (zad w 0)), (1, .int (nI m))]) [0, 1] rfl ?_
  refine z_iconst C (v := 0) dX7_leastOf_0 (by decide) ?_
  refine z_istore_n C hm (lv' := [(2, .int 0), (0, .ref (zad w 0)), (1, .int (nI m))]) dX7_leastOf_1 rfl (by decide) rfl ?_
  have L2 : ∀ (d : Nat) (a : Nat) (v2_2 : Int32), (n - a) < d → (a ≤ n) → (∀ b, b < a → zb m b = false) → v2_2 = nI a → Z X w I J 2 [(0, .ref (zad w 0)), (1, .int (nI m)), (2, .int v2_2)] [] := by
    intro d
    induction d with
    | zero => intro a v2_2 hd; exact absurd hd (Nat.not_lt_zero _)
    | succ d ih2 => 
      intro a v2_2 hd2 ha hno e_v2_2
      replace e_v2_2 := e_v2_2.symm; subst e_v2_2
      refine z_iload_n C dX7_leastOf_2 rfl 2 rfl ?_
      refine z_aload_n C dX7_leastOf_3 rfl 0 rfl ?_
      refine z_geti C ff_X7_73 0 (by decide) sh0 rfl (v := nI n) hN dX7_leastOf_4 ?_
      refine z_icmp_ge_n a n (tgt := 26) C rfl rfl (by omega) (by omega) dX7_leastOf_7 (by decide) (fun c7 => ?_) (fun c7 => ?_)
      · skip
        have han : a = n := by omega
        subst han
        refine z_iconst C (v := -1) dX7_leastOf_26 (by decide) ?_
        refine z_iret C hr rfl dX7_leastOf_27 ?_
        refine ⟨_, rfl, ?_⟩
        exact ⟨Or.inr ⟨hno, rfl⟩, rfl, rfl⟩
      · skip
        refine z_iload_n C dX7_leastOf_10 rfl 1 rfl ?_
        refine z_iload_n C dX7_leastOf_11 rfl 2 rfl ?_
        refine z_ishr C dX7_leastOf_12 ?_
        refine z_iconst C (v := 1) dX7_leastOf_13 (by decide) ?_
        refine z_iand C dX7_leastOf_14 ?_
        refine z_if_eq (tgt := 20) C dX7_leastOf_15 (by decide) (fun c15 => ?_) (fun c15 => ?_)
        · skip
          refine z_iinc C hm 2 (v := nI (a + 1)) (lv' := [(2, .int (nI (a + 1))), (0, .ref (zad w 0)), (1, .int (nI m))]) dX7_leastOf_20 rfl (nI_add a 1) (by decide) rfl ?_
          refine z_goto (tgt := 2) C dX7_leastOf_23 (by decide) ?_
          exact z_sub [1, 2, 0] rfl (ih2  (a + 1) _ (by omega) (by omega) (lt_s hno (zb_0 (by omega) (by omega) c15)) rfl)
        · skip
          refine z_iload_n C dX7_leastOf_18 rfl 2 rfl ?_
          refine z_iret C hr rfl dX7_leastOf_19 ?_
          refine ⟨_, rfl, ?_⟩
          exact ⟨Or.inl ⟨a, by omega, zb_1 (by omega) (by omega) c15, rfl, hno⟩, rfl, rfl⟩
  exact z_sub [1, 2, 0] rfl (L2 _ 0 _ (Nat.lt_succ_self _) (by omega) (fun _ h0 => absurd h0 (Nat.not_lt_zero _)) rfl)
abbrev rm_X7_waysToFill : Room := { frames := 5, cells := 0, slots := 0, locals := 223 }
set_option maxRecDepth 100000 in
set_option maxHeartbeats 4000000 in
theorem k_X7_waysToFill (w : zW) (I : zI) (J : zJ) (n bk : Nat)  (hN : I 0 1 = nI n) (hn : n ≤ 8) (hK : I 5 10 = nI bk) (hbk : bk ≤ 6) : zMet yX7_waysToFill cX7_waysToFill 5 (some .int) rm_X7_waysToFill w [.ref (zad w 0)] I J (zpi (fun v I' J' => v = nI (zWf (zNo (I 1) n) (I 13) bk) ∧ I' = I ∧ J' = J)) := by
  refine zMet_of (by decide) (Nat.le_of_ble_eq_true rfl) (fun X C hm hr => ?_)
  refine z_sub (lv' := [(0, .ref (zad w 0))]) [0] rfl ?_
  refine z_iconst C (v := 1) dX7_waysToFill_0 (by decide) ?_
  refine z_istore_n C hm (lv' := [(1, .int 1), (0, .ref (zad w 0))]) dX7_waysToFill_1 rfl (by decide) rfl ?_
  refine z_iconst C (v := 0) dX7_waysToFill_2 (by decide) ?_
  refine z_istore_n C hm (lv' := [(2, .int 0), (1, .int 1), (0, .ref (zad w 0))]) dX7_waysToFill_3 rfl (by decide) rfl ?_
  have L4 : ∀ (d : Nat) (i : Nat) (v4_1 : Int32) (v4_2 : Int32), (bk - i) < d → (i ≤ bk) → v4_1 = nI (zWf (zNo (I 1) n) (I 13) i) → v4_2 = nI i → Z X w I J 4 [(0, .ref (zad w 0)), (1, .int v4_1), (2, .int v4_2)] [] := by
    intro d
    induction d with
    | zero => intro i v4_1 v4_2 hd; exact absurd hd (Nat.not_lt_zero _)
    | succ d ih4 => 
      intro i v4_1 v4_2 hd4 hi e_v4_1 e_v4_2
      replace e_v4_1 := e_v4_1.symm; subst e_v4_1
      replace e_v4_2 := e_v4_2.symm; subst e_v4_2
      refine z_iload_n C dX7_waysToFill_4 rfl 2 rfl ?_
      refine z_aload_n C dX7_waysToFill_5 rfl 0 rfl ?_
      refine z_getr C ff_X7_62 0 (by decide) sh0 rfl dX7_waysToFill_6 ?_
      refine z_geti C ff_X7_245 5 (by decide) sh5 rfl (v := nI bk) hK dX7_waysToFill_9 ?_
      refine z_icmp_ge_n i bk (tgt := 86) C rfl rfl (by omega) (by omega) dX7_waysToFill_12 (by decide) (fun c12 => ?_) (fun c12 => ?_)
      · skip
        have hie : i = bk := by omega
        refine z_iload_n C dX7_waysToFill_86 rfl 1 rfl ?_
        refine z_iret C hr rfl dX7_waysToFill_87 ?_
        refine ⟨_, rfl, ?_⟩
        exact ⟨by rw [hie], rfl, rfl⟩
      · skip
        have hw9 := zWf_le (N := (zNo (I 1) n)) (f := I 13) i
        have h9i : 9 ^ i ≤ 9 ^ 6 := Nat.pow_le_pow_right (by decide) (by omega)
        have hzn := zNo_lt (l := I 1) (n := n) (x := I 13 i)
        have hp8 := p2_8 hn
        have hzp := zpop_le (zNo (I 1) n (I 13 i))
        refine z_aload_n C dX7_waysToFill_15 rfl 0 rfl ?_
        refine z_aload_n C dX7_waysToFill_16 rfl 0 rfl ?_
        refine z_getr C ff_X7_62 0 (by decide) sh0 rfl dX7_waysToFill_17 ?_
        refine z_getr C ff_X7_248 5 (by decide) sh5 rfl dX7_waysToFill_20 ?_
        refine z_iload_n C dX7_waysToFill_23 rfl 2 rfl ?_
        refine z_iald C 13 (by decide) sh13 i (by omega) (by decide) rfl (v := I 13 i) rfl dX7_waysToFill_24 ?_
        refine z_callVi C hm cl_X7_257 cv_X7_namesOfLetters 0 (by decide) sh0 ⟨_, _, rfl⟩ [.int (I 13 i)] rfl (rest := []) rfl (k_X7_namesOfLetters w _ _ n (I 13 i) hN hn) ⟨rfl, rfl, Nat.le_of_ble_eq_true rfl, Nat.le_of_ble_eq_true rfl⟩ (Nat.le_of_ble_eq_true rfl) dX7_waysToFill_25 (fun v_1 I_1 J_1 h_1 => ?_)
        obtain ⟨ev_1, ei_1, ej_1⟩ := h_1
        replace ev_1 := ev_1.symm; subst ev_1
        replace ei_1 := ei_1.symm; subst ei_1
        replace ej_1 := ej_1.symm; subst ej_1
        refine z_callSi C hm cl_X7_138 cs_J6_bitCount_0f7a4 [.int (nI (zNo (I 1) n (I 13 i)))] rfl (rest := []) rfl (k_J6_bitCount_0f7a4 w _ _  (nI (zNo (I 1) n (I 13 i))) ) ⟨rfl, rfl, Nat.le_of_ble_eq_true rfl, Nat.le_of_ble_eq_true rfl⟩ (Nat.le_of_ble_eq_true rfl) dX7_waysToFill_28 (fun v_2 I_2 J_2 h_2 => ?_)
        obtain ⟨ev_2, ei_2, ej_2⟩ := h_2
        replace ev_2 := ev_2.symm; subst ev_2
        replace ei_2 := ei_2.symm; subst ei_2
        replace ej_2 := ej_2.symm; subst ej_2
        refine z_ti (y := nI (zpop (zNo (I 1) n (I 13 i)))) (zbc_pop _ (by omega)) ?_
        refine z_istore_n C hm (lv' := [(3, .int (nI (zpop (zNo (I 1) n (I 13 i))))), (0, .ref (zad w 0)), (1, .int (nI (zWf (zNo (I 1) n) (I 13) i))), (2, .int (nI i))]) dX7_waysToFill_31 rfl (by decide) rfl ?_
        refine z_iconst C (v := 0) dX7_waysToFill_32 (by decide) ?_
        refine z_istore C hm (lv' := [(4, .int 0), (3, .int (nI (zpop (zNo (I 1) n (I 13 i))))), (0, .ref (zad w 0)), (1, .int (nI (zWf (zNo (I 1) n) (I 13) i))), (2, .int (nI i))]) dX7_waysToFill_33 (by decide) rfl ?_
        have L35 : ∀ (d : Nat) (b : Nat) (v35_3 : Int32) (v35_4 : Int32), (i - b) < d → (b ≤ i) → v35_3 = nI (zpop (zNo (I 1) n (I 13 i))) - nI (zCe (I 13) i b) → v35_4 = nI b → Z X w I J 35 [(0, .ref (zad w 0)), (1, .int (nI (zWf (zNo (I 1) n) (I 13) i))), (2, .int (nI i)), (3, .int v35_3), (4, .int v35_4)] [] := by
          intro d
          induction d with
          | zero => intro b v35_3 v35_4 hd; exact absurd hd (Nat.not_lt_zero _)
          | succ d ih35 => 
            intro b v35_3 v35_4 hd35 hb e_v35_3 e_v35_4
            replace e_v35_3 := e_v35_3.symm; subst e_v35_3
            replace e_v35_4 := e_v35_4.symm; subst e_v35_4
            refine z_iload C dX7_waysToFill_35 4 rfl ?_
            refine z_iload_n C dX7_waysToFill_37 rfl 2 rfl ?_
            refine z_icmp_ge_n b i (tgt := 72) C rfl rfl (by omega) (by omega) dX7_waysToFill_38 (by decide) (fun c38 => ?_) (fun c38 => ?_)
            · skip
              have hbi : b = i := by omega
              have hce := zCe_le (f := I 13) (i := i) b
              refine z_iload_n C dX7_waysToFill_72 rfl 1 rfl ?_
              refine z_iload_n C dX7_waysToFill_73 rfl 3 rfl ?_
              refine z_iconst C (v := 0) dX7_waysToFill_74 (by decide) ?_
              refine z_max C hm ml_X7_263 st_max in_math co_max (Nat.le_of_ble_eq_true rfl) (Nat.le_of_ble_eq_true rfl) dX7_waysToFill_75 ?_
              refine z_ti (y := nI (zpop (zNo (I 1) n (I 13 i)) - zCe (I 13) i b)) (max_d (by omega) (by omega)) ?_
              refine z_imul C dX7_waysToFill_78 ?_
              refine z_ti (y := nI ((zWf (zNo (I 1) n) (I 13) i) * (zpop (zNo (I 1) n (I 13 i)) - zCe (I 13) i b))) (pk_mul (zWf (zNo (I 1) n) (I 13) i) (zpop (zNo (I 1) n (I 13 i)) - zCe (I 13) i b)) ?_
              refine z_istore_n C hm (lv' := [(1, .int (nI ((zWf (zNo (I 1) n) (I 13) i) * (zpop (zNo (I 1) n (I 13 i)) - zCe (I 13) i b)))), (0, .ref (zad w 0)), (2, .int (nI i)), (3, .int (nI (zpop (zNo (I 1) n (I 13 i))) - nI (zCe (I 13) i b))), (4, .int (nI b))]) dX7_waysToFill_79 rfl (by decide) rfl ?_
              refine z_iinc C hm 2 (v := nI (i + 1)) (lv' := [(2, .int (nI (i + 1))), (1, .int (nI ((zWf (zNo (I 1) n) (I 13) i) * (zpop (zNo (I 1) n (I 13 i)) - zCe (I 13) i b)))), (0, .ref (zad w 0)), (3, .int (nI (zpop (zNo (I 1) n (I 13 i))) - nI (zCe (I 13) i b))), (4, .int (nI b))]) dX7_waysToFill_80 rfl (nI_add i 1) (by decide) rfl ?_
              refine z_goto (tgt := 4) C dX7_waysToFill_83 (by decide) ?_
              exact z_sub [2, 1, 0] rfl (ih4  (i + 1) _ _ (by omega) (by omega) (by rw [hbi, zWf]) rfl)
            · skip
              refine z_aload_n C dX7_waysToFill_41 rfl 0 rfl ?_
              refine z_getr C ff_X7_62 0 (by decide) sh0 rfl dX7_waysToFill_42 ?_
              refine z_getr C ff_X7_248 5 (by decide) sh5 rfl dX7_waysToFill_45 ?_
              refine z_iload C dX7_waysToFill_48 4 rfl ?_
              refine z_iald C 13 (by decide) sh13 b (by omega) (by decide) rfl (v := I 13 b) rfl dX7_waysToFill_50 ?_
              refine z_aload_n C dX7_waysToFill_51 rfl 0 rfl ?_
              refine z_getr C ff_X7_62 0 (by decide) sh0 rfl dX7_waysToFill_52 ?_
              refine z_getr C ff_X7_248 5 (by decide) sh5 rfl dX7_waysToFill_55 ?_
              refine z_iload_n C dX7_waysToFill_58 rfl 2 rfl ?_
              refine z_iald C 13 (by decide) sh13 i (by omega) (by decide) rfl (v := I 13 i) rfl dX7_waysToFill_59 ?_
              refine z_icmp_ne (tgt := 66) C dX7_waysToFill_60 (by decide) (fun c60 => ?_) (fun c60 => ?_)
              · skip
                refine z_iinc C hm 4 (v := nI (b + 1)) (lv' := [(4, .int (nI (b + 1))), (0, .ref (zad w 0)), (1, .int (nI (zWf (zNo (I 1) n) (I 13) i))), (2, .int (nI i)), (3, .int (nI (zpop (zNo (I 1) n (I 13 i))) - nI (zCe (I 13) i b)))]) dX7_waysToFill_66 rfl (nI_add b 1) (by decide) rfl ?_
                refine z_goto (tgt := 35) C dX7_waysToFill_69 (by decide) ?_
                exact z_sub [1, 2, 3, 4, 0] rfl (ih35  (b + 1) _ _ (by omega) (by omega) (by rw [zCe, cif_f c60, Nat.add_zero]) rfl)
              · skip
                refine z_iinc C hm 3 (v := (nI (zpop (zNo (I 1) n (I 13 i))) - nI (zCe (I 13) i b)) + Int32.ofInt (-1)) (lv' := [(3, .int ((nI (zpop (zNo (I 1) n (I 13 i))) - nI (zCe (I 13) i b)) + Int32.ofInt (-1))), (0, .ref (zad w 0)), (1, .int (nI (zWf (zNo (I 1) n) (I 13) i))), (2, .int (nI i)), (4, .int (nI b))]) dX7_waysToFill_63 rfl rfl (by decide) rfl ?_
                refine z_iinc C hm 4 (v := nI (b + 1)) (lv' := [(4, .int (nI (b + 1))), (3, .int ((nI (zpop (zNo (I 1) n (I 13 i))) - nI (zCe (I 13) i b)) + Int32.ofInt (-1))), (0, .ref (zad w 0)), (1, .int (nI (zWf (zNo (I 1) n) (I 13) i))), (2, .int (nI i))]) dX7_waysToFill_66 rfl (nI_add b 1) (by decide) rfl ?_
                refine z_goto (tgt := 35) C dX7_waysToFill_69 (by decide) ?_
                exact z_sub [2, 3, 4, 1, 0] rfl (ih35  (b + 1) _ _ (by omega) (by omega) (by rw [zCe, cif_t c60]; exact dec1 _ _) rfl)
        exact z_sub [2, 3, 4, 1, 0] rfl (L35 _ 0 _ _ (Nat.lt_succ_self _) (by omega) (Int32.sub_zero _).symm rfl)
  exact z_sub [2, 1, 0] rfl (L4 _ 0 _ _ (Nat.lt_succ_self _) (by omega) rfl rfl)
abbrev rm_X7_fills : Room := { frames := 6, cells := 0, slots := 0, locals := 247 }
set_option maxRecDepth 100000 in
set_option maxHeartbeats 4000000 in
theorem k_X7_fills (w : zW) (I : zI) (J : zJ) (n bk : Nat) (x : Int32) (hN : I 0 1 = nI n) (hn : n ≤ 8) (hK : I 5 10 = nI bk) (hbk : bk ≤ 6) : zMet yX7_fills cX7_fills 2 (some .int) rm_X7_fills w [.ref (zad w 0), .int x] I J (zpi (fun v I' J' => v = cif (x = -1) (nI (zWf (zNo (I 1) n) (I 13) bk)) (cif (zin x bk) (nI (zNo (I 1) n (I 13 (zn x)))) (-1)) ∧ I' = I ∧ J' = J)) := by
  refine zMet_of (by decide) (Nat.le_of_ble_eq_true rfl) (fun X C hm hr => ?_)
  refine z_sub (lv' := [(0, .ref (zad w 0)), (1, .int x)]) [0, 1] rfl ?_
  refine z_iload_n C dX7_fills_0 rfl 1 rfl ?_
  refine z_iconst C (v := -1) dX7_fills_1 (by decide) ?_
  refine z_icmp_ne (tgt := 10) C dX7_fills_2 (by decide) (fun c2 => ?_) (fun c2 => ?_)
  · skip
    refine z_aload_n C dX7_fills_10 rfl 0 rfl ?_
    refine z_iload_n C dX7_fills_11 rfl 1 rfl ?_
    refine z_callVi C hm cl_X7_254 cv_X7_isBlank 0 (by decide) sh0 ⟨_, _, rfl⟩ [.int x] rfl (rest := []) rfl (k_X7_isBlank w _ _ bk x hK hbk) ⟨rfl, rfl, Nat.le_of_ble_eq_true rfl, Nat.le_of_ble_eq_true rfl⟩ (Nat.le_of_ble_eq_true rfl) dX7_fills_12 (fun v_1 I_1 J_1 h_1 => ?_)
    obtain ⟨ev_1, ei_1, ej_1⟩ := h_1
    replace ev_1 := ev_1.symm; subst ev_1
    replace ei_1 := ei_1.symm; subst ei_1
    replace ej_1 := ej_1.symm; subst ej_1
    refine z_ifeq_b (tgt := 34) C dX7_fills_15 (by decide) (fun c15 => ?_) (fun c15 => ?_)
    · skip
      refine z_iconst C (v := -1) dX7_fills_34 (by decide) ?_
      refine z_iret C hr rfl dX7_fills_35 ?_
      refine ⟨_, rfl, ?_⟩
      exact ⟨by rw [cif_f c2, cif_f c15], rfl, rfl⟩
    · skip
      obtain ⟨i, hi, rfl⟩ := c15
      refine z_aload_n C dX7_fills_18 rfl 0 rfl ?_
      refine z_aload_n C dX7_fills_19 rfl 0 rfl ?_
      refine z_getr C ff_X7_62 0 (by decide) sh0 rfl dX7_fills_20 ?_
      refine z_getr C ff_X7_248 5 (by decide) sh5 rfl dX7_fills_23 ?_
      refine z_iload_n C dX7_fills_26 rfl 1 rfl ?_
      refine z_iald C 13 (by decide) sh13 i (by omega) (by decide) rfl (v := I 13 i) rfl dX7_fills_27 ?_
      refine z_callVi C hm cl_X7_257 cv_X7_namesOfLetters 0 (by decide) sh0 ⟨_, _, rfl⟩ [.int (I 13 i)] rfl (rest := []) rfl (k_X7_namesOfLetters w _ _ n (I 13 i) hN hn) ⟨rfl, rfl, Nat.le_of_ble_eq_true rfl, Nat.le_of_ble_eq_true rfl⟩ (Nat.le_of_ble_eq_true rfl) dX7_fills_28 (fun v_2 I_2 J_2 h_2 => ?_)
      obtain ⟨ev_2, ei_2, ej_2⟩ := h_2
      replace ev_2 := ev_2.symm; subst ev_2
      replace ei_2 := ei_2.symm; subst ei_2
      replace ej_2 := ej_2.symm; subst ej_2
      refine z_goto (tgt := 35) C dX7_fills_31 (by decide) ?_
      refine z_iret C hr rfl dX7_fills_35 ?_
      refine ⟨_, rfl, ?_⟩
      exact ⟨by rw [cif_f c2, cif_t ⟨i, hi, rfl⟩, zn_n (by omega)], rfl, rfl⟩
  · skip
    refine z_aload_n C dX7_fills_5 rfl 0 rfl ?_
    refine z_callVi C hm cl_X7_251 cv_X7_waysToFill 0 (by decide) sh0 ⟨_, _, rfl⟩ [] rfl (rest := []) rfl (k_X7_waysToFill w _ _ n bk  hN hn hK hbk) ⟨rfl, rfl, Nat.le_of_ble_eq_true rfl, Nat.le_of_ble_eq_true rfl⟩ (Nat.le_of_ble_eq_true rfl) dX7_fills_6 (fun v_3 I_3 J_3 h_3 => ?_)
    obtain ⟨ev_3, ei_3, ej_3⟩ := h_3
    replace ev_3 := ev_3.symm; subst ev_3
    replace ei_3 := ei_3.symm; subst ei_3
    replace ej_3 := ej_3.symm; subst ej_3
    refine z_iret C hr rfl dX7_fills_9 ?_
    refine ⟨_, rfl, ?_⟩
    exact ⟨by rw [cif_t c2], rfl, rfl⟩
abbrev rm_X7_filled : Room := { frames := 6, cells := 0, slots := 0, locals := 247 }
set_option maxRecDepth 100000 in
set_option maxHeartbeats 4000000 in
theorem k_X7_filled (w : zW) (I : zI) (J : zJ) (n bk : Nat) (x : Int32) (hN : I 0 1 = nI n) (hn : n ≤ 8) (hK : I 5 10 = nI bk) (hbk : bk ≤ 6) : zMet yX7_filled cX7_filled 3 (some .int) rm_X7_filled w [.ref (zad w 0), .int x] I J (zpi (fun v I' J' => ((¬ zin x bk ∧ v = -1) ∨ ∃ i, i < bk ∧ x = nI i ∧ ((¬ (zpop (zNo (I 1) n (I 13 i)) = 1 ∧ zWf (zNo (I 1) n) (I 13) bk ≠ 0) ∧ v = -5) ∨ ((zpop (zNo (I 1) n (I 13 i)) = 1 ∧ zWf (zNo (I 1) n) (I 13) bk ≠ 0) ∧ ((∃ a, a < n ∧ zb (zNo (I 1) n (I 13 i)) a = true ∧ v = nI a ∧ ∀ b, b < a → zb (zNo (I 1) n (I 13 i)) b = false) ∨ ((∀ b, b < n → zb (zNo (I 1) n (I 13 i)) b = false) ∧ v = -1))))) ∧ I' = I ∧ J' = J)) := by
  refine zMet_of (by decide) (Nat.le_of_ble_eq_true rfl) (fun X C hm hr => ?_)
  refine z_sub (lv' := [(0, .ref (zad w 0)), (1, .int x)]) [0, 1] rfl ?_
  refine z_aload_n C dX7_filled_0 rfl 0 rfl ?_
  refine z_iload_n C dX7_filled_1 rfl 1 rfl ?_
  refine z_callVi C hm cl_X7_254 cv_X7_isBlank 0 (by decide) sh0 ⟨_, _, rfl⟩ [.int x] rfl (rest := []) rfl (k_X7_isBlank w _ _ bk x hK hbk) ⟨rfl, rfl, Nat.le_of_ble_eq_true rfl, Nat.le_of_ble_eq_true rfl⟩ (Nat.le_of_ble_eq_true rfl) dX7_filled_2 (fun v_1 I_1 J_1 h_1 => ?_)
  obtain ⟨ev_1, ei_1, ej_1⟩ := h_1
  replace ev_1 := ev_1.symm; subst ev_1
  replace ei_1 := ei_1.symm; subst ei_1
  replace ej_1 := ej_1.symm; subst ej_1
  refine z_ifne_b (tgt := 10) C dX7_filled_5 (by decide) (fun c5 => ?_) (fun c5 => ?_)
  · skip
    obtain ⟨i, hi, rfl⟩ := c5
    have hzn := zNo_lt (l := I 1) (n := n) (x := I 13 i)
    have hp8 := p2_8 hn
    have hzp := zpop_le (zNo (I 1) n (I 13 i))
    have hw9 := zWf_le (N := (zNo (I 1) n)) (f := I 13) bk
    have h9i : 9 ^ bk ≤ 9 ^ 6 := Nat.pow_le_pow_right (by decide) hbk
    refine z_aload_n C dX7_filled_10 rfl 0 rfl ?_
    refine z_aload_n C dX7_filled_11 rfl 0 rfl ?_
    refine z_getr C ff_X7_62 0 (by decide) sh0 rfl dX7_filled_12 ?_
    refine z_getr C ff_X7_248 5 (by decide) sh5 rfl dX7_filled_15 ?_
    refine z_iload_n C dX7_filled_18 rfl 1 rfl ?_
    refine z_iald C 13 (by decide) sh13 i (by omega) (by decide) rfl (v := I 13 i) rfl dX7_filled_19 ?_
    refine z_callVi C hm cl_X7_257 cv_X7_namesOfLetters 0 (by decide) sh0 ⟨_, _, rfl⟩ [.int (I 13 i)] rfl (rest := []) rfl (k_X7_namesOfLetters w _ _ n (I 13 i) hN hn) ⟨rfl, rfl, Nat.le_of_ble_eq_true rfl, Nat.le_of_ble_eq_true rfl⟩ (Nat.le_of_ble_eq_true rfl) dX7_filled_20 (fun v_2 I_2 J_2 h_2 => ?_)
    obtain ⟨ev_2, ei_2, ej_2⟩ := h_2
    replace ev_2 := ev_2.symm; subst ev_2
    replace ei_2 := ei_2.symm; subst ei_2
    replace ej_2 := ej_2.symm; subst ej_2
    refine z_istore_n C hm (lv' := [(2, .int (nI (zNo (I 1) n (I 13 i)))), (0, .ref (zad w 0)), (1, .int (nI i))]) dX7_filled_23 rfl (by decide) rfl ?_
    refine z_iload_n C dX7_filled_24 rfl 0 rfl ?_
    refine z_callSi C hm cl_X7_138 cs_J6_bitCount_0f7a4 [.int (nI (zNo (I 1) n (I 13 i)))] rfl (rest := []) rfl (k_J6_bitCount_0f7a4 w _ _  (nI (zNo (I 1) n (I 13 i))) ) ⟨rfl, rfl, Nat.le_of_ble_eq_true rfl, Nat.le_of_ble_eq_true rfl⟩ (Nat.le_of_ble_eq_true rfl) dX7_filled_25 (fun v_3 I_3 J_3 h_3 => ?_)
    obtain ⟨ev_3, ei_3, ej_3⟩ := h_3
    replace ev_3 := ev_3.symm; subst ev_3
    replace ei_3 := ei_3.symm; subst ei_3
    replace ej_3 := ej_3.symm; subst ej_3
    refine z_ti (y := nI (zpop (zNo (I 1) n (I 13 i)))) (zbc_pop _ (by omega)) ?_
    refine z_iconst C (v := 1) dX7_filled_28 (by decide) ?_
    refine z_icmp_ne_n (zpop (zNo (I 1) n (I 13 i))) 1 (tgt := 39) C rfl rfl (by omega) (by omega) dX7_filled_29 (by decide) (fun c29 => ?_) (fun c29 => ?_)
    · skip
      refine z_bipush C (v := -5) dX7_filled_39 (by decide) ?_
      refine z_iret C hr rfl dX7_filled_41 ?_
      refine ⟨_, rfl, ?_⟩
      exact ⟨Or.inr ⟨i, hi, rfl, Or.inl ⟨fun q => c29 q.1, rfl⟩⟩, rfl, rfl⟩
    · skip
      refine z_aload_n C dX7_filled_32 rfl 1 rfl ?_
      refine z_callVi C hm cl_X7_251 cv_X7_waysToFill 0 (by decide) sh0 ⟨_, _, rfl⟩ [] rfl (rest := []) rfl (k_X7_waysToFill w _ _ n bk  hN hn hK hbk) ⟨rfl, rfl, Nat.le_of_ble_eq_true rfl, Nat.le_of_ble_eq_true rfl⟩ (Nat.le_of_ble_eq_true rfl) dX7_filled_33 (fun v_4 I_4 J_4 h_4 => ?_)
      obtain ⟨ev_4, ei_4, ej_4⟩ := h_4
      replace ev_4 := ev_4.symm; subst ev_4
      replace ei_4 := ei_4.symm; subst ei_4
      replace ej_4 := ej_4.symm; subst ej_4
      refine z_if_ne (tgt := 42) C dX7_filled_36 (by decide) (fun c36 => ?_) (fun c36 => ?_)
      · skip
        refine z_aload_n C dX7_filled_42 rfl 1 rfl ?_
        refine z_iload_n C dX7_filled_43 rfl 0 rfl ?_
        refine z_callVi C hm cl_X7_260 cv_X7_leastOf 0 (by decide) sh0 ⟨_, _, rfl⟩ [.int (nI (zNo (I 1) n (I 13 i)))] rfl (rest := []) rfl (k_X7_leastOf w _ _ n (zNo (I 1) n (I 13 i)) hN hn (by omega)) ⟨rfl, rfl, Nat.le_of_ble_eq_true rfl, Nat.le_of_ble_eq_true rfl⟩ (Nat.le_of_ble_eq_true rfl) dX7_filled_44 (fun v_5 I_5 J_5 h_5 => ?_)
        obtain ⟨hv_5, eI_5, eJ_5⟩ := h_5
        replace eI_5 := eI_5.symm; subst eI_5
        replace eJ_5 := eJ_5.symm; subst eJ_5
        refine z_iret C hr rfl dX7_filled_47 ?_
        refine ⟨_, rfl, ?_⟩
        exact ⟨Or.inr ⟨i, hi, rfl, Or.inr ⟨⟨c29, fun q => c36 ((nI_0eq (by omega)).mpr q)⟩, hv_5⟩⟩, rfl, rfl⟩
      · skip
        refine z_bipush C (v := -5) dX7_filled_39 (by decide) ?_
        refine z_iret C hr rfl dX7_filled_41 ?_
        refine ⟨_, rfl, ?_⟩
        exact ⟨Or.inr ⟨i, hi, rfl, Or.inl ⟨fun q => q.2 ((nI_0eq (by omega)).mp c36), rfl⟩⟩, rfl, rfl⟩
  · skip
    refine z_iconst C (v := -1) dX7_filled_8 (by decide) ?_
    refine z_iret C hr rfl dX7_filled_9 ?_
    refine ⟨_, rfl, ?_⟩
    exact ⟨Or.inl ⟨c5, rfl⟩, rfl, rfl⟩
