/-! pure words -/
/-- a number told as one of the first n -/
def zin (x : Int32) (n : Nat) : Prop := ∃ k : Nat, k < n ∧ x = nI k
theorem zin_neg {x : Int32} {n : Nat} (h : x < 0) (hn : n < 2 ^ 31) : ¬ zin x n := fun ⟨k, h1, h2⟩ => nI_pos (show k < 2 ^ 31 by omega) (h2 ▸ h)
theorem zin_ge {x : Int32} {n : Nat} (h : nI n ≤ x) (hn : n < 2 ^ 31) : ¬ zin x n := fun ⟨k, h1, h2⟩ => nI_ge h1 hn (h2 ▸ h)
theorem zin_of {x : Int32} {n : Nat} (h : ¬ x < 0) (h2 : ¬ nI n ≤ x) (hn : n < 2 ^ 31) : zin x n := by
  rcases pk_ix x hn with q | q | q
  · exact absurd q h
  · exact absurd q h2
  · exact q
theorem zin_gt {x : Int32} {m : Nat} (h : nI m < x) (hn : m < 2 ^ 31) : ¬ zin x (m + 1) := fun ⟨k, h1, h2⟩ => nI_nlt (show k ≤ m by omega) (by omega) (h2 ▸ h)
theorem zin_le {x : Int32} {m : Nat} (h : ¬ x < 0) (h2 : ¬ nI m < x) (hn : m < 2 ^ 31) : zin x (m + 1) := by
  obtain ⟨j, h3, h4⟩ := nI_of h
  subst h4
  refine ⟨j, ?_, rfl⟩
  have : ¬ m < j := fun q => h2 ((nI_ltI hn h3).mpr q)
  omega
/-- between one and n -/
def zi1 (x : Int32) (n : Nat) : Prop := ∃ k : Nat, 1 ≤ k ∧ k ≤ n ∧ x = nI k
theorem zi1_lt {x : Int32} {n : Nat} (h : x < 1) (hn : n < 2 ^ 31) : ¬ zi1 x n := fun ⟨k, h1, h2, h3⟩ => nI_nlt h1 (show k < 2 ^ 31 by omega) (h3 ▸ h)
theorem zi1_gt {x : Int32} {n : Nat} (h : nI n < x) (hn : n < 2 ^ 31) : ¬ zi1 x n := fun ⟨k, h1, h2, h3⟩ => nI_nlt h2 hn (h3 ▸ h)
theorem zi1_of {x : Int32} {n : Nat} (h : ¬ x < 1) (h2 : ¬ nI n < x) (hn : n < 2 ^ 31) : zi1 x n := by
  have h0 : ¬ x < 0 := fun q => h (by rw [Int32.lt_iff_toInt_lt] at q ⊢; have e0 : (0 : Int32).toInt = 0 := by decide
                                      have e1 : (1 : Int32).toInt = 1 := by decide
                                      omega)
  obtain ⟨j, h3, h4⟩ := nI_of h0
  subst h4
  refine ⟨j, ?_, ?_, rfl⟩
  · exact Nat.not_lt.mp fun q => h ((nI_ltI (a := j) (b := 1) h3 (by decide)).mpr q)
  · exact Nat.not_lt.mp fun q => h2 ((nI_ltI hn h3).mpr q)
abbrev rm_X7_isName : Room := { frames := 4, cells := 0, slots := 0, locals := 200 }
set_option maxRecDepth 100000 in
set_option maxHeartbeats 4000000 in
theorem k_X7_isName (w : zW) (I : zI) (J : zJ) (n : Nat) (x : Int32) (hN : I 0 1 = nI n) (hn : n ≤ 8) : zMet yX7_isName cX7_isName 2 (some .boolean) rm_X7_isName w [.ref (zad w 0), .int x] I J (zpi (fun v I' J' => v = bI (zin x n) ∧ I' = I ∧ J' = J)) := by
  refine zMet_of (by decide) (Nat.le_of_ble_eq_true rfl) (fun X C hm hr => ?_)
  refine z_sub (lv' := [(0, .ref (zad w 0)), (1, .int x)]) [0, 1] rfl ?_
  refine z_iload_n C dX7_isName_0 rfl 1 rfl ?_
  refine z_if_lt (tgt := 16) C dX7_isName_1 (by decide) (fun c1 => ?_) (fun c1 => ?_)
  · skip
    refine z_iconst C (v := 0) dX7_isName_16 (by decide) ?_
    refine z_iret C hr (by decide) dX7_isName_17 ?_
    refine ⟨_, rfl, ?_⟩
    exact ⟨(bI_f (zin_neg c1 (by omega))).symm, rfl, rfl⟩
  · skip
    refine z_iload_n C dX7_isName_4 rfl 1 rfl ?_
    refine z_aload_n C dX7_isName_5 rfl 0 rfl ?_
    refine z_geti C ff_X7_73 0 (by decide) sh0 rfl (v := nI n) hN dX7_isName_6 ?_
    refine z_icmp_ge (tgt := 16) C dX7_isName_9 (by decide) (fun c9 => ?_) (fun c9 => ?_)
    · skip
      refine z_iconst C (v := 0) dX7_isName_16 (by decide) ?_
      refine z_iret C hr (by decide) dX7_isName_17 ?_
      refine ⟨_, rfl, ?_⟩
      exact ⟨(bI_f (zin_ge c9 (by omega))).symm, rfl, rfl⟩
    · skip
      refine z_iconst C (v := 1) dX7_isName_12 (by decide) ?_
      refine z_goto (tgt := 17) C dX7_isName_13 (by decide) ?_
      refine z_iret C hr (by decide) dX7_isName_17 ?_
      refine ⟨_, rfl, ?_⟩
      exact ⟨(bI_t (zin_of c1 c9 (by omega))).symm, rfl, rfl⟩
abbrev rm_X7_isTrade : Room := { frames := 4, cells := 0, slots := 0, locals := 200 }
set_option maxRecDepth 100000 in
set_option maxHeartbeats 4000000 in
theorem k_X7_isTrade (w : zW) (I : zI) (J : zJ) (tr : Nat) (x : Int32) (hT : I 5 8 = nI tr) (htr : tr ≤ 16) : zMet yX7_isTrade cX7_isTrade 2 (some .boolean) rm_X7_isTrade w [.ref (zad w 0), .int x] I J (zpi (fun v I' J' => v = bI (zin x tr) ∧ I' = I ∧ J' = J)) := by
  refine zMet_of (by decide) (Nat.le_of_ble_eq_true rfl) (fun X C hm hr => ?_)
  refine z_sub (lv' := [(0, .ref (zad w 0)), (1, .int x)]) [0, 1] rfl ?_
  refine z_iload_n C dX7_isTrade_0 rfl 1 rfl ?_
  refine z_if_lt (tgt := 19) C dX7_isTrade_1 (by decide) (fun c1 => ?_) (fun c1 => ?_)
  · skip
    refine z_iconst C (v := 0) dX7_isTrade_19 (by decide) ?_
    refine z_iret C hr (by decide) dX7_isTrade_20 ?_
    refine ⟨_, rfl, ?_⟩
    exact ⟨(bI_f (zin_neg c1 (by omega))).symm, rfl, rfl⟩
  · skip
    refine z_iload_n C dX7_isTrade_4 rfl 1 rfl ?_
    refine z_aload_n C dX7_isTrade_5 rfl 0 rfl ?_
    refine z_getr C ff_X7_62 0 (by decide) sh0 rfl dX7_isTrade_6 ?_
    refine z_geti C ff_X7_153 5 (by decide) sh5 rfl (v := nI tr) hT dX7_isTrade_9 ?_
    refine z_icmp_ge (tgt := 19) C dX7_isTrade_12 (by decide) (fun c12 => ?_) (fun c12 => ?_)
    · skip
      refine z_iconst C (v := 0) dX7_isTrade_19 (by decide) ?_
      refine z_iret C hr (by decide) dX7_isTrade_20 ?_
      refine ⟨_, rfl, ?_⟩
      exact ⟨(bI_f (zin_ge c12 (by omega))).symm, rfl, rfl⟩
    · skip
      refine z_iconst C (v := 1) dX7_isTrade_15 (by decide) ?_
      refine z_goto (tgt := 20) C dX7_isTrade_16 (by decide) ?_
      refine z_iret C hr (by decide) dX7_isTrade_20 ?_
      refine ⟨_, rfl, ?_⟩
      exact ⟨(bI_t (zin_of c1 c12 (by omega))).symm, rfl, rfl⟩
abbrev rm_X7_isBlank : Room := { frames := 4, cells := 0, slots := 0, locals := 200 }
set_option maxRecDepth 100000 in
set_option maxHeartbeats 4000000 in
theorem k_X7_isBlank (w : zW) (I : zI) (J : zJ) (bk : Nat) (x : Int32) (hB : I 5 10 = nI bk) (hbk : bk ≤ 6) : zMet yX7_isBlank cX7_isBlank 2 (some .boolean) rm_X7_isBlank w [.ref (zad w 0), .int x] I J (zpi (fun v I' J' => v = bI (zin x bk) ∧ I' = I ∧ J' = J)) := by
  refine zMet_of (by decide) (Nat.le_of_ble_eq_true rfl) (fun X C hm hr => ?_)
  refine z_sub (lv' := [(0, .ref (zad w 0)), (1, .int x)]) [0, 1] rfl ?_
  refine z_iload_n C dX7_isBlank_0 rfl 1 rfl ?_
  refine z_if_lt (tgt := 19) C dX7_isBlank_1 (by decide) (fun c1 => ?_) (fun c1 => ?_)
  · skip
    refine z_iconst C (v := 0) dX7_isBlank_19 (by decide) ?_
    refine z_iret C hr (by decide) dX7_isBlank_20 ?_
    refine ⟨_, rfl, ?_⟩
    exact ⟨(bI_f (zin_neg c1 (by omega))).symm, rfl, rfl⟩
  · skip
    refine z_iload_n C dX7_isBlank_4 rfl 1 rfl ?_
    refine z_aload_n C dX7_isBlank_5 rfl 0 rfl ?_
    refine z_getr C ff_X7_62 0 (by decide) sh0 rfl dX7_isBlank_6 ?_
    refine z_geti C ff_X7_245 5 (by decide) sh5 rfl (v := nI bk) hB dX7_isBlank_9 ?_
    refine z_icmp_ge (tgt := 19) C dX7_isBlank_12 (by decide) (fun c12 => ?_) (fun c12 => ?_)
    · skip
      refine z_iconst C (v := 0) dX7_isBlank_19 (by decide) ?_
      refine z_iret C hr (by decide) dX7_isBlank_20 ?_
      refine ⟨_, rfl, ?_⟩
      exact ⟨(bI_f (zin_ge c12 (by omega))).symm, rfl, rfl⟩
    · skip
      refine z_iconst C (v := 1) dX7_isBlank_15 (by decide) ?_
      refine z_goto (tgt := 20) C dX7_isBlank_16 (by decide) ?_
      refine z_iret C hr (by decide) dX7_isBlank_20 ?_
      refine ⟨_, rfl, ?_⟩
      exact ⟨(bI_t (zin_of c1 c12 (by omega))).symm, rfl, rfl⟩
abbrev rm_X7_isLetters : Room := { frames := 4, cells := 0, slots := 0, locals := 200 }
set_option maxRecDepth 100000 in
set_option maxHeartbeats 4000000 in
theorem k_X7_isLetters (w : zW) (I : zI) (J : zJ)  (x : Int32)  : zMet yX7_isLetters cX7_isLetters 1 (some .boolean) rm_X7_isLetters w [.int x] I J (zpi (fun v I' J' => v = bI (zi1 x 12) ∧ I' = I ∧ J' = J)) := by
  refine zMet_of (by decide) (Nat.le_of_ble_eq_true rfl) (fun X C hm hr => ?_)
  refine z_sub (lv' := [(0, .int x)]) [0] rfl ?_
  refine z_iload_n C dX7_isLetters_0 rfl 0 rfl ?_
  refine z_iconst C (v := 1) dX7_isLetters_1 (by decide) ?_
  refine z_icmp_lt (tgt := 15) C dX7_isLetters_2 (by decide) (fun c2 => ?_) (fun c2 => ?_)
  · skip
    refine z_iconst C (v := 0) dX7_isLetters_15 (by decide) ?_
    refine z_iret C hr (by decide) dX7_isLetters_16 ?_
    refine ⟨_, rfl, ?_⟩
    exact ⟨(bI_f (zi1_lt c2 (by decide))).symm, rfl, rfl⟩
  · skip
    refine z_iload_n C dX7_isLetters_5 rfl 0 rfl ?_
    refine z_bipush C (v := 12) dX7_isLetters_6 (by decide) ?_
    refine z_icmp_gt (tgt := 15) C dX7_isLetters_8 (by decide) (fun c8 => ?_) (fun c8 => ?_)
    · skip
      refine z_iconst C (v := 0) dX7_isLetters_15 (by decide) ?_
      refine z_iret C hr (by decide) dX7_isLetters_16 ?_
      refine ⟨_, rfl, ?_⟩
      exact ⟨(bI_f (zi1_gt (n := 12) c8 (by decide))).symm, rfl, rfl⟩
    · skip
      refine z_iconst C (v := 1) dX7_isLetters_11 (by decide) ?_
      refine z_goto (tgt := 16) C dX7_isLetters_12 (by decide) ?_
      refine z_iret C hr (by decide) dX7_isLetters_16 ?_
      refine ⟨_, rfl, ?_⟩
      exact ⟨(bI_t (zi1_of (n := 12) c2 c8 (by decide))).symm, rfl, rfl⟩
abbrev rm_X7_isHour : Room := { frames := 4, cells := 0, slots := 0, locals := 200 }
set_option maxRecDepth 100000 in
set_option maxHeartbeats 4000000 in
theorem k_X7_isHour (w : zW) (I : zI) (J : zJ)  (x : Int32)  : zMet yX7_isHour cX7_isHour 1 (some .boolean) rm_X7_isHour w [.int x] I J (zpi (fun v I' J' => v = bI (zin x 100) ∧ I' = I ∧ J' = J)) := by
  refine zMet_of (by decide) (Nat.le_of_ble_eq_true rfl) (fun X C hm hr => ?_)
  refine z_sub (lv' := [(0, .int x)]) [0] rfl ?_
  refine z_iload_n C dX7_isHour_0 rfl 0 rfl ?_
  refine z_if_lt (tgt := 14) C dX7_isHour_1 (by decide) (fun c1 => ?_) (fun c1 => ?_)
  · skip
    refine z_iconst C (v := 0) dX7_isHour_14 (by decide) ?_
    refine z_iret C hr (by decide) dX7_isHour_15 ?_
    refine ⟨_, rfl, ?_⟩
    exact ⟨(bI_f (zin_neg c1 (by decide))).symm, rfl, rfl⟩
  · skip
    refine z_iload_n C dX7_isHour_4 rfl 0 rfl ?_
    refine z_bipush C (v := 99) dX7_isHour_5 (by decide) ?_
    refine z_icmp_gt (tgt := 14) C dX7_isHour_7 (by decide) (fun c7 => ?_) (fun c7 => ?_)
    · skip
      refine z_iconst C (v := 0) dX7_isHour_14 (by decide) ?_
      refine z_iret C hr (by decide) dX7_isHour_15 ?_
      refine ⟨_, rfl, ?_⟩
      exact ⟨(bI_f (zin_gt (m := 99) c7 (by decide))).symm, rfl, rfl⟩
    · skip
      refine z_iconst C (v := 1) dX7_isHour_10 (by decide) ?_
      refine z_goto (tgt := 15) C dX7_isHour_11 (by decide) ?_
      refine z_iret C hr (by decide) dX7_isHour_15 ?_
      refine ⟨_, rfl, ?_⟩
      exact ⟨(bI_t (zin_le (m := 99) c1 c7 (by decide))).symm, rfl, rfl⟩
abbrev rm_X7_isFriday : Room := { frames := 4, cells := 0, slots := 0, locals := 200 }
set_option maxRecDepth 100000 in
set_option maxHeartbeats 4000000 in
theorem k_X7_isFriday (w : zW) (I : zI) (J : zJ)  (x : Int32)  : zMet yX7_isFriday cX7_isFriday 1 (some .boolean) rm_X7_isFriday w [.int x] I J (zpi (fun v I' J' => v = bI (zin x 9) ∧ I' = I ∧ J' = J)) := by
  refine zMet_of (by decide) (Nat.le_of_ble_eq_true rfl) (fun X C hm hr => ?_)
  refine z_sub (lv' := [(0, .int x)]) [0] rfl ?_
  refine z_iload_n C dX7_isFriday_0 rfl 0 rfl ?_
  refine z_if_lt (tgt := 14) C dX7_isFriday_1 (by decide) (fun c1 => ?_) (fun c1 => ?_)
  · skip
    refine z_iconst C (v := 0) dX7_isFriday_14 (by decide) ?_
    refine z_iret C hr (by decide) dX7_isFriday_15 ?_
    refine ⟨_, rfl, ?_⟩
    exact ⟨(bI_f (zin_neg c1 (by decide))).symm, rfl, rfl⟩
  · skip
    refine z_iload_n C dX7_isFriday_4 rfl 0 rfl ?_
    refine z_bipush C (v := 9) dX7_isFriday_5 (by decide) ?_
    refine z_icmp_ge (tgt := 14) C dX7_isFriday_7 (by decide) (fun c7 => ?_) (fun c7 => ?_)
    · skip
      refine z_iconst C (v := 0) dX7_isFriday_14 (by decide) ?_
      refine z_iret C hr (by decide) dX7_isFriday_15 ?_
      refine ⟨_, rfl, ?_⟩
      exact ⟨(bI_f (zin_ge (n := 9) c7 (by decide))).symm, rfl, rfl⟩
    · skip
      refine z_iconst C (v := 1) dX7_isFriday_10 (by decide) ?_
      refine z_goto (tgt := 15) C dX7_isFriday_11 (by decide) ?_
      refine z_iret C hr (by decide) dX7_isFriday_15 ?_
      refine ⟨_, rfl, ?_⟩
      exact ⟨(bI_t (zin_of (n := 9) c1 c7 (by decide))).symm, rfl, rfl⟩
abbrev rm_X7_isKind : Room := { frames := 4, cells := 0, slots := 0, locals := 200 }
set_option maxRecDepth 100000 in
set_option maxHeartbeats 4000000 in
theorem k_X7_isKind (w : zW) (I : zI) (J : zJ)  (x : Int32)  : zMet yX7_isKind cX7_isKind 1 (some .boolean) rm_X7_isKind w [.int x] I J (zpi (fun v I' J' => v = bI (zin x 7) ∧ I' = I ∧ J' = J)) := by
  refine zMet_of (by decide) (Nat.le_of_ble_eq_true rfl) (fun X C hm hr => ?_)
  refine z_sub (lv' := [(0, .int x)]) [0] rfl ?_
  refine z_iload_n C dX7_isKind_0 rfl 0 rfl ?_
  refine z_if_lt (tgt := 14) C dX7_isKind_1 (by decide) (fun c1 => ?_) (fun c1 => ?_)
  · skip
    refine z_iconst C (v := 0) dX7_isKind_14 (by decide) ?_
    refine z_iret C hr (by decide) dX7_isKind_15 ?_
    refine ⟨_, rfl, ?_⟩
    exact ⟨(bI_f (zin_neg c1 (by decide))).symm, rfl, rfl⟩
  · skip
    refine z_iload_n C dX7_isKind_4 rfl 0 rfl ?_
    refine z_bipush C (v := 7) dX7_isKind_5 (by decide) ?_
    refine z_icmp_ge (tgt := 14) C dX7_isKind_7 (by decide) (fun c7 => ?_) (fun c7 => ?_)
    · skip
      refine z_iconst C (v := 0) dX7_isKind_14 (by decide) ?_
      refine z_iret C hr (by decide) dX7_isKind_15 ?_
      refine ⟨_, rfl, ?_⟩
      exact ⟨(bI_f (zin_ge (n := 7) c7 (by decide))).symm, rfl, rfl⟩
    · skip
      refine z_iconst C (v := 1) dX7_isKind_10 (by decide) ?_
      refine z_goto (tgt := 15) C dX7_isKind_11 (by decide) ?_
      refine z_iret C hr (by decide) dX7_isKind_15 ?_
      refine ⟨_, rfl, ?_⟩
      exact ⟨(bI_t (zin_of (n := 7) c1 c7 (by decide))).symm, rfl, rfl⟩
abbrev rm_X7_isParted : Room := { frames := 4, cells := 0, slots := 0, locals := 200 }
set_option maxRecDepth 100000 in
set_option maxHeartbeats 4000000 in
theorem k_X7_isParted (w : zW) (I : zI) (J : zJ)  (x : Int32)  : zMet yX7_isParted cX7_isParted 1 (some .boolean) rm_X7_isParted w [.int x] I J (zpi (fun v I' J' => v = bI (zin x 1000) ∧ I' = I ∧ J' = J)) := by
  refine zMet_of (by decide) (Nat.le_of_ble_eq_true rfl) (fun X C hm hr => ?_)
  refine z_sub (lv' := [(0, .int x)]) [0] rfl ?_
  refine z_iload_n C dX7_isParted_0 rfl 0 rfl ?_
  refine z_if_lt (tgt := 15) C dX7_isParted_1 (by decide) (fun c1 => ?_) (fun c1 => ?_)
  · skip
    refine z_iconst C (v := 0) dX7_isParted_15 (by decide) ?_
    refine z_iret C hr (by decide) dX7_isParted_16 ?_
    refine ⟨_, rfl, ?_⟩
    exact ⟨(bI_f (zin_neg c1 (by decide))).symm, rfl, rfl⟩
  · skip
    refine z_iload_n C dX7_isParted_4 rfl 0 rfl ?_
    refine z_sipush C (v := 999) dX7_isParted_5 (by decide) ?_
    refine z_icmp_gt (tgt := 15) C dX7_isParted_8 (by decide) (fun c8 => ?_) (fun c8 => ?_)
    · skip
      refine z_iconst C (v := 0) dX7_isParted_15 (by decide) ?_
      refine z_iret C hr (by decide) dX7_isParted_16 ?_
      refine ⟨_, rfl, ?_⟩
      exact ⟨(bI_f (zin_gt (m := 999) c8 (by decide))).symm, rfl, rfl⟩
    · skip
      refine z_iconst C (v := 1) dX7_isParted_11 (by decide) ?_
      refine z_goto (tgt := 16) C dX7_isParted_12 (by decide) ?_
      refine z_iret C hr (by decide) dX7_isParted_16 ?_
      refine ⟨_, rfl, ?_⟩
      exact ⟨(bI_t (zin_le (m := 999) c1 c8 (by decide))).symm, rfl, rfl⟩
