/-! the reference: acts -/
def mPut (b : Int32) (s : zTr) : zTr := (s.1 + 1, aPut s.2 s.1 b)
def mPB (i x : Int32) (s : zTr) : Int32 × zTr := (x + i, mPut 10 s)
def mBu (k : Nat) (i n x : Int32) (s : zTr) : Int32 × zTr := if k = 2 then mPB i (x * 3) (mPut 30 s) else if k = 4 then (-(mPB i x (mPut 50 s)).1, (mPB i x (mPut 50 s)).2) else if k = 6 then ((mPB i x (mPut 71 s)).1 ^^^ n, (mPB i x (mPut 71 s)).2) else mPB i x s
def mPK (k : Nat) (i n x : Int32) (s : zTr) : Int32 × zTr := ((mBu k i n x (mPut 11 s)).1 - n, (mBu k i n x (mPut 11 s)).2)
def mUK (k : Nat) (i n x : Int32) (s : zTr) : Int32 × zTr := ((mPK k i n x (mPut 20 s)).1 ^^^ 6, (mPK k i n x (mPut 20 s)).2)
def mKA (k : Nat) (i n x : Int32) (s : zTr) : Int32 × zTr := if k = 1 then mUK k i n x s else if k = 4 then mUK k i n (x + 1) (mPut 51 s) else if k = 6 then ((mPK k i n x (mPut 70 s)).1 + (mPB i 2 (mPK k i n x (mPut 70 s)).2).1, (mPB i 2 (mPK k i n x (mPut 70 s)).2).2) else mPK k i n x s
def mPT (k : Nat) (i n x : Int32) (s : zTr) : Int32 × zTr := ((mKA k i n x (mPut 12 s)).1 * 2, (mKA k i n x (mPut 12 s)).2)
def mKT (k : Nat) (i n x : Int32) (s : zTr) : Int32 × zTr := ((mPT k i n x (mPut 40 s)).1 + (mKA k i n 1 (mPT k i n x (mPut 40 s)).2).1, (mKA k i n 1 (mPT k i n x (mPut 40 s)).2).2)
def mTe (k : Nat) (i n x : Int32) (s : zTr) : Int32 × zTr := if k = 3 ∨ k = 6 then mKT k i n x s else if k = 5 then mKT k i n (x - i) (mPut 60 s) else mPT k i n x s
theorem mPB_c {i x : Int32} {s : zTr} : (mPB i x s).2.1 = s.1 + 1 := rfl
theorem mBu_c {k : Nat} {i n x : Int32} {s : zTr} : (mBu k i n x s).2.1 ≤ s.1 + 2 := by
  unfold mBu; split
  · exact Nat.le_refl _
  · split
    · exact Nat.le_refl _
    · split
      · exact Nat.le_refl _
      · exact Nat.le_succ _
theorem mPK_c {k : Nat} {i n x : Int32} {s : zTr} : (mPK k i n x s).2.1 ≤ s.1 + 3 := mBu_c
theorem mUK_c {k : Nat} {i n x : Int32} {s : zTr} : (mUK k i n x s).2.1 ≤ s.1 + 4 := mPK_c
theorem mKA_c {k : Nat} {i n x : Int32} {s : zTr} : (mKA k i n x s).2.1 ≤ s.1 + 5 := by
  unfold mKA; split
  · exact Nat.le_trans mUK_c (Nat.le_succ _)
  · split
    · exact mUK_c
    · split
      · exact Nat.succ_le_succ mPK_c
      · exact Nat.le_trans mPK_c (Nat.le_add_right _ 2)
theorem mPT_c {k : Nat} {i n x : Int32} {s : zTr} : (mPT k i n x s).2.1 ≤ s.1 + 6 := mKA_c
theorem mKT_c {k : Nat} {i n x : Int32} {s : zTr} : (mKT k i n x s).2.1 ≤ s.1 + 12 := by
  have h1 := mPT_c (k := k) (i := i) (n := n) (x := x) (s := mPut 40 s)
  have h2 := mKA_c (k := k) (i := i) (n := n) (x := 1) (s := (mPT k i n x (mPut 40 s)).2)
  have h3 : (mPut 40 s).1 = s.1 + 1 := rfl
  show (mKA k i n 1 (mPT k i n x (mPut 40 s)).2).2.1 ≤ _
  omega
/-- the component's bodies are the reference's methods -/
theorem act_0 {i n x : Int32} {s : zTr} : ∀ k, k < 7 → aPerf k i n 9 k 0 x s = mBu k i n x s
  | 0, _ => rfl
  | 1, _ => rfl
  | 2, _ => rfl
  | 3, _ => rfl
  | 4, _ => rfl
  | 5, _ => rfl
  | 6, _ => rfl
theorem act_1 {i n x : Int32} {s : zTr} : ∀ k, k < 7 → aPerf k i n 9 k 1 x s = mKA k i n x s
  | 0, _ => rfl
  | 1, _ => rfl
  | 2, _ => rfl
  | 3, _ => rfl
  | 4, _ => rfl
  | 5, _ => rfl
  | 6, _ => rfl
theorem act_2 {i n x : Int32} {s : zTr} : ∀ k, k < 7 → aPerf k i n 9 k 2 x s = mTe k i n x s
  | 0, _ => rfl
  | 1, _ => rfl
  | 2, _ => rfl
  | 3, _ => rfl
  | 4, _ => rfl
  | 5, _ => rfl
  | 6, _ => rfl
abbrev rm_X8_plainBuys : Room := { frames := 5, cells := 0, slots := 0, locals := 221 }
set_option maxRecDepth 100000 in
set_option maxHeartbeats 4000000 in
theorem k_X8_plainBuys (w : zW) (I : zI) (J : zJ) (k : Nat) (l : Int32) (bg : Nat) (t : Nat) (x : Int32) (hk7 : k < 7) (ht16 : t < 16) (hkk : I 100 t = nI k) (hll : I 104 t = l) (hbg : I 82 52 = nI bg) (hb1 : bg ≤ 9990) : zMet yX8_plainBuys cX8_plainBuys 3 (some .int) rm_X8_plainBuys w [.ref (zad w 82), .int (nI t), .int x] I J (zpi (fun v I' J' => v = (mPB (nI t) x (bg, I 118)).1 ∧ I' = zup (zup I 118 (mPB (nI t) x (bg, I 118)).2.2) 82 (upd (I 82) 52 (nI (mPB (nI t) x (bg, I 118)).2.1)) ∧ J' = J)) := by
  refine zMet_of (by decide) (Nat.le_of_ble_eq_true rfl) (fun X C hm hr => ?_)
  refine z_sub (lv' := [(0, .ref (zad w 82)), (1, .int (nI t)), (2, .int x)]) [0, 1, 2] rfl ?_
  refine z_aload_n C dX8_plainBuys_0 rfl 0 rfl ?_
  refine z_bipush C (v := 10) dX8_plainBuys_1 (by decide) ?_
  refine z_callVv C hm cl_X8_340 cv_X8_body 82 (by decide) sh82 ⟨_, _, rfl⟩ [.int 10] rfl (rest := []) rfl (k_X8_body w _ _ bg (10) (by first | exact hbg | rfl) (by omega)) ⟨rfl, rfl, Nat.le_of_ble_eq_true rfl, Nat.le_of_ble_eq_true rfl⟩ (Nat.le_of_ble_eq_true rfl) dX8_plainBuys_3 (fun I_1 J_1 h_1 => ?_)
  obtain ⟨ei_1, ej_1⟩ := h_1
  replace ei_1 := ei_1.symm; subst ei_1
  replace ej_1 := ej_1.symm; subst ej_1
  refine z_I (I' := zup (zup I 118 (mPut 10 (bg, I 118)).2) 82 (upd (I 82) 52 (nI (mPut 10 (bg, I 118)).1))) (by funext zk; by_cases h1 : zk = 82 <;> by_cases h2 : zk = 118 <;> simp [zup, h1, h2, upd_2, mPut]) ?_
  have hb_1 : (mPut 10 (bg, I 118)).1 = bg + 1 := rfl
  refine z_iload_n C dX8_plainBuys_6 rfl 2 rfl ?_
  refine z_iload_n C dX8_plainBuys_7 rfl 1 rfl ?_
  refine z_iadd C dX8_plainBuys_8 ?_
  refine z_iret C hr rfl dX8_plainBuys_9 ?_
  refine ⟨_, rfl, ?_⟩
  exact ⟨rfl, rfl, rfl⟩
abbrev rm_X8_buys : Room := { frames := 6, cells := 0, slots := 0, locals := 243 }
set_option maxRecDepth 100000 in
set_option maxHeartbeats 4000000 in
theorem k_X8_buys (w : zW) (I : zI) (J : zJ) (k : Nat) (l : Int32) (bg : Nat) (t : Nat) (x : Int32) (hk7 : k < 7) (ht16 : t < 16) (hkk : I 100 t = nI k) (hll : I 104 t = l) (hbg : I 82 52 = nI bg) (hb1 : bg ≤ 9980) : zMet yX8_buys cX8_buys 3 (some .int) rm_X8_buys w [.ref (zad w 82), .int (nI t), .int x] I J (zpi (fun v I' J' => v = (mBu k (nI t) l x (bg, I 118)).1 ∧ I' = zup (zup I 118 (mBu k (nI t) l x (bg, I 118)).2.2) 82 (upd (I 82) 52 (nI (mBu k (nI t) l x (bg, I 118)).2.1)) ∧ J' = J)) := by
  refine zMet_of (by decide) (Nat.le_of_ble_eq_true rfl) (fun X C hm hr => ?_)
  refine z_sub (lv' := [(0, .ref (zad w 82)), (1, .int (nI t)), (2, .int x)]) [0, 1, 2] rfl ?_
  refine z_aload_n C dX8_buys_0 rfl 0 rfl ?_
  refine z_getr C ff_X8_96 82 (by decide) sh82 rfl dX8_buys_1 ?_
  refine z_iload_n C dX8_buys_4 rfl 1 rfl ?_
  refine z_iald C 100 (by decide) sh100 t (by omega) (by decide) rfl (v := nI k) hkk dX8_buys_5 ?_
  by_cases c6_2 : nI k = 2
  · skip
    refine z_tableIn (tgt := 40) C dX8_buys_6 (by rw [c6_2]; decide) (by rw [c6_2]; decide) (off := 34) (by rw [c6_2]; decide) (by decide) ?_
    refine z_aload_n C dX8_buys_40 rfl 0 rfl ?_
    refine z_bipush C (v := 30) dX8_buys_41 (by decide) ?_
    refine z_callVv C hm cl_X8_340 cv_X8_body 82 (by decide) sh82 ⟨_, _, rfl⟩ [.int 30] rfl (rest := []) rfl (k_X8_body w _ _ bg (30) (by first | exact hbg | rfl) (by omega)) ⟨rfl, rfl, Nat.le_of_ble_eq_true rfl, Nat.le_of_ble_eq_true rfl⟩ (Nat.le_of_ble_eq_true rfl) dX8_buys_43 (fun I_1 J_1 h_1 => ?_)
    obtain ⟨ei_1, ej_1⟩ := h_1
    replace ei_1 := ei_1.symm; subst ei_1
    replace ej_1 := ej_1.symm; subst ej_1
    refine z_I (I' := zup (zup I 118 (mPut 30 (bg, I 118)).2) 82 (upd (I 82) 52 (nI (mPut 30 (bg, I 118)).1))) (by funext zk; by_cases h1 : zk = 82 <;> by_cases h2 : zk = 118 <;> simp [zup, h1, h2, upd_2, mPut]) ?_
    have hb_1 : (mPut 30 (bg, I 118)).1 = bg + 1 := rfl
    refine z_aload_n C dX8_buys_46 rfl 0 rfl ?_
    refine z_iload_n C dX8_buys_47 rfl 1 rfl ?_
    refine z_iload_n C dX8_buys_48 rfl 2 rfl ?_
    refine z_iconst C (v := 3) dX8_buys_49 (by decide) ?_
    refine z_imul C dX8_buys_50 ?_
    refine z_callVi C hm cl_X8_343 cv_X8_plainBuys 82 (by decide) sh82 ⟨_, _, rfl⟩ [.int (nI t), .int (x * 3)] rfl (rest := []) rfl (k_X8_plainBuys w _ _ k l ((mPut 30 (bg, I 118)).1) t (x * 3) hk7 ht16 (by exact hkk) (by exact hll) (by first | exact hbg | rfl) (by omega)) ⟨rfl, rfl, Nat.le_of_ble_eq_true rfl, Nat.le_of_ble_eq_true rfl⟩ (Nat.le_of_ble_eq_true rfl) dX8_buys_51 (fun v_2 I_2 J_2 h_2 => ?_)
    obtain ⟨ev_2, ei_2, ej_2⟩ := h_2
    replace ev_2 := ev_2.symm; subst ev_2
    replace ei_2 := ei_2.symm; subst ei_2
    replace ej_2 := ej_2.symm; subst ej_2
    refine z_ti (y := (mPB (nI t) (x * 3) (mPut 30 (bg, I 118))).1) rfl ?_
    refine z_I (I' := zup (zup I 118 (mPB (nI t) (x * 3) (mPut 30 (bg, I 118))).2.2) 82 (upd (I 82) 52 (nI (mPB (nI t) (x * 3) (mPut 30 (bg, I 118))).2.1))) (by funext zk; by_cases h1 : zk = 82 <;> by_cases h2 : zk = 118 <;> simp [zup, h1, h2, upd_2]) ?_
    have hb_2 : (mPB (nI t) (x * 3) (mPut 30 (bg, I 118))).2.1 = ((mPut 30 (bg, I 118))).1 + 1 := rfl
    have hd_2 : ((mPut 30 (bg, I 118))).1 = ((mPut 30 (bg, I 118)).1) := rfl
    refine z_iret C hr rfl dX8_buys_54 ?_
    refine ⟨_, rfl, ?_⟩
    exact ⟨by unfold mBu; rw [if_pos (show k = 2 from (nI_eq (b := 2) (by omega) (by decide)).mp c6_2)], by unfold mBu; rw [if_pos (show k = 2 from (nI_eq (b := 2) (by omega) (by decide)).mp c6_2)], rfl⟩
  by_cases c6_3 : nI k = 3
  · skip
    refine z_tableIn (tgt := 89) C dX8_buys_6 (by rw [c6_3]; decide) (by rw [c6_3]; decide) (off := 83) (by rw [c6_3]; decide) (by decide) ?_
    refine z_aload_n C dX8_buys_89 rfl 0 rfl ?_
    refine z_iload_n C dX8_buys_90 rfl 1 rfl ?_
    refine z_iload_n C dX8_buys_91 rfl 2 rfl ?_
    refine z_callVi C hm cl_X8_343 cv_X8_plainBuys 82 (by decide) sh82 ⟨_, _, rfl⟩ [.int (nI t), .int x] rfl (rest := []) rfl (k_X8_plainBuys w _ _ k l bg t x hk7 ht16 (by exact hkk) (by exact hll) (by first | exact hbg | rfl) (by omega)) ⟨rfl, rfl, Nat.le_of_ble_eq_true rfl, Nat.le_of_ble_eq_true rfl⟩ (Nat.le_of_ble_eq_true rfl) dX8_buys_92 (fun v_3 I_3 J_3 h_3 => ?_)
    obtain ⟨ev_3, ei_3, ej_3⟩ := h_3
    replace ev_3 := ev_3.symm; subst ev_3
    replace ei_3 := ei_3.symm; subst ei_3
    replace ej_3 := ej_3.symm; subst ej_3
    refine z_ti (y := (mPB (nI t) x (bg, I 118)).1) rfl ?_
    refine z_I (I' := zup (zup I 118 (mPB (nI t) x (bg, I 118)).2.2) 82 (upd (I 82) 52 (nI (mPB (nI t) x (bg, I 118)).2.1))) (by funext zk; by_cases h1 : zk = 82 <;> by_cases h2 : zk = 118 <;> simp [zup, h1, h2, upd_2]) ?_
    have hb_3 : (mPB (nI t) x (bg, I 118)).2.1 = ((bg, I 118)).1 + 1 := rfl
    have hd_3 : ((bg, I 118)).1 = bg := rfl
    refine z_iret C hr rfl dX8_buys_95 ?_
    refine ⟨_, rfl, ?_⟩
    exact ⟨by unfold mBu; rw [if_neg (by have := (show k = 3 from (nI_eq (b := 3) (by omega) (by decide)).mp c6_3); omega), if_neg (by have := (show k = 3 from (nI_eq (b := 3) (by omega) (by decide)).mp c6_3); omega), if_neg (by have := (show k = 3 from (nI_eq (b := 3) (by omega) (by decide)).mp c6_3); omega)], by unfold mBu; rw [if_neg (by have := (show k = 3 from (nI_eq (b := 3) (by omega) (by decide)).mp c6_3); omega), if_neg (by have := (show k = 3 from (nI_eq (b := 3) (by omega) (by decide)).mp c6_3); omega), if_neg (by have := (show k = 3 from (nI_eq (b := 3) (by omega) (by decide)).mp c6_3); omega)], rfl⟩
  by_cases c6_4 : nI k = 4
  · skip
    refine z_tableIn (tgt := 55) C dX8_buys_6 (by rw [c6_4]; decide) (by rw [c6_4]; decide) (off := 49) (by rw [c6_4]; decide) (by decide) ?_
    refine z_aload_n C dX8_buys_55 rfl 0 rfl ?_
    refine z_bipush C (v := 50) dX8_buys_56 (by decide) ?_
    refine z_callVv C hm cl_X8_340 cv_X8_body 82 (by decide) sh82 ⟨_, _, rfl⟩ [.int 50] rfl (rest := []) rfl (k_X8_body w _ _ bg (50) (by first | exact hbg | rfl) (by omega)) ⟨rfl, rfl, Nat.le_of_ble_eq_true rfl, Nat.le_of_ble_eq_true rfl⟩ (Nat.le_of_ble_eq_true rfl) dX8_buys_58 (fun I_4 J_4 h_4 => ?_)
    obtain ⟨ei_4, ej_4⟩ := h_4
    replace ei_4 := ei_4.symm; subst ei_4
    replace ej_4 := ej_4.symm; subst ej_4
    refine z_I (I' := zup (zup I 118 (mPut 50 (bg, I 118)).2) 82 (upd (I 82) 52 (nI (mPut 50 (bg, I 118)).1))) (by funext zk; by_cases h1 : zk = 82 <;> by_cases h2 : zk = 118 <;> simp [zup, h1, h2, upd_2, mPut]) ?_
    have hb_4 : (mPut 50 (bg, I 118)).1 = bg + 1 := rfl
    refine z_aload_n C dX8_buys_61 rfl 0 rfl ?_
    refine z_iload_n C dX8_buys_62 rfl 1 rfl ?_
    refine z_iload_n C dX8_buys_63 rfl 2 rfl ?_
    refine z_callVi C hm cl_X8_343 cv_X8_plainBuys 82 (by decide) sh82 ⟨_, _, rfl⟩ [.int (nI t), .int x] rfl (rest := []) rfl (k_X8_plainBuys w _ _ k l ((mPut 50 (bg, I 118)).1) t x hk7 ht16 (by exact hkk) (by exact hll) (by first | exact hbg | rfl) (by omega)) ⟨rfl, rfl, Nat.le_of_ble_eq_true rfl, Nat.le_of_ble_eq_true rfl⟩ (Nat.le_of_ble_eq_true rfl) dX8_buys_64 (fun v_5 I_5 J_5 h_5 => ?_)
    obtain ⟨ev_5, ei_5, ej_5⟩ := h_5
    replace ev_5 := ev_5.symm; subst ev_5
    replace ei_5 := ei_5.symm; subst ei_5
    replace ej_5 := ej_5.symm; subst ej_5
    refine z_ti (y := (mPB (nI t) x (mPut 50 (bg, I 118))).1) rfl ?_
    refine z_I (I' := zup (zup I 118 (mPB (nI t) x (mPut 50 (bg, I 118))).2.2) 82 (upd (I 82) 52 (nI (mPB (nI t) x (mPut 50 (bg, I 118))).2.1))) (by funext zk; by_cases h1 : zk = 82 <;> by_cases h2 : zk = 118 <;> simp [zup, h1, h2, upd_2]) ?_
    have hb_5 : (mPB (nI t) x (mPut 50 (bg, I 118))).2.1 = ((mPut 50 (bg, I 118))).1 + 1 := rfl
    have hd_5 : ((mPut 50 (bg, I 118))).1 = ((mPut 50 (bg, I 118)).1) := rfl
    refine z_ineg C dX8_buys_67 ?_
    refine z_iret C hr rfl dX8_buys_68 ?_
    refine ⟨_, rfl, ?_⟩
    exact ⟨by unfold mBu; rw [if_neg (by have := (show k = 4 from (nI_eq (b := 4) (by omega) (by decide)).mp c6_4); omega), if_pos (show k = 4 from (nI_eq (b := 4) (by omega) (by decide)).mp c6_4)], by unfold mBu; rw [if_neg (by have := (show k = 4 from (nI_eq (b := 4) (by omega) (by decide)).mp c6_4); omega), if_pos (show k = 4 from (nI_eq (b := 4) (by omega) (by decide)).mp c6_4)], rfl⟩
  by_cases c6_5 : nI k = 5
  · skip
    refine z_tableIn (tgt := 89) C dX8_buys_6 (by rw [c6_5]; decide) (by rw [c6_5]; decide) (off := 83) (by rw [c6_5]; decide) (by decide) ?_
    refine z_aload_n C dX8_buys_89 rfl 0 rfl ?_
    refine z_iload_n C dX8_buys_90 rfl 1 rfl ?_
    refine z_iload_n C dX8_buys_91 rfl 2 rfl ?_
    refine z_callVi C hm cl_X8_343 cv_X8_plainBuys 82 (by decide) sh82 ⟨_, _, rfl⟩ [.int (nI t), .int x] rfl (rest := []) rfl (k_X8_plainBuys w _ _ k l bg t x hk7 ht16 (by exact hkk) (by exact hll) (by first | exact hbg | rfl) (by omega)) ⟨rfl, rfl, Nat.le_of_ble_eq_true rfl, Nat.le_of_ble_eq_true rfl⟩ (Nat.le_of_ble_eq_true rfl) dX8_buys_92 (fun v_6 I_6 J_6 h_6 => ?_)
    obtain ⟨ev_6, ei_6, ej_6⟩ := h_6
    replace ev_6 := ev_6.symm; subst ev_6
    replace ei_6 := ei_6.symm; subst ei_6
    replace ej_6 := ej_6.symm; subst ej_6
    refine z_ti (y := (mPB (nI t) x (bg, I 118)).1) rfl ?_
    refine z_I (I' := zup (zup I 118 (mPB (nI t) x (bg, I 118)).2.2) 82 (upd (I 82) 52 (nI (mPB (nI t) x (bg, I 118)).2.1))) (by funext zk; by_cases h1 : zk = 82 <;> by_cases h2 : zk = 118 <;> simp [zup, h1, h2, upd_2]) ?_
    have hb_6 : (mPB (nI t) x (bg, I 118)).2.1 = ((bg, I 118)).1 + 1 := rfl
    have hd_6 : ((bg, I 118)).1 = bg := rfl
    refine z_iret C hr rfl dX8_buys_95 ?_
    refine ⟨_, rfl, ?_⟩
    exact ⟨by unfold mBu; rw [if_neg (by have := (show k = 5 from (nI_eq (b := 5) (by omega) (by decide)).mp c6_5); omega), if_neg (by have := (show k = 5 from (nI_eq (b := 5) (by omega) (by decide)).mp c6_5); omega), if_neg (by have := (show k = 5 from (nI_eq (b := 5) (by omega) (by decide)).mp c6_5); omega)], by unfold mBu; rw [if_neg (by have := (show k = 5 from (nI_eq (b := 5) (by omega) (by decide)).mp c6_5); omega), if_neg (by have := (show k = 5 from (nI_eq (b := 5) (by omega) (by decide)).mp c6_5); omega), if_neg (by have := (show k = 5 from (nI_eq (b := 5) (by omega) (by decide)).mp c6_5); omega)], rfl⟩
  by_cases c6_6 : nI k = 6
  · skip
    refine z_tableIn (tgt := 69) C dX8_buys_6 (by rw [c6_6]; decide) (by rw [c6_6]; decide) (off := 63) (by rw [c6_6]; decide) (by decide) ?_
    refine z_aload_n C dX8_buys_69 rfl 0 rfl ?_
    refine z_bipush C (v := 71) dX8_buys_70 (by decide) ?_
    refine z_callVv C hm cl_X8_340 cv_X8_body 82 (by decide) sh82 ⟨_, _, rfl⟩ [.int 71] rfl (rest := []) rfl (k_X8_body w _ _ bg (71) (by first | exact hbg | rfl) (by omega)) ⟨rfl, rfl, Nat.le_of_ble_eq_true rfl, Nat.le_of_ble_eq_true rfl⟩ (Nat.le_of_ble_eq_true rfl) dX8_buys_72 (fun I_7 J_7 h_7 => ?_)
    obtain ⟨ei_7, ej_7⟩ := h_7
    replace ei_7 := ei_7.symm; subst ei_7
    replace ej_7 := ej_7.symm; subst ej_7
    refine z_I (I' := zup (zup I 118 (mPut 71 (bg, I 118)).2) 82 (upd (I 82) 52 (nI (mPut 71 (bg, I 118)).1))) (by funext zk; by_cases h1 : zk = 82 <;> by_cases h2 : zk = 118 <;> simp [zup, h1, h2, upd_2, mPut]) ?_
    have hb_7 : (mPut 71 (bg, I 118)).1 = bg + 1 := rfl
    refine z_aload_n C dX8_buys_75 rfl 0 rfl ?_
    refine z_iload_n C dX8_buys_76 rfl 1 rfl ?_
    refine z_iload_n C dX8_buys_77 rfl 2 rfl ?_
    refine z_callVi C hm cl_X8_343 cv_X8_plainBuys 82 (by decide) sh82 ⟨_, _, rfl⟩ [.int (nI t), .int x] rfl (rest := []) rfl (k_X8_plainBuys w _ _ k l ((mPut 71 (bg, I 118)).1) t x hk7 ht16 (by exact hkk) (by exact hll) (by first | exact hbg | rfl) (by omega)) ⟨rfl, rfl, Nat.le_of_ble_eq_true rfl, Nat.le_of_ble_eq_true rfl⟩ (Nat.le_of_ble_eq_true rfl) dX8_buys_78 (fun v_8 I_8 J_8 h_8 => ?_)
    obtain ⟨ev_8, ei_8, ej_8⟩ := h_8
    replace ev_8 := ev_8.symm; subst ev_8
    replace ei_8 := ei_8.symm; subst ei_8
    replace ej_8 := ej_8.symm; subst ej_8
    refine z_ti (y := (mPB (nI t) x (mPut 71 (bg, I 118))).1) rfl ?_
    refine z_I (I' := zup (zup I 118 (mPB (nI t) x (mPut 71 (bg, I 118))).2.2) 82 (upd (I 82) 52 (nI (mPB (nI t) x (mPut 71 (bg, I 118))).2.1))) (by funext zk; by_cases h1 : zk = 82 <;> by_cases h2 : zk = 118 <;> simp [zup, h1, h2, upd_2]) ?_
    have hb_8 : (mPB (nI t) x (mPut 71 (bg, I 118))).2.1 = ((mPut 71 (bg, I 118))).1 + 1 := rfl
    have hd_8 : ((mPut 71 (bg, I 118))).1 = ((mPut 71 (bg, I 118)).1) := rfl
    refine z_aload_n C dX8_buys_81 rfl 0 rfl ?_
    refine z_getr C ff_X8_108 82 (by decide) sh82 rfl dX8_buys_82 ?_
    refine z_iload_n C dX8_buys_85 rfl 1 rfl ?_
    refine z_iald C 104 (by decide) sh104 t (by omega) (by decide) rfl (v := l) (by first | exact (by exact hll) | (simp [zup, zupJ, upd, vp_updL]; exact (by exact hll))) dX8_buys_86 ?_
    refine z_ixor C dX8_buys_87 ?_
    refine z_iret C hr rfl dX8_buys_88 ?_
    refine ⟨_, rfl, ?_⟩
    exact ⟨by unfold mBu; rw [if_neg (by have := (show k = 6 from (nI_eq (b := 6) (by omega) (by decide)).mp c6_6); omega), if_neg (by have := (show k = 6 from (nI_eq (b := 6) (by omega) (by decide)).mp c6_6); omega), if_pos (show k = 6 from (nI_eq (b := 6) (by omega) (by decide)).mp c6_6)], by unfold mBu; rw [if_neg (by have := (show k = 6 from (nI_eq (b := 6) (by omega) (by decide)).mp c6_6); omega), if_neg (by have := (show k = 6 from (nI_eq (b := 6) (by omega) (by decide)).mp c6_6); omega), if_pos (show k = 6 from (nI_eq (b := 6) (by omega) (by decide)).mp c6_6)], rfl⟩
  refine z_tableOut (tgt := 89) C dX8_buys_6 (by have h0 := lv_neT c6_2 (a := 2) (by decide); have h1 := lv_neT c6_3 (a := 3) (by decide); have h2 := lv_neT c6_4 (a := 4) (by decide); have h3 := lv_neT c6_5 (a := 5) (by decide); have h4 := lv_neT c6_6 (a := 6) (by decide); omega) (by decide) ?_
  refine z_aload_n C dX8_buys_89 rfl 0 rfl ?_
  refine z_iload_n C dX8_buys_90 rfl 1 rfl ?_
  refine z_iload_n C dX8_buys_91 rfl 2 rfl ?_
  refine z_callVi C hm cl_X8_343 cv_X8_plainBuys 82 (by decide) sh82 ⟨_, _, rfl⟩ [.int (nI t), .int x] rfl (rest := []) rfl (k_X8_plainBuys w _ _ k l bg t x hk7 ht16 (by exact hkk) (by exact hll) (by first | exact hbg | rfl) (by omega)) ⟨rfl, rfl, Nat.le_of_ble_eq_true rfl, Nat.le_of_ble_eq_true rfl⟩ (Nat.le_of_ble_eq_true rfl) dX8_buys_92 (fun v_9 I_9 J_9 h_9 => ?_)
  obtain ⟨ev_9, ei_9, ej_9⟩ := h_9
  replace ev_9 := ev_9.symm; subst ev_9
  replace ei_9 := ei_9.symm; subst ei_9
  replace ej_9 := ej_9.symm; subst ej_9
  refine z_ti (y := (mPB (nI t) x (bg, I 118)).1) rfl ?_
  refine z_I (I' := zup (zup I 118 (mPB (nI t) x (bg, I 118)).2.2) 82 (upd (I 82) 52 (nI (mPB (nI t) x (bg, I 118)).2.1))) (by funext zk; by_cases h1 : zk = 82 <;> by_cases h2 : zk = 118 <;> simp [zup, h1, h2, upd_2]) ?_
  have hb_9 : (mPB (nI t) x (bg, I 118)).2.1 = ((bg, I 118)).1 + 1 := rfl
  have hd_9 : ((bg, I 118)).1 = bg := rfl
  refine z_iret C hr rfl dX8_buys_95 ?_
  refine ⟨_, rfl, ?_⟩
  exact ⟨by unfold mBu; rw [if_neg (show k ≠ 2 from fun q => c6_2 (by rw [q]; rfl)), if_neg (show k ≠ 4 from fun q => c6_4 (by rw [q]; rfl)), if_neg (show k ≠ 6 from fun q => c6_6 (by rw [q]; rfl))], by unfold mBu; rw [if_neg (show k ≠ 2 from fun q => c6_2 (by rw [q]; rfl)), if_neg (show k ≠ 4 from fun q => c6_4 (by rw [q]; rfl)), if_neg (show k ≠ 6 from fun q => c6_6 (by rw [q]; rfl))], rfl⟩
abbrev rm_X8_plainKnows : Room := { frames := 7, cells := 0, slots := 0, locals := 265 }
set_option maxRecDepth 100000 in
set_option maxHeartbeats 4000000 in
theorem k_X8_plainKnows (w : zW) (I : zI) (J : zJ) (k : Nat) (l : Int32) (bg : Nat) (t : Nat) (x : Int32) (hk7 : k < 7) (ht16 : t < 16) (hkk : I 100 t = nI k) (hll : I 104 t = l) (hbg : I 82 52 = nI bg) (hb1 : bg ≤ 9970) : zMet yX8_plainKnows cX8_plainKnows 3 (some .int) rm_X8_plainKnows w [.ref (zad w 82), .int (nI t), .int x] I J (zpi (fun v I' J' => v = (mPK k (nI t) l x (bg, I 118)).1 ∧ I' = zup (zup I 118 (mPK k (nI t) l x (bg, I 118)).2.2) 82 (upd (I 82) 52 (nI (mPK k (nI t) l x (bg, I 118)).2.1)) ∧ J' = J)) := by
  refine zMet_of (by decide) (Nat.le_of_ble_eq_true rfl) (fun X C hm hr => ?_)
  refine z_sub (lv' := [(0, .ref (zad w 82)), (1, .int (nI t)), (2, .int x)]) [0, 1, 2] rfl ?_
  refine z_aload_n C dX8_plainKnows_0 rfl 0 rfl ?_
  refine z_bipush C (v := 11) dX8_plainKnows_1 (by decide) ?_
  refine z_callVv C hm cl_X8_340 cv_X8_body 82 (by decide) sh82 ⟨_, _, rfl⟩ [.int 11] rfl (rest := []) rfl (k_X8_body w _ _ bg (11) (by first | exact hbg | rfl) (by omega)) ⟨rfl, rfl, Nat.le_of_ble_eq_true rfl, Nat.le_of_ble_eq_true rfl⟩ (Nat.le_of_ble_eq_true rfl) dX8_plainKnows_3 (fun I_1 J_1 h_1 => ?_)
  obtain ⟨ei_1, ej_1⟩ := h_1
  replace ei_1 := ei_1.symm; subst ei_1
  replace ej_1 := ej_1.symm; subst ej_1
  refine z_I (I' := zup (zup I 118 (mPut 11 (bg, I 118)).2) 82 (upd (I 82) 52 (nI (mPut 11 (bg, I 118)).1))) (by funext zk; by_cases h1 : zk = 82 <;> by_cases h2 : zk = 118 <;> simp [zup, h1, h2, upd_2, mPut]) ?_
  have hb_1 : (mPut 11 (bg, I 118)).1 = bg + 1 := rfl
  refine z_aload_n C dX8_plainKnows_6 rfl 0 rfl ?_
  refine z_iload_n C dX8_plainKnows_7 rfl 1 rfl ?_
  refine z_iload_n C dX8_plainKnows_8 rfl 2 rfl ?_
  refine z_callVi C hm cl_X8_346 cv_X8_buys 82 (by decide) sh82 ⟨_, _, rfl⟩ [.int (nI t), .int x] rfl (rest := []) rfl (k_X8_buys w _ _ k l ((mPut 11 (bg, I 118)).1) t x hk7 ht16 (by exact hkk) (by exact hll) (by first | exact hbg | rfl) (by omega)) ⟨rfl, rfl, Nat.le_of_ble_eq_true rfl, Nat.le_of_ble_eq_true rfl⟩ (Nat.le_of_ble_eq_true rfl) dX8_plainKnows_9 (fun v_2 I_2 J_2 h_2 => ?_)
  obtain ⟨ev_2, ei_2, ej_2⟩ := h_2
  replace ev_2 := ev_2.symm; subst ev_2
  replace ei_2 := ei_2.symm; subst ei_2
  replace ej_2 := ej_2.symm; subst ej_2
  refine z_ti (y := (mBu k (nI t) l x (mPut 11 (bg, I 118))).1) rfl ?_
  refine z_I (I' := zup (zup I 118 (mBu k (nI t) l x (mPut 11 (bg, I 118))).2.2) 82 (upd (I 82) 52 (nI (mBu k (nI t) l x (mPut 11 (bg, I 118))).2.1))) (by funext zk; by_cases h1 : zk = 82 <;> by_cases h2 : zk = 118 <;> simp [zup, h1, h2, upd_2]) ?_
  have hb_2 : (mBu k (nI t) l x (mPut 11 (bg, I 118))).2.1 ≤ ((mPut 11 (bg, I 118))).1 + 2 := mBu_c
  have hd_2 : ((mPut 11 (bg, I 118))).1 = ((mPut 11 (bg, I 118)).1) := rfl
  refine z_aload_n C dX8_plainKnows_12 rfl 0 rfl ?_
  refine z_getr C ff_X8_108 82 (by decide) sh82 rfl dX8_plainKnows_13 ?_
  refine z_iload_n C dX8_plainKnows_16 rfl 1 rfl ?_
  refine z_iald C 104 (by decide) sh104 t (by omega) (by decide) rfl (v := l) (by first | exact (by exact hll) | (simp [zup, zupJ, upd, vp_updL]; exact (by exact hll))) dX8_plainKnows_17 ?_
  refine z_isub C dX8_plainKnows_18 ?_
  refine z_iret C hr rfl dX8_plainKnows_19 ?_
  refine ⟨_, rfl, ?_⟩
  exact ⟨rfl, rfl, rfl⟩
abbrev rm_X8_usualKnows : Room := { frames := 8, cells := 0, slots := 0, locals := 287 }
set_option maxRecDepth 100000 in
set_option maxHeartbeats 4000000 in
theorem k_X8_usualKnows (w : zW) (I : zI) (J : zJ) (k : Nat) (l : Int32) (bg : Nat) (t : Nat) (x : Int32) (hk7 : k < 7) (ht16 : t < 16) (hkk : I 100 t = nI k) (hll : I 104 t = l) (hbg : I 82 52 = nI bg) (hb1 : bg ≤ 9960) : zMet yX8_usualKnows cX8_usualKnows 3 (some .int) rm_X8_usualKnows w [.ref (zad w 82), .int (nI t), .int x] I J (zpi (fun v I' J' => v = (mUK k (nI t) l x (bg, I 118)).1 ∧ I' = zup (zup I 118 (mUK k (nI t) l x (bg, I 118)).2.2) 82 (upd (I 82) 52 (nI (mUK k (nI t) l x (bg, I 118)).2.1)) ∧ J' = J)) := by
  refine zMet_of (by decide) (Nat.le_of_ble_eq_true rfl) (fun X C hm hr => ?_)
  refine z_sub (lv' := [(0, .ref (zad w 82)), (1, .int (nI t)), (2, .int x)]) [0, 1, 2] rfl ?_
  refine z_aload_n C dX8_usualKnows_0 rfl 0 rfl ?_
  refine z_bipush C (v := 20) dX8_usualKnows_1 (by decide) ?_
  refine z_callVv C hm cl_X8_340 cv_X8_body 82 (by decide) sh82 ⟨_, _, rfl⟩ [.int 20] rfl (rest := []) rfl (k_X8_body w _ _ bg (20) (by first | exact hbg | rfl) (by omega)) ⟨rfl, rfl, Nat.le_of_ble_eq_true rfl, Nat.le_of_ble_eq_true rfl⟩ (Nat.le_of_ble_eq_true rfl) dX8_usualKnows_3 (fun I_1 J_1 h_1 => ?_)
  obtain ⟨ei_1, ej_1⟩ := h_1
  replace ei_1 := ei_1.symm; subst ei_1
  replace ej_1 := ej_1.symm; subst ej_1
  refine z_I (I' := zup (zup I 118 (mPut 20 (bg, I 118)).2) 82 (upd (I 82) 52 (nI (mPut 20 (bg, I 118)).1))) (by funext zk; by_cases h1 : zk = 82 <;> by_cases h2 : zk = 118 <;> simp [zup, h1, h2, upd_2, mPut]) ?_
  have hb_1 : (mPut 20 (bg, I 118)).1 = bg + 1 := rfl
  refine z_aload_n C dX8_usualKnows_6 rfl 0 rfl ?_
  refine z_iload_n C dX8_usualKnows_7 rfl 1 rfl ?_
  refine z_iload_n C dX8_usualKnows_8 rfl 2 rfl ?_
  refine z_callVi C hm cl_X8_349 cv_X8_plainKnows 82 (by decide) sh82 ⟨_, _, rfl⟩ [.int (nI t), .int x] rfl (rest := []) rfl (k_X8_plainKnows w _ _ k l ((mPut 20 (bg, I 118)).1) t x hk7 ht16 (by exact hkk) (by exact hll) (by first | exact hbg | rfl) (by omega)) ⟨rfl, rfl, Nat.le_of_ble_eq_true rfl, Nat.le_of_ble_eq_true rfl⟩ (Nat.le_of_ble_eq_true rfl) dX8_usualKnows_9 (fun v_2 I_2 J_2 h_2 => ?_)
  obtain ⟨ev_2, ei_2, ej_2⟩ := h_2
  replace ev_2 := ev_2.symm; subst ev_2
  replace ei_2 := ei_2.symm; subst ei_2
  replace ej_2 := ej_2.symm; subst ej_2
  refine z_ti (y := (mPK k (nI t) l x (mPut 20 (bg, I 118))).1) rfl ?_
  refine z_I (I' := zup (zup I 118 (mPK k (nI t) l x (mPut 20 (bg, I 118))).2.2) 82 (upd (I 82) 52 (nI (mPK k (nI t) l x (mPut 20 (bg, I 118))).2.1))) (by funext zk; by_cases h1 : zk = 82 <;> by_cases h2 : zk = 118 <;> simp [zup, h1, h2, upd_2]) ?_
  have hb_2 : (mPK k (nI t) l x (mPut 20 (bg, I 118))).2.1 ≤ ((mPut 20 (bg, I 118))).1 + 3 := mPK_c
  have hd_2 : ((mPut 20 (bg, I 118))).1 = ((mPut 20 (bg, I 118)).1) := rfl
  refine z_bipush C (v := 6) dX8_usualKnows_12 (by decide) ?_
  refine z_ixor C dX8_usualKnows_14 ?_
  refine z_iret C hr rfl dX8_usualKnows_15 ?_
  refine ⟨_, rfl, ?_⟩
  exact ⟨rfl, rfl, rfl⟩
abbrev rm_X8_knowsAct : Room := { frames := 9, cells := 0, slots := 0, locals := 309 }
set_option maxRecDepth 100000 in
set_option maxHeartbeats 4000000 in
theorem k_X8_knowsAct (w : zW) (I : zI) (J : zJ) (k : Nat) (l : Int32) (bg : Nat) (t : Nat) (x : Int32) (hk7 : k < 7) (ht16 : t < 16) (hkk : I 100 t = nI k) (hll : I 104 t = l) (hbg : I 82 52 = nI bg) (hb1 : bg ≤ 9950) : zMet yX8_knowsAct cX8_knowsAct 4 (some .int) rm_X8_knowsAct w [.ref (zad w 82), .int (nI t), .int x] I J (zpi (fun v I' J' => v = (mKA k (nI t) l x (bg, I 118)).1 ∧ I' = zup (zup I 118 (mKA k (nI t) l x (bg, I 118)).2.2) 82 (upd (I 82) 52 (nI (mKA k (nI t) l x (bg, I 118)).2.1)) ∧ J' = J)) := by
  refine zMet_of (by decide) (Nat.le_of_ble_eq_true rfl) (fun X C hm hr => ?_)
  refine z_sub (lv' := [(0, .ref (zad w 82)), (1, .int (nI t)), (2, .int x)]) [0, 1, 2] rfl ?_
  refine z_aload_n C dX8_knowsAct_0 rfl 0 rfl ?_
  refine z_getr C ff_X8_96 82 (by decide) sh82 rfl dX8_knowsAct_1 ?_
  refine z_iload_n C dX8_knowsAct_4 rfl 1 rfl ?_
  refine z_iald C 100 (by decide) sh100 t (by omega) (by decide) rfl (v := nI k) hkk dX8_knowsAct_5 ?_
  by_cases c6_1 : nI k = 1
  · skip
    refine z_lookup (tgt := 40) C dX8_knowsAct_6 (by decide) (off := 34) (by rw [c6_1]; decide) (by decide) ?_
    refine z_aload_n C dX8_knowsAct_40 rfl 0 rfl ?_
    refine z_iload_n C dX8_knowsAct_41 rfl 1 rfl ?_
    refine z_iload_n C dX8_knowsAct_42 rfl 2 rfl ?_
    refine z_callVi C hm cl_X8_352 cv_X8_usualKnows 82 (by decide) sh82 ⟨_, _, rfl⟩ [.int (nI t), .int x] rfl (rest := []) rfl (k_X8_usualKnows w _ _ k l bg t x hk7 ht16 (by exact hkk) (by exact hll) (by first | exact hbg | rfl) (by omega)) ⟨rfl, rfl, Nat.le_of_ble_eq_true rfl, Nat.le_of_ble_eq_true rfl⟩ (Nat.le_of_ble_eq_true rfl) dX8_knowsAct_43 (fun v_1 I_1 J_1 h_1 => ?_)
    obtain ⟨ev_1, ei_1, ej_1⟩ := h_1
    replace ev_1 := ev_1.symm; subst ev_1
    replace ei_1 := ei_1.symm; subst ei_1
    replace ej_1 := ej_1.symm; subst ej_1
    refine z_ti (y := (mUK k (nI t) l x (bg, I 118)).1) rfl ?_
    refine z_I (I' := zup (zup I 118 (mUK k (nI t) l x (bg, I 118)).2.2) 82 (upd (I 82) 52 (nI (mUK k (nI t) l x (bg, I 118)).2.1))) (by funext zk; by_cases h1 : zk = 82 <;> by_cases h2 : zk = 118 <;> simp [zup, h1, h2, upd_2]) ?_
    have hb_1 : (mUK k (nI t) l x (bg, I 118)).2.1 ≤ ((bg, I 118)).1 + 4 := mUK_c
    have hd_1 : ((bg, I 118)).1 = bg := rfl
    refine z_iret C hr rfl dX8_knowsAct_46 ?_
    refine ⟨_, rfl, ?_⟩
    exact ⟨by unfold mKA; rw [if_pos (show k = 1 from (nI_eq (b := 1) (by omega) (by decide)).mp c6_1)], by unfold mKA; rw [if_pos (show k = 1 from (nI_eq (b := 1) (by omega) (by decide)).mp c6_1)], rfl⟩
  by_cases c6_4 : nI k = 4
  · skip
    refine z_lookup (tgt := 47) C dX8_knowsAct_6 (by decide) (off := 41) (by rw [c6_4]; decide) (by decide) ?_
    refine z_aload_n C dX8_knowsAct_47 rfl 0 rfl ?_
    refine z_bipush C (v := 51) dX8_knowsAct_48 (by decide) ?_
    refine z_callVv C hm cl_X8_340 cv_X8_body 82 (by decide) sh82 ⟨_, _, rfl⟩ [.int 51] rfl (rest := []) rfl (k_X8_body w _ _ bg (51) (by first | exact hbg | rfl) (by omega)) ⟨rfl, rfl, Nat.le_of_ble_eq_true rfl, Nat.le_of_ble_eq_true rfl⟩ (Nat.le_of_ble_eq_true rfl) dX8_knowsAct_50 (fun I_2 J_2 h_2 => ?_)
    obtain ⟨ei_2, ej_2⟩ := h_2
    replace ei_2 := ei_2.symm; subst ei_2
    replace ej_2 := ej_2.symm; subst ej_2
    refine z_I (I' := zup (zup I 118 (mPut 51 (bg, I 118)).2) 82 (upd (I 82) 52 (nI (mPut 51 (bg, I 118)).1))) (by funext zk; by_cases h1 : zk = 82 <;> by_cases h2 : zk = 118 <;> simp [zup, h1, h2, upd_2, mPut]) ?_
    have hb_2 : (mPut 51 (bg, I 118)).1 = bg + 1 := rfl
    refine z_aload_n C dX8_knowsAct_53 rfl 0 rfl ?_
    refine z_iload_n C dX8_knowsAct_54 rfl 1 rfl ?_
    refine z_iload_n C dX8_knowsAct_55 rfl 2 rfl ?_
    refine z_iconst C (v := 1) dX8_knowsAct_56 (by decide) ?_
    refine z_iadd C dX8_knowsAct_57 ?_
    refine z_callVi C hm cl_X8_352 cv_X8_usualKnows 82 (by decide) sh82 ⟨_, _, rfl⟩ [.int (nI t), .int (x + 1)] rfl (rest := []) rfl (k_X8_usualKnows w _ _ k l ((mPut 51 (bg, I 118)).1) t (x + 1) hk7 ht16 (by exact hkk) (by exact hll) (by first | exact hbg | rfl) (by omega)) ⟨rfl, rfl, Nat.le_of_ble_eq_true rfl, Nat.le_of_ble_eq_true rfl⟩ (Nat.le_of_ble_eq_true rfl) dX8_knowsAct_58 (fun v_3 I_3 J_3 h_3 => ?_)
    obtain ⟨ev_3, ei_3, ej_3⟩ := h_3
    replace ev_3 := ev_3.symm; subst ev_3
    replace ei_3 := ei_3.symm; subst ei_3
    replace ej_3 := ej_3.symm; subst ej_3
    refine z_ti (y := (mUK k (nI t) l (x + 1) (mPut 51 (bg, I 118))).1) rfl ?_
    refine z_I (I' := zup (zup I 118 (mUK k (nI t) l (x + 1) (mPut 51 (bg, I 118))).2.2) 82 (upd (I 82) 52 (nI (mUK k (nI t) l (x + 1) (mPut 51 (bg, I 118))).2.1))) (by funext zk; by_cases h1 : zk = 82 <;> by_cases h2 : zk = 118 <;> simp [zup, h1, h2, upd_2]) ?_
    have hb_3 : (mUK k (nI t) l (x + 1) (mPut 51 (bg, I 118))).2.1 ≤ ((mPut 51 (bg, I 118))).1 + 4 := mUK_c
    have hd_3 : ((mPut 51 (bg, I 118))).1 = ((mPut 51 (bg, I 118)).1) := rfl
    refine z_iret C hr rfl dX8_knowsAct_61 ?_
    refine ⟨_, rfl, ?_⟩
    exact ⟨by unfold mKA; rw [if_neg (by have := (show k = 4 from (nI_eq (b := 4) (by omega) (by decide)).mp c6_4); omega), if_pos (show k = 4 from (nI_eq (b := 4) (by omega) (by decide)).mp c6_4)], by unfold mKA; rw [if_neg (by have := (show k = 4 from (nI_eq (b := 4) (by omega) (by decide)).mp c6_4); omega), if_pos (show k = 4 from (nI_eq (b := 4) (by omega) (by decide)).mp c6_4)], rfl⟩
  by_cases c6_6 : nI k = 6
  · skip
    refine z_lookup (tgt := 62) C dX8_knowsAct_6 (by decide) (off := 56) (by rw [c6_6]; decide) (by decide) ?_
    refine z_aload_n C dX8_knowsAct_62 rfl 0 rfl ?_
    refine z_bipush C (v := 70) dX8_knowsAct_63 (by decide) ?_
    refine z_callVv C hm cl_X8_340 cv_X8_body 82 (by decide) sh82 ⟨_, _, rfl⟩ [.int 70] rfl (rest := []) rfl (k_X8_body w _ _ bg (70) (by first | exact hbg | rfl) (by omega)) ⟨rfl, rfl, Nat.le_of_ble_eq_true rfl, Nat.le_of_ble_eq_true rfl⟩ (Nat.le_of_ble_eq_true rfl) dX8_knowsAct_65 (fun I_4 J_4 h_4 => ?_)
    obtain ⟨ei_4, ej_4⟩ := h_4
    replace ei_4 := ei_4.symm; subst ei_4
    replace ej_4 := ej_4.symm; subst ej_4
    refine z_I (I' := zup (zup I 118 (mPut 70 (bg, I 118)).2) 82 (upd (I 82) 52 (nI (mPut 70 (bg, I 118)).1))) (by funext zk; by_cases h1 : zk = 82 <;> by_cases h2 : zk = 118 <;> simp [zup, h1, h2, upd_2, mPut]) ?_
    have hb_4 : (mPut 70 (bg, I 118)).1 = bg + 1 := rfl
    refine z_aload_n C dX8_knowsAct_68 rfl 0 rfl ?_
    refine z_iload_n C dX8_knowsAct_69 rfl 1 rfl ?_
    refine z_iload_n C dX8_knowsAct_70 rfl 2 rfl ?_
    refine z_callVi C hm cl_X8_349 cv_X8_plainKnows 82 (by decide) sh82 ⟨_, _, rfl⟩ [.int (nI t), .int x] rfl (rest := []) rfl (k_X8_plainKnows w _ _ k l ((mPut 70 (bg, I 118)).1) t x hk7 ht16 (by exact hkk) (by exact hll) (by first | exact hbg | rfl) (by omega)) ⟨rfl, rfl, Nat.le_of_ble_eq_true rfl, Nat.le_of_ble_eq_true rfl⟩ (Nat.le_of_ble_eq_true rfl) dX8_knowsAct_71 (fun v_5 I_5 J_5 h_5 => ?_)
    obtain ⟨ev_5, ei_5, ej_5⟩ := h_5
    replace ev_5 := ev_5.symm; subst ev_5
    replace ei_5 := ei_5.symm; subst ei_5
    replace ej_5 := ej_5.symm; subst ej_5
    refine z_ti (y := (mPK k (nI t) l x (mPut 70 (bg, I 118))).1) rfl ?_
    refine z_I (I' := zup (zup I 118 (mPK k (nI t) l x (mPut 70 (bg, I 118))).2.2) 82 (upd (I 82) 52 (nI (mPK k (nI t) l x (mPut 70 (bg, I 118))).2.1))) (by funext zk; by_cases h1 : zk = 82 <;> by_cases h2 : zk = 118 <;> simp [zup, h1, h2, upd_2]) ?_
    have hb_5 : (mPK k (nI t) l x (mPut 70 (bg, I 118))).2.1 ≤ ((mPut 70 (bg, I 118))).1 + 3 := mPK_c
    have hd_5 : ((mPut 70 (bg, I 118))).1 = ((mPut 70 (bg, I 118)).1) := rfl
    refine z_istore_n C hm (lv' := [(3, .int ((mPK k (nI t) l x (mPut 70 (bg, I 118))).1)), (0, .ref (zad w 82)), (1, .int (nI t)), (2, .int x)]) dX8_knowsAct_74 rfl (by decide) rfl ?_
    refine z_iload_n C dX8_knowsAct_75 rfl 0 rfl ?_
    refine z_aload_n C dX8_knowsAct_76 rfl 1 rfl ?_
    refine z_iload_n C dX8_knowsAct_77 rfl 2 rfl ?_
    refine z_iconst C (v := 2) dX8_knowsAct_78 (by decide) ?_
    refine z_callVi C hm cl_X8_343 cv_X8_plainBuys 82 (by decide) sh82 ⟨_, _, rfl⟩ [.int (nI t), .int 2] rfl (rest := [.int ((mPK k (nI t) l x (mPut 70 (bg, I 118))).1)]) rfl (k_X8_plainBuys w _ _ k l ((mPK k (nI t) l x (mPut 70 (bg, I 118))).2.1) t (2) hk7 ht16 (by exact hkk) (by exact hll) (by first | exact hbg | rfl) (by omega)) ⟨rfl, rfl, Nat.le_of_ble_eq_true rfl, Nat.le_of_ble_eq_true rfl⟩ (Nat.le_of_ble_eq_true rfl) dX8_knowsAct_79 (fun v_6 I_6 J_6 h_6 => ?_)
    obtain ⟨ev_6, ei_6, ej_6⟩ := h_6
    replace ev_6 := ev_6.symm; subst ev_6
    replace ei_6 := ei_6.symm; subst ei_6
    replace ej_6 := ej_6.symm; subst ej_6
    refine z_ti (y := (mPB (nI t) (2) ((mPK k (nI t) l x (mPut 70 (bg, I 118))).2)).1) rfl ?_
    refine z_I (I' := zup (zup I 118 (mPB (nI t) (2) ((mPK k (nI t) l x (mPut 70 (bg, I 118))).2)).2.2) 82 (upd (I 82) 52 (nI (mPB (nI t) (2) ((mPK k (nI t) l x (mPut 70 (bg, I 118))).2)).2.1))) (by funext zk; by_cases h1 : zk = 82 <;> by_cases h2 : zk = 118 <;> simp [zup, h1, h2, upd_2]) ?_
    have hb_6 : (mPB (nI t) (2) ((mPK k (nI t) l x (mPut 70 (bg, I 118))).2)).2.1 = ((mPK k (nI t) l x (mPut 70 (bg, I 118))).2).1 + 1 := rfl
    refine z_iadd C dX8_knowsAct_82 ?_
    refine z_iret C hr rfl dX8_knowsAct_83 ?_
    refine ⟨_, rfl, ?_⟩
    exact ⟨by unfold mKA; rw [if_neg (by have := (show k = 6 from (nI_eq (b := 6) (by omega) (by decide)).mp c6_6); omega), if_neg (by have := (show k = 6 from (nI_eq (b := 6) (by omega) (by decide)).mp c6_6); omega), if_pos (show k = 6 from (nI_eq (b := 6) (by omega) (by decide)).mp c6_6)], by unfold mKA; rw [if_neg (by have := (show k = 6 from (nI_eq (b := 6) (by omega) (by decide)).mp c6_6); omega), if_neg (by have := (show k = 6 from (nI_eq (b := 6) (by omega) (by decide)).mp c6_6); omega), if_pos (show k = 6 from (nI_eq (b := 6) (by omega) (by decide)).mp c6_6)], rfl⟩
  refine z_lookup (tgt := 84) C dX8_knowsAct_6 (by decide) (off := 78) (by show Op.lookupswitch.offset [(1, 34), (4, 41), (6, 56)] _ _ = _; rw [lv_osw c6_1 (by decide), lv_osw c6_4 (by decide), lv_osw c6_6 (by decide)]; rfl) (by decide) ?_
  refine z_aload_n C dX8_knowsAct_84 rfl 0 rfl ?_
  refine z_iload_n C dX8_knowsAct_85 rfl 1 rfl ?_
  refine z_iload_n C dX8_knowsAct_86 rfl 2 rfl ?_
  refine z_callVi C hm cl_X8_349 cv_X8_plainKnows 82 (by decide) sh82 ⟨_, _, rfl⟩ [.int (nI t), .int x] rfl (rest := []) rfl (k_X8_plainKnows w _ _ k l bg t x hk7 ht16 (by exact hkk) (by exact hll) (by first | exact hbg | rfl) (by omega)) ⟨rfl, rfl, Nat.le_of_ble_eq_true rfl, Nat.le_of_ble_eq_true rfl⟩ (Nat.le_of_ble_eq_true rfl) dX8_knowsAct_87 (fun v_7 I_7 J_7 h_7 => ?_)
  obtain ⟨ev_7, ei_7, ej_7⟩ := h_7
  replace ev_7 := ev_7.symm; subst ev_7
  replace ei_7 := ei_7.symm; subst ei_7
  replace ej_7 := ej_7.symm; subst ej_7
  refine z_ti (y := (mPK k (nI t) l x (bg, I 118)).1) rfl ?_
  refine z_I (I' := zup (zup I 118 (mPK k (nI t) l x (bg, I 118)).2.2) 82 (upd (I 82) 52 (nI (mPK k (nI t) l x (bg, I 118)).2.1))) (by funext zk; by_cases h1 : zk = 82 <;> by_cases h2 : zk = 118 <;> simp [zup, h1, h2, upd_2]) ?_
  have hb_7 : (mPK k (nI t) l x (bg, I 118)).2.1 ≤ ((bg, I 118)).1 + 3 := mPK_c
  have hd_7 : ((bg, I 118)).1 = bg := rfl
  refine z_iret C hr rfl dX8_knowsAct_90 ?_
  refine ⟨_, rfl, ?_⟩
  exact ⟨by unfold mKA; rw [if_neg (show k ≠ 1 from fun q => c6_1 (by rw [q]; rfl)), if_neg (show k ≠ 4 from fun q => c6_4 (by rw [q]; rfl)), if_neg (show k ≠ 6 from fun q => c6_6 (by rw [q]; rfl))], by unfold mKA; rw [if_neg (show k ≠ 1 from fun q => c6_1 (by rw [q]; rfl)), if_neg (show k ≠ 4 from fun q => c6_4 (by rw [q]; rfl)), if_neg (show k ≠ 6 from fun q => c6_6 (by rw [q]; rfl))], rfl⟩
abbrev rm_X8_plainTells : Room := { frames := 10, cells := 0, slots := 0, locals := 332 }
set_option maxRecDepth 100000 in
set_option maxHeartbeats 4000000 in
theorem k_X8_plainTells (w : zW) (I : zI) (J : zJ) (k : Nat) (l : Int32) (bg : Nat) (t : Nat) (x : Int32) (hk7 : k < 7) (ht16 : t < 16) (hkk : I 100 t = nI k) (hll : I 104 t = l) (hbg : I 82 52 = nI bg) (hb1 : bg ≤ 9900) : zMet yX8_plainTells cX8_plainTells 3 (some .int) rm_X8_plainTells w [.ref (zad w 82), .int (nI t), .int x] I J (zpi (fun v I' J' => v = (mPT k (nI t) l x (bg, I 118)).1 ∧ I' = zup (zup I 118 (mPT k (nI t) l x (bg, I 118)).2.2) 82 (upd (I 82) 52 (nI (mPT k (nI t) l x (bg, I 118)).2.1)) ∧ J' = J)) := by
  refine zMet_of (by decide) (Nat.le_of_ble_eq_true rfl) (fun X C hm hr => ?_)
  refine z_sub (lv' := [(0, .ref (zad w 82)), (1, .int (nI t)), (2, .int x)]) [0, 1, 2] rfl ?_
  refine z_aload_n C dX8_plainTells_0 rfl 0 rfl ?_
  refine z_bipush C (v := 12) dX8_plainTells_1 (by decide) ?_
  refine z_callVv C hm cl_X8_340 cv_X8_body 82 (by decide) sh82 ⟨_, _, rfl⟩ [.int 12] rfl (rest := []) rfl (k_X8_body w _ _ bg (12) (by first | exact hbg | rfl) (by omega)) ⟨rfl, rfl, Nat.le_of_ble_eq_true rfl, Nat.le_of_ble_eq_true rfl⟩ (Nat.le_of_ble_eq_true rfl) dX8_plainTells_3 (fun I_1 J_1 h_1 => ?_)
  obtain ⟨ei_1, ej_1⟩ := h_1
  replace ei_1 := ei_1.symm; subst ei_1
  replace ej_1 := ej_1.symm; subst ej_1
  refine z_I (I' := zup (zup I 118 (mPut 12 (bg, I 118)).2) 82 (upd (I 82) 52 (nI (mPut 12 (bg, I 118)).1))) (by funext zk; by_cases h1 : zk = 82 <;> by_cases h2 : zk = 118 <;> simp [zup, h1, h2, upd_2, mPut]) ?_
  have hb_1 : (mPut 12 (bg, I 118)).1 = bg + 1 := rfl
  refine z_aload_n C dX8_plainTells_6 rfl 0 rfl ?_
  refine z_iload_n C dX8_plainTells_7 rfl 1 rfl ?_
  refine z_iload_n C dX8_plainTells_8 rfl 2 rfl ?_
  refine z_callVi C hm cl_X8_355 cv_X8_knowsAct 82 (by decide) sh82 ⟨_, _, rfl⟩ [.int (nI t), .int x] rfl (rest := []) rfl (k_X8_knowsAct w _ _ k l ((mPut 12 (bg, I 118)).1) t x hk7 ht16 (by exact hkk) (by exact hll) (by first | exact hbg | rfl) (by omega)) ⟨rfl, rfl, Nat.le_of_ble_eq_true rfl, Nat.le_of_ble_eq_true rfl⟩ (Nat.le_of_ble_eq_true rfl) dX8_plainTells_9 (fun v_2 I_2 J_2 h_2 => ?_)
  obtain ⟨ev_2, ei_2, ej_2⟩ := h_2
  replace ev_2 := ev_2.symm; subst ev_2
  replace ei_2 := ei_2.symm; subst ei_2
  replace ej_2 := ej_2.symm; subst ej_2
  refine z_ti (y := (mKA k (nI t) l x (mPut 12 (bg, I 118))).1) rfl ?_
  refine z_I (I' := zup (zup I 118 (mKA k (nI t) l x (mPut 12 (bg, I 118))).2.2) 82 (upd (I 82) 52 (nI (mKA k (nI t) l x (mPut 12 (bg, I 118))).2.1))) (by funext zk; by_cases h1 : zk = 82 <;> by_cases h2 : zk = 118 <;> simp [zup, h1, h2, upd_2]) ?_
  have hb_2 : (mKA k (nI t) l x (mPut 12 (bg, I 118))).2.1 ≤ ((mPut 12 (bg, I 118))).1 + 5 := mKA_c
  have hd_2 : ((mPut 12 (bg, I 118))).1 = ((mPut 12 (bg, I 118)).1) := rfl
  refine z_iconst C (v := 2) dX8_plainTells_12 (by decide) ?_
  refine z_imul C dX8_plainTells_13 ?_
  refine z_iret C hr rfl dX8_plainTells_14 ?_
  refine ⟨_, rfl, ?_⟩
  exact ⟨rfl, rfl, rfl⟩
abbrev rm_X8_knownTells : Room := { frames := 11, cells := 0, slots := 0, locals := 354 }
set_option maxRecDepth 100000 in
set_option maxHeartbeats 4000000 in
theorem k_X8_knownTells (w : zW) (I : zI) (J : zJ) (k : Nat) (l : Int32) (bg : Nat) (t : Nat) (x : Int32) (hk7 : k < 7) (ht16 : t < 16) (hkk : I 100 t = nI k) (hll : I 104 t = l) (hbg : I 82 52 = nI bg) (hb1 : bg ≤ 9800) : zMet yX8_knownTells cX8_knownTells 4 (some .int) rm_X8_knownTells w [.ref (zad w 82), .int (nI t), .int x] I J (zpi (fun v I' J' => v = (mKT k (nI t) l x (bg, I 118)).1 ∧ I' = zup (zup I 118 (mKT k (nI t) l x (bg, I 118)).2.2) 82 (upd (I 82) 52 (nI (mKT k (nI t) l x (bg, I 118)).2.1)) ∧ J' = J)) := by
  refine zMet_of (by decide) (Nat.le_of_ble_eq_true rfl) (fun X C hm hr => ?_)
  refine z_sub (lv' := [(0, .ref (zad w 82)), (1, .int (nI t)), (2, .int x)]) [0, 1, 2] rfl ?_
  refine z_aload_n C dX8_knownTells_0 rfl 0 rfl ?_
  refine z_bipush C (v := 40) dX8_knownTells_1 (by decide) ?_
  refine z_callVv C hm cl_X8_340 cv_X8_body 82 (by decide) sh82 ⟨_, _, rfl⟩ [.int 40] rfl (rest := []) rfl (k_X8_body w _ _ bg (40) (by first | exact hbg | rfl) (by omega)) ⟨rfl, rfl, Nat.le_of_ble_eq_true rfl, Nat.le_of_ble_eq_true rfl⟩ (Nat.le_of_ble_eq_true rfl) dX8_knownTells_3 (fun I_1 J_1 h_1 => ?_)
  obtain ⟨ei_1, ej_1⟩ := h_1
  replace ei_1 := ei_1.symm; subst ei_1
  replace ej_1 := ej_1.symm; subst ej_1
  refine z_I (I' := zup (zup I 118 (mPut 40 (bg, I 118)).2) 82 (upd (I 82) 52 (nI (mPut 40 (bg, I 118)).1))) (by funext zk; by_cases h1 : zk = 82 <;> by_cases h2 : zk = 118 <;> simp [zup, h1, h2, upd_2, mPut]) ?_
  have hb_1 : (mPut 40 (bg, I 118)).1 = bg + 1 := rfl
  refine z_aload_n C dX8_knownTells_6 rfl 0 rfl ?_
  refine z_iload_n C dX8_knownTells_7 rfl 1 rfl ?_
  refine z_iload_n C dX8_knownTells_8 rfl 2 rfl ?_
  refine z_callVi C hm cl_X8_358 cv_X8_plainTells 82 (by decide) sh82 ⟨_, _, rfl⟩ [.int (nI t), .int x] rfl (rest := []) rfl (k_X8_plainTells w _ _ k l ((mPut 40 (bg, I 118)).1) t x hk7 ht16 (by exact hkk) (by exact hll) (by first | exact hbg | rfl) (by omega)) ⟨rfl, rfl, Nat.le_of_ble_eq_true rfl, Nat.le_of_ble_eq_true rfl⟩ (Nat.le_of_ble_eq_true rfl) dX8_knownTells_9 (fun v_2 I_2 J_2 h_2 => ?_)
  obtain ⟨ev_2, ei_2, ej_2⟩ := h_2
  replace ev_2 := ev_2.symm; subst ev_2
  replace ei_2 := ei_2.symm; subst ei_2
  replace ej_2 := ej_2.symm; subst ej_2
  refine z_ti (y := (mPT k (nI t) l x (mPut 40 (bg, I 118))).1) rfl ?_
  refine z_I (I' := zup (zup I 118 (mPT k (nI t) l x (mPut 40 (bg, I 118))).2.2) 82 (upd (I 82) 52 (nI (mPT k (nI t) l x (mPut 40 (bg, I 118))).2.1))) (by funext zk; by_cases h1 : zk = 82 <;> by_cases h2 : zk = 118 <;> simp [zup, h1, h2, upd_2]) ?_
  have hb_2 : (mPT k (nI t) l x (mPut 40 (bg, I 118))).2.1 ≤ ((mPut 40 (bg, I 118))).1 + 6 := mPT_c
  have hd_2 : ((mPut 40 (bg, I 118))).1 = ((mPut 40 (bg, I 118)).1) := rfl
  refine z_istore_n C hm (lv' := [(3, .int ((mPT k (nI t) l x (mPut 40 (bg, I 118))).1)), (0, .ref (zad w 82)), (1, .int (nI t)), (2, .int x)]) dX8_knownTells_12 rfl (by decide) rfl ?_
  refine z_iload_n C dX8_knownTells_13 rfl 0 rfl ?_
  refine z_aload_n C dX8_knownTells_14 rfl 1 rfl ?_
  refine z_iload_n C dX8_knownTells_15 rfl 2 rfl ?_
  refine z_iconst C (v := 1) dX8_knownTells_16 (by decide) ?_
  refine z_callVi C hm cl_X8_355 cv_X8_knowsAct 82 (by decide) sh82 ⟨_, _, rfl⟩ [.int (nI t), .int 1] rfl (rest := [.int ((mPT k (nI t) l x (mPut 40 (bg, I 118))).1)]) rfl (k_X8_knowsAct w _ _ k l ((mPT k (nI t) l x (mPut 40 (bg, I 118))).2.1) t (1) hk7 ht16 (by exact hkk) (by exact hll) (by first | exact hbg | rfl) (by omega)) ⟨rfl, rfl, Nat.le_of_ble_eq_true rfl, Nat.le_of_ble_eq_true rfl⟩ (Nat.le_of_ble_eq_true rfl) dX8_knownTells_17 (fun v_3 I_3 J_3 h_3 => ?_)
  obtain ⟨ev_3, ei_3, ej_3⟩ := h_3
  replace ev_3 := ev_3.symm; subst ev_3
  replace ei_3 := ei_3.symm; subst ei_3
  replace ej_3 := ej_3.symm; subst ej_3
  refine z_ti (y := (mKA k (nI t) l (1) ((mPT k (nI t) l x (mPut 40 (bg, I 118))).2)).1) rfl ?_
  refine z_I (I' := zup (zup I 118 (mKA k (nI t) l (1) ((mPT k (nI t) l x (mPut 40 (bg, I 118))).2)).2.2) 82 (upd (I 82) 52 (nI (mKA k (nI t) l (1) ((mPT k (nI t) l x (mPut 40 (bg, I 118))).2)).2.1))) (by funext zk; by_cases h1 : zk = 82 <;> by_cases h2 : zk = 118 <;> simp [zup, h1, h2, upd_2]) ?_
  have hb_3 : (mKA k (nI t) l (1) ((mPT k (nI t) l x (mPut 40 (bg, I 118))).2)).2.1 ≤ ((mPT k (nI t) l x (mPut 40 (bg, I 118))).2).1 + 5 := mKA_c
  refine z_iadd C dX8_knownTells_20 ?_
  refine z_iret C hr rfl dX8_knownTells_21 ?_
  refine ⟨_, rfl, ?_⟩
  exact ⟨rfl, rfl, rfl⟩
abbrev rm_X8_tells : Room := { frames := 12, cells := 0, slots := 0, locals := 377 }
set_option maxRecDepth 100000 in
set_option maxHeartbeats 4000000 in
theorem k_X8_tells (w : zW) (I : zI) (J : zJ) (k : Nat) (l : Int32) (bg : Nat) (t : Nat) (x : Int32) (hk7 : k < 7) (ht16 : t < 16) (hkk : I 100 t = nI k) (hll : I 104 t = l) (hbg : I 82 52 = nI bg) (hb1 : bg ≤ 9700) : zMet yX8_tells cX8_tells 3 (some .int) rm_X8_tells w [.ref (zad w 82), .int (nI t), .int x] I J (zpi (fun v I' J' => v = (mTe k (nI t) l x (bg, I 118)).1 ∧ I' = zup (zup I 118 (mTe k (nI t) l x (bg, I 118)).2.2) 82 (upd (I 82) 52 (nI (mTe k (nI t) l x (bg, I 118)).2.1)) ∧ J' = J)) := by
  refine zMet_of (by decide) (Nat.le_of_ble_eq_true rfl) (fun X C hm hr => ?_)
  refine z_sub (lv' := [(0, .ref (zad w 82)), (1, .int (nI t)), (2, .int x)]) [0, 1, 2] rfl ?_
  refine z_aload_n C dX8_tells_0 rfl 0 rfl ?_
  refine z_getr C ff_X8_96 82 (by decide) sh82 rfl dX8_tells_1 ?_
  refine z_iload_n C dX8_tells_4 rfl 1 rfl ?_
  refine z_iald C 100 (by decide) sh100 t (by omega) (by decide) rfl (v := nI k) hkk dX8_tells_5 ?_
  by_cases c6_3 : nI k = 3
  · skip
    refine z_tableIn (tgt := 36) C dX8_tells_6 (by rw [c6_3]; decide) (by rw [c6_3]; decide) (off := 30) (by rw [c6_3]; decide) (by decide) ?_
    refine z_aload_n C dX8_tells_36 rfl 0 rfl ?_
    refine z_iload_n C dX8_tells_37 rfl 1 rfl ?_
    refine z_iload_n C dX8_tells_38 rfl 2 rfl ?_
    refine z_callVi C hm cl_X8_361 cv_X8_knownTells 82 (by decide) sh82 ⟨_, _, rfl⟩ [.int (nI t), .int x] rfl (rest := []) rfl (k_X8_knownTells w _ _ k l bg t x hk7 ht16 (by exact hkk) (by exact hll) (by first | exact hbg | rfl) (by omega)) ⟨rfl, rfl, Nat.le_of_ble_eq_true rfl, Nat.le_of_ble_eq_true rfl⟩ (Nat.le_of_ble_eq_true rfl) dX8_tells_39 (fun v_1 I_1 J_1 h_1 => ?_)
    obtain ⟨ev_1, ei_1, ej_1⟩ := h_1
    replace ev_1 := ev_1.symm; subst ev_1
    replace ei_1 := ei_1.symm; subst ei_1
    replace ej_1 := ej_1.symm; subst ej_1
    refine z_ti (y := (mKT k (nI t) l x (bg, I 118)).1) rfl ?_
    refine z_I (I' := zup (zup I 118 (mKT k (nI t) l x (bg, I 118)).2.2) 82 (upd (I 82) 52 (nI (mKT k (nI t) l x (bg, I 118)).2.1))) (by funext zk; by_cases h1 : zk = 82 <;> by_cases h2 : zk = 118 <;> simp [zup, h1, h2, upd_2]) ?_
    have hb_1 : (mKT k (nI t) l x (bg, I 118)).2.1 ≤ ((bg, I 118)).1 + 12 := mKT_c
    have hd_1 : ((bg, I 118)).1 = bg := rfl
    refine z_iret C hr rfl dX8_tells_42 ?_
    refine ⟨_, rfl, ?_⟩
    exact ⟨by unfold mTe; rw [if_pos (Or.inl (show k = 3 from (nI_eq (b := 3) (by omega) (by decide)).mp c6_3))], by unfold mTe; rw [if_pos (Or.inl (show k = 3 from (nI_eq (b := 3) (by omega) (by decide)).mp c6_3))], rfl⟩
  by_cases c6_4 : nI k = 4
  · skip
    refine z_tableIn (tgt := 58) C dX8_tells_6 (by rw [c6_4]; decide) (by rw [c6_4]; decide) (off := 52) (by rw [c6_4]; decide) (by decide) ?_
    refine z_aload_n C dX8_tells_58 rfl 0 rfl ?_
    refine z_iload_n C dX8_tells_59 rfl 1 rfl ?_
    refine z_iload_n C dX8_tells_60 rfl 2 rfl ?_
    refine z_callVi C hm cl_X8_358 cv_X8_plainTells 82 (by decide) sh82 ⟨_, _, rfl⟩ [.int (nI t), .int x] rfl (rest := []) rfl (k_X8_plainTells w _ _ k l bg t x hk7 ht16 (by exact hkk) (by exact hll) (by first | exact hbg | rfl) (by omega)) ⟨rfl, rfl, Nat.le_of_ble_eq_true rfl, Nat.le_of_ble_eq_true rfl⟩ (Nat.le_of_ble_eq_true rfl) dX8_tells_61 (fun v_2 I_2 J_2 h_2 => ?_)
    obtain ⟨ev_2, ei_2, ej_2⟩ := h_2
    replace ev_2 := ev_2.symm; subst ev_2
    replace ei_2 := ei_2.symm; subst ei_2
    replace ej_2 := ej_2.symm; subst ej_2
    refine z_ti (y := (mPT k (nI t) l x (bg, I 118)).1) rfl ?_
    refine z_I (I' := zup (zup I 118 (mPT k (nI t) l x (bg, I 118)).2.2) 82 (upd (I 82) 52 (nI (mPT k (nI t) l x (bg, I 118)).2.1))) (by funext zk; by_cases h1 : zk = 82 <;> by_cases h2 : zk = 118 <;> simp [zup, h1, h2, upd_2]) ?_
    have hb_2 : (mPT k (nI t) l x (bg, I 118)).2.1 ≤ ((bg, I 118)).1 + 6 := mPT_c
    have hd_2 : ((bg, I 118)).1 = bg := rfl
    refine z_iret C hr rfl dX8_tells_64 ?_
    refine ⟨_, rfl, ?_⟩
    exact ⟨by unfold mTe; rw [if_neg (by have := (show k = 4 from (nI_eq (b := 4) (by omega) (by decide)).mp c6_4); omega), if_neg (by have := (show k = 4 from (nI_eq (b := 4) (by omega) (by decide)).mp c6_4); omega)], by unfold mTe; rw [if_neg (by have := (show k = 4 from (nI_eq (b := 4) (by omega) (by decide)).mp c6_4); omega), if_neg (by have := (show k = 4 from (nI_eq (b := 4) (by omega) (by decide)).mp c6_4); omega)], rfl⟩
  by_cases c6_5 : nI k = 5
  · skip
    refine z_tableIn (tgt := 43) C dX8_tells_6 (by rw [c6_5]; decide) (by rw [c6_5]; decide) (off := 37) (by rw [c6_5]; decide) (by decide) ?_
    refine z_aload_n C dX8_tells_43 rfl 0 rfl ?_
    refine z_bipush C (v := 60) dX8_tells_44 (by decide) ?_
    refine z_callVv C hm cl_X8_340 cv_X8_body 82 (by decide) sh82 ⟨_, _, rfl⟩ [.int 60] rfl (rest := []) rfl (k_X8_body w _ _ bg (60) (by first | exact hbg | rfl) (by omega)) ⟨rfl, rfl, Nat.le_of_ble_eq_true rfl, Nat.le_of_ble_eq_true rfl⟩ (Nat.le_of_ble_eq_true rfl) dX8_tells_46 (fun I_3 J_3 h_3 => ?_)
    obtain ⟨ei_3, ej_3⟩ := h_3
    replace ei_3 := ei_3.symm; subst ei_3
    replace ej_3 := ej_3.symm; subst ej_3
    refine z_I (I' := zup (zup I 118 (mPut 60 (bg, I 118)).2) 82 (upd (I 82) 52 (nI (mPut 60 (bg, I 118)).1))) (by funext zk; by_cases h1 : zk = 82 <;> by_cases h2 : zk = 118 <;> simp [zup, h1, h2, upd_2, mPut]) ?_
    have hb_3 : (mPut 60 (bg, I 118)).1 = bg + 1 := rfl
    refine z_aload_n C dX8_tells_49 rfl 0 rfl ?_
    refine z_iload_n C dX8_tells_50 rfl 1 rfl ?_
    refine z_iload_n C dX8_tells_51 rfl 2 rfl ?_
    refine z_iload_n C dX8_tells_52 rfl 1 rfl ?_
    refine z_isub C dX8_tells_53 ?_
    refine z_callVi C hm cl_X8_361 cv_X8_knownTells 82 (by decide) sh82 ⟨_, _, rfl⟩ [.int (nI t), .int (x - (nI t))] rfl (rest := []) rfl (k_X8_knownTells w _ _ k l ((mPut 60 (bg, I 118)).1) t (x - (nI t)) hk7 ht16 (by exact hkk) (by exact hll) (by first | exact hbg | rfl) (by omega)) ⟨rfl, rfl, Nat.le_of_ble_eq_true rfl, Nat.le_of_ble_eq_true rfl⟩ (Nat.le_of_ble_eq_true rfl) dX8_tells_54 (fun v_4 I_4 J_4 h_4 => ?_)
    obtain ⟨ev_4, ei_4, ej_4⟩ := h_4
    replace ev_4 := ev_4.symm; subst ev_4
    replace ei_4 := ei_4.symm; subst ei_4
    replace ej_4 := ej_4.symm; subst ej_4
    refine z_ti (y := (mKT k (nI t) l (x - (nI t)) (mPut 60 (bg, I 118))).1) rfl ?_
    refine z_I (I' := zup (zup I 118 (mKT k (nI t) l (x - (nI t)) (mPut 60 (bg, I 118))).2.2) 82 (upd (I 82) 52 (nI (mKT k (nI t) l (x - (nI t)) (mPut 60 (bg, I 118))).2.1))) (by funext zk; by_cases h1 : zk = 82 <;> by_cases h2 : zk = 118 <;> simp [zup, h1, h2, upd_2]) ?_
    have hb_4 : (mKT k (nI t) l (x - (nI t)) (mPut 60 (bg, I 118))).2.1 ≤ ((mPut 60 (bg, I 118))).1 + 12 := mKT_c
    have hd_4 : ((mPut 60 (bg, I 118))).1 = ((mPut 60 (bg, I 118)).1) := rfl
    refine z_iret C hr rfl dX8_tells_57 ?_
    refine ⟨_, rfl, ?_⟩
    exact ⟨by unfold mTe; rw [if_neg (by have := (show k = 5 from (nI_eq (b := 5) (by omega) (by decide)).mp c6_5); omega), if_pos (show k = 5 from (nI_eq (b := 5) (by omega) (by decide)).mp c6_5)], by unfold mTe; rw [if_neg (by have := (show k = 5 from (nI_eq (b := 5) (by omega) (by decide)).mp c6_5); omega), if_pos (show k = 5 from (nI_eq (b := 5) (by omega) (by decide)).mp c6_5)], rfl⟩
  by_cases c6_6 : nI k = 6
  · skip
    refine z_tableIn (tgt := 36) C dX8_tells_6 (by rw [c6_6]; decide) (by rw [c6_6]; decide) (off := 30) (by rw [c6_6]; decide) (by decide) ?_
    refine z_aload_n C dX8_tells_36 rfl 0 rfl ?_
    refine z_iload_n C dX8_tells_37 rfl 1 rfl ?_
    refine z_iload_n C dX8_tells_38 rfl 2 rfl ?_
    refine z_callVi C hm cl_X8_361 cv_X8_knownTells 82 (by decide) sh82 ⟨_, _, rfl⟩ [.int (nI t), .int x] rfl (rest := []) rfl (k_X8_knownTells w _ _ k l bg t x hk7 ht16 (by exact hkk) (by exact hll) (by first | exact hbg | rfl) (by omega)) ⟨rfl, rfl, Nat.le_of_ble_eq_true rfl, Nat.le_of_ble_eq_true rfl⟩ (Nat.le_of_ble_eq_true rfl) dX8_tells_39 (fun v_5 I_5 J_5 h_5 => ?_)
    obtain ⟨ev_5, ei_5, ej_5⟩ := h_5
    replace ev_5 := ev_5.symm; subst ev_5
    replace ei_5 := ei_5.symm; subst ei_5
    replace ej_5 := ej_5.symm; subst ej_5
    refine z_ti (y := (mKT k (nI t) l x (bg, I 118)).1) rfl ?_
    refine z_I (I' := zup (zup I 118 (mKT k (nI t) l x (bg, I 118)).2.2) 82 (upd (I 82) 52 (nI (mKT k (nI t) l x (bg, I 118)).2.1))) (by funext zk; by_cases h1 : zk = 82 <;> by_cases h2 : zk = 118 <;> simp [zup, h1, h2, upd_2]) ?_
    have hb_5 : (mKT k (nI t) l x (bg, I 118)).2.1 ≤ ((bg, I 118)).1 + 12 := mKT_c
    have hd_5 : ((bg, I 118)).1 = bg := rfl
    refine z_iret C hr rfl dX8_tells_42 ?_
    refine ⟨_, rfl, ?_⟩
    exact ⟨by unfold mTe; rw [if_pos (Or.inr (show k = 6 from (nI_eq (b := 6) (by omega) (by decide)).mp c6_6))], by unfold mTe; rw [if_pos (Or.inr (show k = 6 from (nI_eq (b := 6) (by omega) (by decide)).mp c6_6))], rfl⟩
  refine z_tableOut (tgt := 58) C dX8_tells_6 (by have h0 := lv_neT c6_3 (a := 3) (by decide); have h1 := lv_neT c6_4 (a := 4) (by decide); have h2 := lv_neT c6_5 (a := 5) (by decide); have h3 := lv_neT c6_6 (a := 6) (by decide); omega) (by decide) ?_
  refine z_aload_n C dX8_tells_58 rfl 0 rfl ?_
  refine z_iload_n C dX8_tells_59 rfl 1 rfl ?_
  refine z_iload_n C dX8_tells_60 rfl 2 rfl ?_
  refine z_callVi C hm cl_X8_358 cv_X8_plainTells 82 (by decide) sh82 ⟨_, _, rfl⟩ [.int (nI t), .int x] rfl (rest := []) rfl (k_X8_plainTells w _ _ k l bg t x hk7 ht16 (by exact hkk) (by exact hll) (by first | exact hbg | rfl) (by omega)) ⟨rfl, rfl, Nat.le_of_ble_eq_true rfl, Nat.le_of_ble_eq_true rfl⟩ (Nat.le_of_ble_eq_true rfl) dX8_tells_61 (fun v_6 I_6 J_6 h_6 => ?_)
  obtain ⟨ev_6, ei_6, ej_6⟩ := h_6
  replace ev_6 := ev_6.symm; subst ev_6
  replace ei_6 := ei_6.symm; subst ei_6
  replace ej_6 := ej_6.symm; subst ej_6
  refine z_ti (y := (mPT k (nI t) l x (bg, I 118)).1) rfl ?_
  refine z_I (I' := zup (zup I 118 (mPT k (nI t) l x (bg, I 118)).2.2) 82 (upd (I 82) 52 (nI (mPT k (nI t) l x (bg, I 118)).2.1))) (by funext zk; by_cases h1 : zk = 82 <;> by_cases h2 : zk = 118 <;> simp [zup, h1, h2, upd_2]) ?_
  have hb_6 : (mPT k (nI t) l x (bg, I 118)).2.1 ≤ ((bg, I 118)).1 + 6 := mPT_c
  have hd_6 : ((bg, I 118)).1 = bg := rfl
  refine z_iret C hr rfl dX8_tells_64 ?_
  refine ⟨_, rfl, ?_⟩
  exact ⟨by unfold mTe; rw [if_neg (fun q => q.elim (show k ≠ 3 from fun q => c6_3 (by rw [q]; rfl)) (show k ≠ 6 from fun q => c6_6 (by rw [q]; rfl))), if_neg (show k ≠ 5 from fun q => c6_5 (by rw [q]; rfl))], by unfold mTe; rw [if_neg (fun q => q.elim (show k ≠ 3 from fun q => c6_3 (by rw [q]; rfl)) (show k ≠ 6 from fun q => c6_6 (by rw [q]; rfl))), if_neg (show k ≠ 5 from fun q => c6_5 (by rw [q]; rfl))], rfl⟩
abbrev rm_X8_act : Room := { frames := 13, cells := 0, slots := 0, locals := 399 }
set_option maxRecDepth 100000 in
set_option maxHeartbeats 4000000 in
theorem k_X8_act (w : zW) (I : zI) (J : zJ) (tr : Nat) (kd : Nat → Nat) (x : Int32) (y : Int32) (z : Int32) (hT : I 82 27 = nI tr) (htr : tr ≤ 16) (hKd : ∀ t, t < tr → I 100 t = nI (kd t) ∧ kd t < 7) : zMet yX8_act cX8_act 4 (some .int) rm_X8_act w [.ref (zad w 82), .int x, .int y, .int z] I J (zpi (fun v I' J' => v = cif (zin x tr ∧ zin y 3) (aPerf (kd (zn x)) x (I 104 (zn x)) 9 (kd (zn x)) (zn y) z (0, I 118)).1 0 ∧ J' = J ∧ (∀ k, k ≠ 82 → k ≠ 118 → I' k = I k) ∧ (¬ (zin x tr ∧ zin y 3) → I' = zup I 82 (upd (I 82) 52 0)) ∧ ((zin x tr ∧ zin y 3) → I' 118 = (aPerf (kd (zn x)) x (I 104 (zn x)) 9 (kd (zn x)) (zn y) z (0, I 118)).2.2 ∧ I' 82 = upd (I 82) 52 (nI (aPerf (kd (zn x)) x (I 104 (zn x)) 9 (kd (zn x)) (zn y) z (0, I 118)).2.1)))) := by
  refine zMet_of (by decide) (Nat.le_of_ble_eq_true rfl) (fun X C hm hr => ?_)
  refine z_sub (lv' := [(0, .ref (zad w 82)), (1, .int x), (2, .int y), (3, .int z)]) [0, 1, 2, 3] rfl ?_
  refine z_aload_n C dX8_act_0 rfl 0 rfl ?_
  refine z_iconst C (v := 0) dX8_act_1 (by decide) ?_
  refine z_puti C ff_X8_171 82 (by decide) sh82 rfl rfl rfl dX8_act_2 ?_
  refine z_I (I' := zup I 82 (upd (I 82) 52 0)) rfl ?_
  refine z_aload_n C dX8_act_5 rfl 0 rfl ?_
  refine z_iload_n C dX8_act_6 rfl 1 rfl ?_
  refine z_callVi C hm cl_X8_302 cv_X8_isTrade 82 (by decide) sh82 ⟨_, _, rfl⟩ [.int x] rfl (rest := []) rfl (k_X8_isTrade w _ _ tr x (by exact hT) htr) ⟨rfl, rfl, Nat.le_of_ble_eq_true rfl, Nat.le_of_ble_eq_true rfl⟩ (Nat.le_of_ble_eq_true rfl) dX8_act_7 (fun v_1 I_1 J_1 h_1 => ?_)
  obtain ⟨ev_1, ei_1, ej_1⟩ := h_1
  replace ev_1 := ev_1.symm; subst ev_1
  replace ei_1 := ei_1.symm; subst ei_1
  replace ej_1 := ej_1.symm; subst ej_1
  refine z_ifeq_b (tgt := 23) C dX8_act_10 (by decide) (fun c10 => ?_) (fun c10 => ?_)
  · skip
    refine z_iconst C (v := 0) dX8_act_23 (by decide) ?_
    refine z_iret C hr rfl dX8_act_24 ?_
    refine ⟨_, rfl, ?_⟩
    exact ⟨by rw [cif_f (fun q => c10 q.1)], rfl, fun k h1 h2 => by rw [zup_n h1], fun _ => rfl, fun q => absurd q (fun q => c10 q.1)⟩
  · skip
    obtain ⟨t, ht, rfl⟩ := c10
    refine z_aload_n C dX8_act_13 rfl 0 rfl ?_
    refine z_iload_n C dX8_act_14 rfl 2 rfl ?_
    refine z_iconst C (v := 0) dX8_act_15 (by decide) ?_
    refine z_iconst C (v := 2) dX8_act_16 (by decide) ?_
    refine z_callVi C hm cl_X8_189 cv_X8_in 82 (by decide) sh82 ⟨_, _, rfl⟩ [.int y, .int 0, .int 2] rfl (rest := []) rfl (k_X8_in w _ _ y (0) (2)) ⟨rfl, rfl, Nat.le_of_ble_eq_true rfl, Nat.le_of_ble_eq_true rfl⟩ (Nat.le_of_ble_eq_true rfl) dX8_act_17 (fun v_2 I_2 J_2 h_2 => ?_)
    obtain ⟨ev_2, ei_2, ej_2⟩ := h_2
    replace ei_2 := ei_2.symm; subst ei_2
    replace ej_2 := ej_2.symm; subst ej_2
    replace ev_2 := ev_2.trans (bI_c (in_z (m := 2) (by decide))); subst ev_2
    refine z_ifne_b (tgt := 25) C dX8_act_20 (by decide) (fun c20 => ?_) (fun c20 => ?_)
    · skip
      obtain ⟨a, ha, rfl⟩ := c20
      refine z_iload_n C dX8_act_25 rfl 2 rfl ?_
      refine z_if_ne (tgt := 38) C dX8_act_26 (by decide) (fun c26 => ?_) (fun c26 => ?_)
      · skip
        have ha0 : a ≠ 0 := fun q => c26 (by rw [q]; rfl)
        refine z_iload_n C dX8_act_38 rfl 2 rfl ?_
        refine z_iconst C (v := 1) dX8_act_39 (by decide) ?_
        refine z_icmp_ne_n a 1 (tgt := 52) C rfl rfl (by omega) (by omega) dX8_act_40 (by decide) (fun c40 => ?_) (fun c40 => ?_)
        · skip
          refine z_aload_n C dX8_act_52 rfl 0 rfl ?_
          refine z_iload_n C dX8_act_53 rfl 1 rfl ?_
          refine z_iload_n C dX8_act_54 rfl 3 rfl ?_
          refine z_callVi C hm cl_X8_364 cv_X8_tells 82 (by decide) sh82 ⟨_, _, rfl⟩ [.int (nI t), .int z] rfl (rest := []) rfl (k_X8_tells w _ _ (kd t) (I 104 t) 0 t z (hKd t ht).2 (by omega) (by exact (hKd t ht).1) (by exact rfl) (by exact rfl) (by decide)) ⟨rfl, rfl, Nat.le_of_ble_eq_true rfl, Nat.le_of_ble_eq_true rfl⟩ (Nat.le_of_ble_eq_true rfl) dX8_act_55 (fun v_3 I_3 J_3 h_3 => ?_)
          obtain ⟨ev_3, ei_3, ej_3⟩ := h_3
          replace ev_3 := ev_3.symm; subst ev_3
          replace ei_3 := ei_3.symm; subst ei_3
          replace ej_3 := ej_3.symm; subst ej_3
          refine z_I (I' := zup (zup I 118 (mTe (kd t) (nI t) (I 104 t) z (0, I 118)).2.2) 82 (upd (I 82) 52 (nI (mTe (kd t) (nI t) (I 104 t) z (0, I 118)).2.1))) (by funext zk; by_cases h1 : zk = 82 <;> by_cases h2 : zk = 118 <;> simp [zup, h1, h2, upd_2]) ?_
          refine z_iret C hr rfl dX8_act_58 ?_
          refine ⟨_, rfl, ?_⟩
          have hae : a = 2 := by omega
          have hAP : aPerf (kd t) (nI t) (I 104 t) 9 (kd t) a z (0, I 118) = mTe (kd t) (nI t) (I 104 t) z (0, I 118) := by rw [hae]; exact act_2 (kd t) (hKd t ht).2
          exact ⟨by rw [cif_t ⟨⟨t, ht, rfl⟩, ⟨a, ha, rfl⟩⟩, zn_n (by omega), zn_n (by omega), hAP]; rfl, rfl, fun k h1 h2 => by rw [zup_n h1, zup_n h2], fun q => absurd ⟨⟨t, ht, rfl⟩, ⟨a, ha, rfl⟩⟩ q, fun _ => ⟨by rw [zn_n (by omega), zn_n (by omega), hAP]; rfl, by rw [zn_n (by omega), zn_n (by omega), hAP]; rfl⟩⟩
        · skip
          refine z_aload_n C dX8_act_43 rfl 0 rfl ?_
          refine z_iload_n C dX8_act_44 rfl 1 rfl ?_
          refine z_iload_n C dX8_act_45 rfl 3 rfl ?_
          refine z_callVi C hm cl_X8_355 cv_X8_knowsAct 82 (by decide) sh82 ⟨_, _, rfl⟩ [.int (nI t), .int z] rfl (rest := []) rfl (k_X8_knowsAct w _ _ (kd t) (I 104 t) 0 t z (hKd t ht).2 (by omega) (by exact (hKd t ht).1) (by exact rfl) (by exact rfl) (by decide)) ⟨rfl, rfl, Nat.le_of_ble_eq_true rfl, Nat.le_of_ble_eq_true rfl⟩ (Nat.le_of_ble_eq_true rfl) dX8_act_46 (fun v_4 I_4 J_4 h_4 => ?_)
          obtain ⟨ev_4, ei_4, ej_4⟩ := h_4
          replace ev_4 := ev_4.symm; subst ev_4
          replace ei_4 := ei_4.symm; subst ei_4
          replace ej_4 := ej_4.symm; subst ej_4
          refine z_I (I' := zup (zup I 118 (mKA (kd t) (nI t) (I 104 t) z (0, I 118)).2.2) 82 (upd (I 82) 52 (nI (mKA (kd t) (nI t) (I 104 t) z (0, I 118)).2.1))) (by funext zk; by_cases h1 : zk = 82 <;> by_cases h2 : zk = 118 <;> simp [zup, h1, h2, upd_2]) ?_
          refine z_goto (tgt := 58) C dX8_act_49 (by decide) ?_
          refine z_iret C hr rfl dX8_act_58 ?_
          refine ⟨_, rfl, ?_⟩
          have hae : a = 1 := by omega
          have hAP : aPerf (kd t) (nI t) (I 104 t) 9 (kd t) a z (0, I 118) = mKA (kd t) (nI t) (I 104 t) z (0, I 118) := by rw [hae]; exact act_1 (kd t) (hKd t ht).2
          exact ⟨by rw [cif_t ⟨⟨t, ht, rfl⟩, ⟨a, ha, rfl⟩⟩, zn_n (by omega), zn_n (by omega), hAP]; rfl, rfl, fun k h1 h2 => by rw [zup_n h1, zup_n h2], fun q => absurd ⟨⟨t, ht, rfl⟩, ⟨a, ha, rfl⟩⟩ q, fun _ => ⟨by rw [zn_n (by omega), zn_n (by omega), hAP]; rfl, by rw [zn_n (by omega), zn_n (by omega), hAP]; rfl⟩⟩
      · skip
        have ha0 : a = 0 := (nI_0eq (by omega)).mp c26
        refine z_aload_n C dX8_act_29 rfl 0 rfl ?_
        refine z_iload_n C dX8_act_30 rfl 1 rfl ?_
        refine z_iload_n C dX8_act_31 rfl 3 rfl ?_
        refine z_callVi C hm cl_X8_346 cv_X8_buys 82 (by decide) sh82 ⟨_, _, rfl⟩ [.int (nI t), .int z] rfl (rest := []) rfl (k_X8_buys w _ _ (kd t) (I 104 t) 0 t z (hKd t ht).2 (by omega) (by exact (hKd t ht).1) (by exact rfl) (by exact rfl) (by decide)) ⟨rfl, rfl, Nat.le_of_ble_eq_true rfl, Nat.le_of_ble_eq_true rfl⟩ (Nat.le_of_ble_eq_true rfl) dX8_act_32 (fun v_5 I_5 J_5 h_5 => ?_)
        obtain ⟨ev_5, ei_5, ej_5⟩ := h_5
        replace ev_5 := ev_5.symm; subst ev_5
        replace ei_5 := ei_5.symm; subst ei_5
        replace ej_5 := ej_5.symm; subst ej_5
        refine z_I (I' := zup (zup I 118 (mBu (kd t) (nI t) (I 104 t) z (0, I 118)).2.2) 82 (upd (I 82) 52 (nI (mBu (kd t) (nI t) (I 104 t) z (0, I 118)).2.1))) (by funext zk; by_cases h1 : zk = 82 <;> by_cases h2 : zk = 118 <;> simp [zup, h1, h2, upd_2]) ?_
        refine z_goto (tgt := 58) C dX8_act_35 (by decide) ?_
        refine z_iret C hr rfl dX8_act_58 ?_
        refine ⟨_, rfl, ?_⟩
        have hae : a = 0 := by omega
        have hAP : aPerf (kd t) (nI t) (I 104 t) 9 (kd t) a z (0, I 118) = mBu (kd t) (nI t) (I 104 t) z (0, I 118) := by rw [hae]; exact act_0 (kd t) (hKd t ht).2
        exact ⟨by rw [cif_t ⟨⟨t, ht, rfl⟩, ⟨a, ha, rfl⟩⟩, zn_n (by omega), zn_n (by omega), hAP]; rfl, rfl, fun k h1 h2 => by rw [zup_n h1, zup_n h2], fun q => absurd ⟨⟨t, ht, rfl⟩, ⟨a, ha, rfl⟩⟩ q, fun _ => ⟨by rw [zn_n (by omega), zn_n (by omega), hAP]; rfl, by rw [zn_n (by omega), zn_n (by omega), hAP]; rfl⟩⟩
    · skip
      refine z_iconst C (v := 0) dX8_act_23 (by decide) ?_
      refine z_iret C hr rfl dX8_act_24 ?_
      refine ⟨_, rfl, ?_⟩
      exact ⟨by rw [cif_f (fun q => c20 q.2)], rfl, fun k h1 h2 => by rw [zup_n h1], fun _ => rfl, fun q => absurd q (fun q => c20 q.2)⟩
