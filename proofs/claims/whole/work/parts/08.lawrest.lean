theorem mn100 {k : Nat} (h : k < 2 ^ 31) : (if (100 : Int32) < nI k then (100 : Int32) else nI k) = nI (min k 100) := by
  show (if nI 100 < nI k then nI 100 else nI k) = _
  by_cases q : 100 < k
  · rw [if_pos ((nI_ltI (a := 100) (by decide) h).mpr q), Nat.min_eq_right (by omega)]
  · rw [if_neg (fun z => q ((nI_ltI (a := 100) (by decide) h).mp z)), Nat.min_eq_left (by omega)]
theorem mn9 {k : Nat} (h : k < 2 ^ 31) : (if (9 : Int32) < nI k then (9 : Int32) else nI k) = nI (min k 9) := by
  show (if nI 9 < nI k then nI 9 else nI k) = _
  by_cases q : 9 < k
  · rw [if_pos ((nI_ltI (a := 9) (by decide) h).mpr q), Nat.min_eq_right (by omega)]
  · rw [if_neg (fun z => q ((nI_ltI (a := 9) (by decide) h).mp z)), Nat.min_eq_left (by omega)]
theorem aLast_le {w u m : Nat} : ∀ {A : List zCla}, (∀ q ∈ A, q.2.1 ≤ m) → u ≤ m → aLast w A u ≤ m
  | [], _, h => h
  | q :: A, h, hu => by
    rw [aLast]
    refine aLast_le (fun q hq => h q (List.mem_cons_of_mem _ hq)) ?_
    split
    · exact h q List.mem_cons_self
    · exact hu
abbrev rm_X1_hoursOf : Room := { frames := 6, cells := 0, slots := 0, locals := 256 }
set_option maxRecDepth 100000 in
set_option maxHeartbeats 4000000 in
theorem k_X1_hoursOf (w : zW) (I : zI) (J : zJ) (i : Nat) (A : List zCla) (a : Int32) (b : Int32) (s : Int32) (hi : i < 7) (hL : cLaw I i A) : zMet yX1_hoursOf cX1_hoursOf 5 (some .int) rm_X1_hoursOf w [.ref (zad w (47 + 5 * i)), .int a, .int b, .int s] I J (zpi (fun v I' J' => v = oI (aWay a b s A) ∧ I' = I ∧ J' = J)) := by
  refine zMet_of (by decide) (Nat.le_of_ble_eq_true rfl) (fun X C hm hr => ?_)
  refine z_sub (lv' := [(0, .ref (zad w (47 + 5 * i))), (1, .int a), (2, .int b), (3, .int s)]) [0, 1, 2, 3] rfl ?_
  obtain ⟨⟨hA1, hA2⟩, hcl, e, he0, heB, hcA⟩ := id hL
  refine z_iconst C (v := 0) dX1_hoursOf_0 (by decide) ?_
  refine z_istore C hm (lv' := [(4, .int 0), (0, .ref (zad w (47 + 5 * i))), (1, .int a), (2, .int b), (3, .int s)]) dX1_hoursOf_1 (by decide) rfl ?_
  have L3 : ∀ (d : Nat) (k : Nat) (v3_4 : Int32), (A.length - k) < d → (k ≤ A.length) → (aWay a b s (A.drop k) = aWay a b s A) → v3_4 = nI k → Z X w I J 3 [(0, .ref (zad w (47 + 5 * i))), (1, .int a), (2, .int b), (3, .int s), (4, .int v3_4)] [] := by
    intro d
    induction d with
    | zero => intro k v3_4 hd; exact absurd hd (Nat.not_lt_zero _)
    | succ d ih3 => 
      intro k v3_4 hd3 hk hR e_v3_4
      replace e_v3_4 := e_v3_4.symm; subst e_v3_4
      refine z_iload C dX1_hoursOf_3 4 rfl ?_
      refine z_aload_n C dX1_hoursOf_5 rfl 0 rfl ?_
      refine z_geti C ff_X1_24 (47 + 5 * i) (shLn0 hi) (shL0 hi) rfl (v := nI A.length) hcl dX1_hoursOf_6 ?_
      refine z_icmp_ge_n k A.length (tgt := 50) C rfl rfl (by omega) (by omega) dX1_hoursOf_9 (by decide) (fun c9 => ?_) (fun c9 => ?_)
      · skip
        have hkk : k = A.length := by omega
        rw [hkk, List.drop_length] at hR
        refine z_bipush C (v := -5) dX1_hoursOf_50 (by decide) ?_
        refine z_iret C hr rfl dX1_hoursOf_52 ?_
        refine ⟨_, rfl, ?_⟩
        exact ⟨by rw [← hR]; rfl, rfl, rfl⟩
      · skip
        have hkl : k < A.length := by omega
        obtain ⟨w1, w2, w3, w4⟩ := hcA k hkl
        obtain ⟨hq1, hq2, hq3⟩ := hA2 _ (getD_mem dCl hkl)
        rw [drop_at dCl hkl] at hR
        refine z_aload_n C dX1_hoursOf_12 rfl 0 rfl ?_
        refine z_getr C ff_X1_9 (47 + 5 * i) (shLn0 hi) (shL0 hi) rfl dX1_hoursOf_13 ?_
        refine z_iload C dX1_hoursOf_16 4 rfl ?_
        refine z_iald C (47 + 5 * i + 1) (shLn1 hi) (shL1 hi) k (by omega) (by decide) rfl (v := nI ((A.getD k dCl).1)) w1 dX1_hoursOf_18 ?_
        refine z_if_ne (tgt := 44) C dX1_hoursOf_19 (by decide) (fun c19 => ?_) (fun c19 => ?_)
        · skip
          refine z_iinc C hm 4 (v := nI (k + 1)) (lv' := [(4, .int (nI (k + 1))), (0, .ref (zad w (47 + 5 * i))), (1, .int a), (2, .int b), (3, .int s)]) dX1_hoursOf_44 rfl (nI_add k 1) (by decide) rfl ?_
          refine z_goto (tgt := 3) C dX1_hoursOf_47 (by decide) ?_
          exact z_sub [1, 2, 3, 4, 0] rfl (ih3  (k + 1) _ (by omega) (by omega) (by rw [aWay, if_neg (fun q => c19 (by rw [q.1]; rfl))] at hR; exact hR) rfl)
        · skip
          have hz : (A.getD k dCl).1 = 0 := (nI_eq (b := 0) (by omega) (by decide)).mp c19
          obtain ⟨w5, w6⟩ := w4 (by omega)
          obtain ⟨hok, hev⟩ := hq3 (by omega)
          obtain ⟨r, hr1⟩ := hev (zenv a b s 0 0)
          refine z_aload_n C dX1_hoursOf_22 rfl 0 rfl ?_
          refine z_iload C dX1_hoursOf_23 4 rfl ?_
          refine z_iload_n C dX1_hoursOf_25 rfl 1 rfl ?_
          refine z_iload_n C dX1_hoursOf_26 rfl 2 rfl ?_
          refine z_iload_n C dX1_hoursOf_27 rfl 3 rfl ?_
          refine z_iconst C (v := 0) dX1_hoursOf_28 (by decide) ?_
          refine z_iconst C (v := 0) dX1_hoursOf_29 (by decide) ?_
          refine z_callVi C hm cl_X1_31 cv_X1_holds (47 + 5 * i) (shLn0 hi) (shL0 hi) ⟨_, _, rfl⟩ [.int (nI k), .int a, .int b, .int s, .int 0, .int 0] rfl (rest := []) rfl (k_X1_holds w _ _ i k (e k) (A.getD k dCl).2.2 r (nI k) a b s (0) (0) hi rfl (by omega) (fun q => by rw [q]; exact he0) (fun j q => by subst q; exact (hcA j (by omega)).2.2.1) (by rw [w5]; exact w3) (by rw [w5]; exact heB _ (by omega)) w6 hok hr1) ⟨rfl, rfl, Nat.le_of_ble_eq_true rfl, Nat.le_of_ble_eq_true rfl⟩ (Nat.le_of_ble_eq_true rfl) dX1_hoursOf_30 (fun v_1 I_1 J_1 h_1 => ?_)
          obtain ⟨ev_1, ei_1, ej_1⟩ := h_1
          replace ev_1 := ev_1.symm; subst ev_1
          replace ei_1 := ei_1.symm; subst ei_1
          replace ej_1 := ej_1.symm; subst ej_1
          refine z_ifeq_b (tgt := 44) C dX1_hoursOf_33 (by decide) (fun c33 => ?_) (fun c33 => ?_)
          · skip
            refine z_iinc C hm 4 (v := nI (k + 1)) (lv' := [(4, .int (nI (k + 1))), (0, .ref (zad w (47 + 5 * i))), (1, .int a), (2, .int b), (3, .int s)]) dX1_hoursOf_44 rfl (nI_add k 1) (by decide) rfl ?_
            refine z_goto (tgt := 3) C dX1_hoursOf_47 (by decide) ?_
            exact z_sub [1, 2, 3, 4, 0] rfl (ih3  (k + 1) _ (by omega) (by omega) (by rw [aWay, if_neg (fun q => c33 (by rw [← aHolds_of hr1]; exact q.2))] at hR; exact hR) rfl)
          · skip
            refine z_aload_n C dX1_hoursOf_36 rfl 0 rfl ?_
            refine z_getr C ff_X1_15 (47 + 5 * i) (shLn0 hi) (shL0 hi) rfl dX1_hoursOf_37 ?_
            refine z_iload C dX1_hoursOf_40 4 rfl ?_
            refine z_iald C (47 + 5 * i + 2) (shLn2 hi) (shL2 hi) k (by omega) (by decide) rfl (v := nI ((A.getD k dCl).2.1)) w2 dX1_hoursOf_42 ?_
            refine z_iret C hr rfl dX1_hoursOf_43 ?_
            refine ⟨_, rfl, ?_⟩
            exact ⟨by rw [← hR, aWay, if_pos ⟨hz, (aHolds_of hr1).trans c33⟩]; rfl, rfl, rfl⟩
  exact z_sub [1, 2, 3, 4, 0] rfl (L3 _ 0 _ (Nat.lt_succ_self _) (by omega) rfl rfl)
abbrev rm_X1_habitOf : Room := { frames := 6, cells := 0, slots := 0, locals := 256 }
set_option maxRecDepth 100000 in
set_option maxHeartbeats 4000000 in
theorem k_X1_habitOf (w : zW) (I : zI) (J : zJ) (i : Nat) (A : List zCla) (a : Int32) (l : Int32) (f : Int32) (hi : i < 7) (hL : cLaw I i A) : zMet yX1_habitOf cX1_habitOf 6 (some .int) rm_X1_habitOf w [.ref (zad w (47 + 5 * i)), .int a, .int l, .int f] I J (zpi (fun v I' J' => v = nI (aHab a l f A) ∧ I' = I ∧ J' = J)) := by
  refine zMet_of (by decide) (Nat.le_of_ble_eq_true rfl) (fun X C hm hr => ?_)
  refine z_sub (lv' := [(0, .ref (zad w (47 + 5 * i))), (1, .int a), (2, .int l), (3, .int f)]) [0, 1, 2, 3] rfl ?_
  obtain ⟨⟨hA1, hA2⟩, hcl, e, he0, heB, hcA⟩ := id hL
  refine z_iconst C (v := 0) dX1_habitOf_0 (by decide) ?_
  refine z_istore C hm (lv' := [(4, .int 0), (0, .ref (zad w (47 + 5 * i))), (1, .int a), (2, .int l), (3, .int f)]) dX1_habitOf_1 (by decide) rfl ?_
  refine z_iconst C (v := 0) dX1_habitOf_3 (by decide) ?_
  refine z_istore C hm (lv' := [(5, .int 0), (4, .int 0), (0, .ref (zad w (47 + 5 * i))), (1, .int a), (2, .int l), (3, .int f)]) dX1_habitOf_4 (by decide) rfl ?_
  have L6 : ∀ (d : Nat) (k acc : Nat) (v6_4 : Int32) (v6_5 : Int32), (A.length - k) < d → (k ≤ A.length) → (acc + aSum a l f (A.drop k) = aSum a l f A) → (acc ≤ 999 * k) → v6_4 = nI acc → v6_5 = nI k → Z X w I J 6 [(0, .ref (zad w (47 + 5 * i))), (1, .int a), (2, .int l), (3, .int f), (4, .int v6_4), (5, .int v6_5)] [] := by
    intro d
    induction d with
    | zero => intro k acc v6_4 v6_5 hd; exact absurd hd (Nat.not_lt_zero _)
    | succ d ih6 => 
      intro k acc v6_4 v6_5 hd6 hk hS hbd e_v6_4 e_v6_5
      replace e_v6_4 := e_v6_4.symm; subst e_v6_4
      replace e_v6_5 := e_v6_5.symm; subst e_v6_5
      refine z_iload C dX1_habitOf_6 5 rfl ?_
      refine z_aload_n C dX1_habitOf_8 rfl 0 rfl ?_
      refine z_geti C ff_X1_24 (47 + 5 * i) (shLn0 hi) (shL0 hi) rfl (v := nI A.length) hcl dX1_habitOf_9 ?_
      refine z_icmp_ge_n k A.length (tgt := 58) C rfl rfl (by omega) (by omega) dX1_habitOf_12 (by decide) (fun c12 => ?_) (fun c12 => ?_)
      · skip
        have hkk : k = A.length := by omega
        rw [hkk, List.drop_length, aSum, Nat.add_zero] at hS
        refine z_iload C dX1_habitOf_58 4 rfl ?_
        refine z_bipush C (v := 100) dX1_habitOf_60 (by decide) ?_
        refine z_min C hm ml_X1_35 st_min in_math co_min (Nat.le_of_ble_eq_true rfl) (Nat.le_of_ble_eq_true rfl) dX1_habitOf_62 ?_
        refine z_iret C hr rfl dX1_habitOf_65 ?_
        refine ⟨_, rfl, ?_⟩
        exact ⟨by rw [mn100 (by omega), hS]; rfl, rfl, rfl⟩
      · skip
        have hkl : k < A.length := by omega
        obtain ⟨w1, w2, w3, w4⟩ := hcA k hkl
        obtain ⟨hq1, hq2, hq3⟩ := hA2 _ (getD_mem dCl hkl)
        rw [drop_at dCl hkl] at hS
        refine z_aload_n C dX1_habitOf_15 rfl 0 rfl ?_
        refine z_getr C ff_X1_9 (47 + 5 * i) (shLn0 hi) (shL0 hi) rfl dX1_habitOf_16 ?_
        refine z_iload C dX1_habitOf_19 5 rfl ?_
        refine z_iald C (47 + 5 * i + 1) (shLn1 hi) (shL1 hi) k (by omega) (by decide) rfl (v := nI ((A.getD k dCl).1)) w1 dX1_habitOf_21 ?_
        refine z_iconst C (v := 1) dX1_habitOf_22 (by decide) ?_
        refine z_icmp_ne_n ((A.getD k dCl).1) 1 (tgt := 52) C rfl rfl (by omega) (by omega) dX1_habitOf_23 (by decide) (fun c23 => ?_) (fun c23 => ?_)
        · skip
          refine z_iinc C hm 5 (v := nI (k + 1)) (lv' := [(5, .int (nI (k + 1))), (0, .ref (zad w (47 + 5 * i))), (1, .int a), (2, .int l), (3, .int f), (4, .int (nI acc))]) dX1_habitOf_52 rfl (nI_add k 1) (by decide) rfl ?_
          refine z_goto (tgt := 6) C dX1_habitOf_55 (by decide) ?_
          exact z_sub [1, 2, 3, 4, 5, 0] rfl (ih6  (k + 1) acc _ _ (by omega) (by omega) (by rw [aSum, if_neg (fun q => c23 q.1), Nat.zero_add] at hS; exact hS) (by omega) rfl rfl)
        · skip
          obtain ⟨w5, w6⟩ := w4 (by omega)
          obtain ⟨hok, hev⟩ := hq3 (by omega)
          obtain ⟨r, hr1⟩ := hev (zenv a 0 0 l f)
          refine z_aload_n C dX1_habitOf_26 rfl 0 rfl ?_
          refine z_iload C dX1_habitOf_27 5 rfl ?_
          refine z_iload_n C dX1_habitOf_29 rfl 1 rfl ?_
          refine z_iconst C (v := 0) dX1_habitOf_30 (by decide) ?_
          refine z_iconst C (v := 0) dX1_habitOf_31 (by decide) ?_
          refine z_iload_n C dX1_habitOf_32 rfl 2 rfl ?_
          refine z_iload_n C dX1_habitOf_33 rfl 3 rfl ?_
          refine z_callVi C hm cl_X1_31 cv_X1_holds (47 + 5 * i) (shLn0 hi) (shL0 hi) ⟨_, _, rfl⟩ [.int (nI k), .int a, .int 0, .int 0, .int l, .int f] rfl (rest := []) rfl (k_X1_holds w _ _ i k (e k) (A.getD k dCl).2.2 r (nI k) a (0) (0) l f hi rfl (by omega) (fun q => by rw [q]; exact he0) (fun j q => by subst q; exact (hcA j (by omega)).2.2.1) (by rw [w5]; exact w3) (by rw [w5]; exact heB _ (by omega)) w6 hok hr1) ⟨rfl, rfl, Nat.le_of_ble_eq_true rfl, Nat.le_of_ble_eq_true rfl⟩ (Nat.le_of_ble_eq_true rfl) dX1_habitOf_34 (fun v_1 I_1 J_1 h_1 => ?_)
          obtain ⟨ev_1, ei_1, ej_1⟩ := h_1
          replace ev_1 := ev_1.symm; subst ev_1
          replace ei_1 := ei_1.symm; subst ei_1
          replace ej_1 := ej_1.symm; subst ej_1
          refine z_ifeq_b (tgt := 52) C dX1_habitOf_37 (by decide) (fun c37 => ?_) (fun c37 => ?_)
          · skip
            refine z_iinc C hm 5 (v := nI (k + 1)) (lv' := [(5, .int (nI (k + 1))), (0, .ref (zad w (47 + 5 * i))), (1, .int a), (2, .int l), (3, .int f), (4, .int (nI acc))]) dX1_habitOf_52 rfl (nI_add k 1) (by decide) rfl ?_
            refine z_goto (tgt := 6) C dX1_habitOf_55 (by decide) ?_
            exact z_sub [1, 2, 3, 4, 5, 0] rfl (ih6  (k + 1) acc _ _ (by omega) (by omega) (by rw [aSum, if_neg (fun q => c37 (by rw [← aHolds_of hr1]; exact q.2)), Nat.zero_add] at hS; exact hS) (by omega) rfl rfl)
          · skip
            refine z_iload C dX1_habitOf_40 4 rfl ?_
            refine z_aload_n C dX1_habitOf_42 rfl 0 rfl ?_
            refine z_getr C ff_X1_15 (47 + 5 * i) (shLn0 hi) (shL0 hi) rfl dX1_habitOf_43 ?_
            refine z_iload C dX1_habitOf_46 5 rfl ?_
            refine z_iald C (47 + 5 * i + 2) (shLn2 hi) (shL2 hi) k (by omega) (by decide) rfl (v := nI ((A.getD k dCl).2.1)) w2 dX1_habitOf_48 ?_
            refine z_iadd C dX1_habitOf_49 ?_
            refine z_ti (y := nI (acc + ((A.getD k dCl).2.1))) (nI_add acc ((A.getD k dCl).2.1)) ?_
            refine z_istore C hm (lv' := [(4, .int (nI (acc + ((A.getD k dCl).2.1)))), (0, .ref (zad w (47 + 5 * i))), (1, .int a), (2, .int l), (3, .int f), (5, .int (nI k))]) dX1_habitOf_50 (by decide) rfl ?_
            refine z_iinc C hm 5 (v := nI (k + 1)) (lv' := [(5, .int (nI (k + 1))), (4, .int (nI (acc + ((A.getD k dCl).2.1)))), (0, .ref (zad w (47 + 5 * i))), (1, .int a), (2, .int l), (3, .int f)]) dX1_habitOf_52 rfl (nI_add k 1) (by decide) rfl ?_
            refine z_goto (tgt := 6) C dX1_habitOf_55 (by decide) ?_
            exact z_sub [2, 3, 4, 5, 1, 0] rfl (ih6  (k + 1) (acc + (A.getD k dCl).2.1) _ _ (by omega) (by omega) (by rw [aSum, if_pos ⟨c23, (aHolds_of hr1).trans c37⟩, ← Nat.add_assoc] at hS; exact hS) (by omega) rfl rfl)
  exact z_sub [2, 3, 4, 5, 1, 0] rfl (L6 _ 0 0 _ _ (Nat.lt_succ_self _) (by omega) (Nat.zero_add _) (by omega) rfl rfl)
abbrev rm_X1_lastOf : Room := { frames := 4, cells := 0, slots := 0, locals := 200 }
set_option maxRecDepth 100000 in
set_option maxHeartbeats 4000000 in
theorem k_X1_lastOf (w : zW) (I : zI) (J : zJ) (i : Nat) (A : List zCla) (wn un : Nat) (wd : Int32) (ut : Int32) (hi : i < 7) (hL : cLaw I i A) (hw : wd = nI wn) (hu : ut = nI un) (hw5 : wn < 5) : zMet yX1_lastOf cX1_lastOf 5 (some .int) rm_X1_lastOf w [.ref (zad w (47 + 5 * i)), .int wd, .int ut] I J (zpi (fun v I' J' => v = nI (aLast wn A un) ∧ I' = I ∧ J' = J)) := by
  refine zMet_of (by decide) (Nat.le_of_ble_eq_true rfl) (fun X C hm hr => ?_)
  refine z_sub (lv' := [(0, .ref (zad w (47 + 5 * i))), (1, .int wd), (2, .int ut)]) [0, 1, 2] rfl ?_
  obtain ⟨⟨hA1, hA2⟩, hcl, e, he0, heB, hcA⟩ := id hL
  refine z_iload_n C dX1_lastOf_0 rfl 2 rfl ?_
  refine z_istore_n C hm (lv' := [(3, .int ut), (0, .ref (zad w (47 + 5 * i))), (1, .int wd), (2, .int ut)]) dX1_lastOf_1 rfl (by decide) rfl ?_
  refine z_iconst C (v := 0) dX1_lastOf_2 (by decide) ?_
  refine z_istore C hm (lv' := [(4, .int 0), (3, .int ut), (0, .ref (zad w (47 + 5 * i))), (1, .int wd), (2, .int ut)]) dX1_lastOf_3 (by decide) rfl ?_
  have L5 : ∀ (d : Nat) (k acc : Nat) (v5_3 : Int32) (v5_4 : Int32), (A.length - k) < d → (k ≤ A.length) → (aLast wn (A.drop k) acc = aLast wn A un) → v5_3 = nI acc → v5_4 = nI k → Z X w I J 5 [(0, .ref (zad w (47 + 5 * i))), (1, .int wd), (2, .int ut), (3, .int v5_3), (4, .int v5_4)] [] := by
    intro d
    induction d with
    | zero => intro k acc v5_3 v5_4 hd; exact absurd hd (Nat.not_lt_zero _)
    | succ d ih5 => 
      intro k acc v5_3 v5_4 hd5 hk hS e_v5_3 e_v5_4
      replace e_v5_3 := e_v5_3.symm; subst e_v5_3
      replace e_v5_4 := e_v5_4.symm; subst e_v5_4
      refine z_iload C dX1_lastOf_5 4 rfl ?_
      refine z_aload_n C dX1_lastOf_7 rfl 0 rfl ?_
      refine z_geti C ff_X1_24 (47 + 5 * i) (shLn0 hi) (shL0 hi) rfl (v := nI A.length) hcl dX1_lastOf_8 ?_
      refine z_icmp_ge_n k A.length (tgt := 39) C rfl rfl (by omega) (by omega) dX1_lastOf_11 (by decide) (fun c11 => ?_) (fun c11 => ?_)
      · skip
        have hkk : k = A.length := by omega
        rw [hkk, List.drop_length, aLast] at hS
        refine z_iload_n C dX1_lastOf_39 rfl 3 rfl ?_
        refine z_iret C hr rfl dX1_lastOf_40 ?_
        refine ⟨_, rfl, ?_⟩
        exact ⟨by rw [hS], rfl, rfl⟩
      · skip
        have hkl : k < A.length := by omega
        obtain ⟨w1, w2, w3, w4⟩ := hcA k hkl
        obtain ⟨hq1, hq2, hq3⟩ := hA2 _ (getD_mem dCl hkl)
        rw [drop_at dCl hkl] at hS
        refine z_aload_n C dX1_lastOf_14 rfl 0 rfl ?_
        refine z_getr C ff_X1_9 (47 + 5 * i) (shLn0 hi) (shL0 hi) rfl dX1_lastOf_15 ?_
        refine z_iload C dX1_lastOf_18 4 rfl ?_
        refine z_iald C (47 + 5 * i + 1) (shLn1 hi) (shL1 hi) k (by omega) (by decide) rfl (v := nI ((A.getD k dCl).1)) w1 dX1_lastOf_20 ?_
        refine z_iload_n C dX1_lastOf_21 rfl 1 rfl ?_
        refine z_icmp_ne_n ((A.getD k dCl).1) wn (tgt := 33) C rfl hw (by omega) (by omega) dX1_lastOf_22 (by decide) (fun c22 => ?_) (fun c22 => ?_)
        · skip
          refine z_iinc C hm 4 (v := nI (k + 1)) (lv' := [(4, .int (nI (k + 1))), (0, .ref (zad w (47 + 5 * i))), (1, .int wd), (2, .int ut), (3, .int (nI acc))]) dX1_lastOf_33 rfl (nI_add k 1) (by decide) rfl ?_
          refine z_goto (tgt := 5) C dX1_lastOf_36 (by decide) ?_
          exact z_sub [1, 2, 3, 4, 0] rfl (ih5  (k + 1) acc _ _ (by omega) (by omega) (by rw [aLast, if_neg c22] at hS; exact hS) rfl rfl)
        · skip
          refine z_aload_n C dX1_lastOf_25 rfl 0 rfl ?_
          refine z_getr C ff_X1_15 (47 + 5 * i) (shLn0 hi) (shL0 hi) rfl dX1_lastOf_26 ?_
          refine z_iload C dX1_lastOf_29 4 rfl ?_
          refine z_iald C (47 + 5 * i + 2) (shLn2 hi) (shL2 hi) k (by omega) (by decide) rfl (v := nI ((A.getD k dCl).2.1)) w2 dX1_lastOf_31 ?_
          refine z_istore_n C hm (lv' := [(3, .int (nI ((A.getD k dCl).2.1))), (0, .ref (zad w (47 + 5 * i))), (1, .int wd), (2, .int ut), (4, .int (nI k))]) dX1_lastOf_32 rfl (by decide) rfl ?_
          refine z_iinc C hm 4 (v := nI (k + 1)) (lv' := [(4, .int (nI (k + 1))), (3, .int (nI ((A.getD k dCl).2.1))), (0, .ref (zad w (47 + 5 * i))), (1, .int wd), (2, .int ut)]) dX1_lastOf_33 rfl (nI_add k 1) (by decide) rfl ?_
          refine z_goto (tgt := 5) C dX1_lastOf_36 (by decide) ?_
          exact z_sub [2, 3, 4, 1, 0] rfl (ih5  (k + 1) (A.getD k dCl).2.1 _ _ (by omega) (by omega) (by rw [aLast, if_pos c22] at hS; exact hS) rfl rfl)
  exact z_sub [2, 3, 4, 1, 0] rfl (L5 _ 0 un _ _ (Nat.lt_succ_self _) (by omega) rfl hu rfl)
abbrev rm_X1_mostSteps : Room := { frames := 5, cells := 0, slots := 0, locals := 224 }
set_option maxRecDepth 100000 in
set_option maxHeartbeats 4000000 in
theorem k_X1_mostSteps (w : zW) (I : zI) (J : zJ) (i : Nat) (A : List zCla)  (hi : i < 7) (hL : cLaw I i A) : zMet yX1_mostSteps cX1_mostSteps 1 (some .int) rm_X1_mostSteps w [.ref (zad w (47 + 5 * i))] I J (zpi (fun v I' J' => v = nI (aSteps A) ∧ I' = I ∧ J' = J)) := by
  refine zMet_of (by decide) (Nat.le_of_ble_eq_true rfl) (fun X C hm hr => ?_)
  refine z_sub (lv' := [(0, .ref (zad w (47 + 5 * i)))]) [0] rfl ?_
  refine z_aload_n C dX1_mostSteps_0 rfl 0 rfl ?_
  refine z_iconst C (v := 4) dX1_mostSteps_1 (by decide) ?_
  refine z_bipush C (v := 9) dX1_mostSteps_2 (by decide) ?_
  refine z_callVi C hm cl_X1_41 cv_X1_lastOf (47 + 5 * i) (shLn0 hi) (shL0 hi) ⟨_, _, rfl⟩ [.int 4, .int 9] rfl (rest := []) rfl (k_X1_lastOf w _ _ i A 4 9 (4) (9) hi hL rfl rfl (by decide)) ⟨rfl, rfl, Nat.le_of_ble_eq_true rfl, Nat.le_of_ble_eq_true rfl⟩ (Nat.le_of_ble_eq_true rfl) dX1_mostSteps_4 (fun v_1 I_1 J_1 h_1 => ?_)
  obtain ⟨ev_1, ei_1, ej_1⟩ := h_1
  replace ev_1 := ev_1.symm; subst ev_1
  replace ei_1 := ei_1.symm; subst ei_1
  replace ej_1 := ej_1.symm; subst ej_1
  refine z_bipush C (v := 9) dX1_mostSteps_7 (by decide) ?_
  refine z_min C hm ml_X1_35 st_min in_math co_min (Nat.le_of_ble_eq_true rfl) (Nat.le_of_ble_eq_true rfl) dX1_mostSteps_9 ?_
  refine z_iret C hr rfl dX1_mostSteps_12 ?_
  refine ⟨_, rfl, ?_⟩
  exact ⟨by rw [mn9 (Nat.lt_of_le_of_lt (aLast_le (m := 999) (fun q hq => (hL.1.2 q hq).2.1) (by decide)) (by decide))]; rfl, rfl, rfl⟩
abbrev rm_X1_testSign : Room := { frames := 4, cells := 0, slots := 0, locals := 200 }
set_option maxRecDepth 100000 in
set_option maxHeartbeats 4000000 in
theorem k_X1_testSign (w : zW) (I : zI) (J : zJ) (l r n : Nat) (lt : Int32) (rl : Int32) (nm : Int32) (hl0 : lt = nI l) (hr0 : rl = nI r) (hn0 : nm = nI n) : zMet yX1_testSign cX1_testSign 3 (some .int) rm_X1_testSign w [.int lt, .int rl, .int nm] I J (zpi (fun v I' J' => v = nI ((3 * l + r) * 100 + n) ∧ I' = I ∧ J' = J)) := by
  refine zMet_of (by decide) (Nat.le_of_ble_eq_true rfl) (fun X C hm hr => ?_)
  refine z_sub (lv' := [(0, .int lt), (1, .int rl), (2, .int nm)]) [0, 1, 2] rfl ?_
  subst hl0; subst hr0; subst hn0
  refine z_iload_n C dX1_testSign_0 rfl 0 rfl ?_
  refine z_iconst C (v := 3) dX1_testSign_1 (by decide) ?_
  refine z_imul C dX1_testSign_2 ?_
  refine z_ti (y := nI (l * 3)) (pk_mul l 3) ?_
  refine z_iload_n C dX1_testSign_3 rfl 1 rfl ?_
  refine z_iadd C dX1_testSign_4 ?_
  refine z_ti (y := nI (l * 3 + r)) (nI_add (l * 3) r) ?_
  refine z_bipush C (v := 100) dX1_testSign_5 (by decide) ?_
  refine z_imul C dX1_testSign_7 ?_
  refine z_ti (y := nI ((l * 3 + r) * 100)) (pk_mul (l * 3 + r) 100) ?_
  refine z_iload_n C dX1_testSign_8 rfl 2 rfl ?_
  refine z_iadd C dX1_testSign_9 ?_
  refine z_ti (y := nI ((l * 3 + r) * 100 + n)) (nI_add ((l * 3 + r) * 100) n) ?_
  refine z_iret C hr rfl dX1_testSign_10 ?_
  refine ⟨_, rfl, ?_⟩
  exact ⟨by rw [Nat.mul_comm 3 l], rfl, rfl⟩
abbrev rm_X1_addSign : Room := { frames := 4, cells := 0, slots := 0, locals := 200 }
set_option maxRecDepth 100000 in
set_option maxHeartbeats 4000000 in
theorem k_X1_addSign (w : zW) (I : zI) (J : zJ) (i un : Nat) (sg : Int32) (hi : i < 7) (hU : I (47 + 5 * i) 5 = nI un) (hun : un < 100) : zMet yX1_addSign cX1_addSign 2 none rm_X1_addSign w [.ref (zad w (47 + 5 * i)), .int sg] I J (zpv (fun I' J' => I' = zup (zup I (47 + 5 * i + 4) (upd (I (47 + 5 * i + 4)) un sg)) (47 + 5 * i) (upd (I (47 + 5 * i)) 5 (nI (un + 1))) ∧ J' = J)) := by
  refine zMet_of (by decide) (Nat.le_of_ble_eq_true rfl) (fun X C hm hr => ?_)
  refine z_sub (lv' := [(0, .ref (zad w (47 + 5 * i))), (1, .int sg)]) [0, 1] rfl ?_
  refine z_aload_n C dX1_addSign_0 rfl 0 rfl ?_
  refine z_geti C ff_X1_28 (47 + 5 * i) (shLn0 hi) (shL0 hi) rfl (v := nI un) hU dX1_addSign_1 ?_
  refine z_aload_n C dX1_addSign_4 rfl 0 rfl ?_
  refine z_getr C ff_X1_21 (47 + 5 * i) (shLn0 hi) (shL0 hi) rfl dX1_addSign_5 ?_
  refine z_alen C (47 + 5 * i + 4) (shLn4 hi) (shL4 hi) (by decide) (v := 100) (by decide) dX1_addSign_8 ?_
  refine z_icmp_ge_n un 100 (tgt := 32) C rfl rfl (by omega) (by omega) dX1_addSign_9 (by decide) (fun c9 => ?_) (fun c9 => ?_)
  · skip
    exact absurd c9 (by omega)
  · skip
    refine z_aload_n C dX1_addSign_12 rfl 0 rfl ?_
    refine z_getr C ff_X1_21 (47 + 5 * i) (shLn0 hi) (shL0 hi) rfl dX1_addSign_13 ?_
    refine z_aload_n C dX1_addSign_16 rfl 0 rfl ?_
    refine z_geti C ff_X1_28 (47 + 5 * i) (shLn0 hi) (shL0 hi) rfl (v := nI un) hU dX1_addSign_17 ?_
    refine z_iload_n C dX1_addSign_20 rfl 1 rfl ?_
    refine z_iast C (47 + 5 * i + 4) (shLn4 hi) (shL4 hi) un (by omega) (by decide) rfl dX1_addSign_21 ?_
    refine z_I (I' := zup I (47 + 5 * i + 4) (upd (I (47 + 5 * i + 4)) un sg)) rfl ?_
    refine z_aload_n C dX1_addSign_22 rfl 0 rfl ?_
    refine z_dup C dX1_addSign_23 rfl ?_
    refine z_geti C ff_X1_28 (47 + 5 * i) (shLn0 hi) (shL0 hi) rfl (v := nI un) (by first | exact hU | (simp [zup, zupJ, upd, vp_updL]; exact hU)) dX1_addSign_24 ?_
    refine z_iconst C (v := 1) dX1_addSign_27 (by decide) ?_
    refine z_iadd C dX1_addSign_28 ?_
    refine z_ti (y := nI (un + 1)) (nI_add un 1) ?_
    refine z_puti C ff_X1_28 (47 + 5 * i) (shLn0 hi) (shL0 hi) rfl rfl rfl dX1_addSign_29 ?_
    refine z_I (I' := zup (zup I (47 + 5 * i + 4) (upd (I (47 + 5 * i + 4)) un sg)) (47 + 5 * i) (upd (I (47 + 5 * i)) 5 (nI (un + 1)))) (by first | rfl | (rw [zup_n] <;> omega)) ?_
    refine z_vret C hr dX1_addSign_32 ?_
    refine ⟨rfl, ?_⟩
    exact ⟨rfl, rfl⟩
abbrev rm_X1_endClause : Room := { frames := 4, cells := 0, slots := 0, locals := 200 }
set_option maxRecDepth 100000 in
set_option maxHeartbeats 4000000 in
theorem k_X1_endClause (w : zW) (I : zI) (J : zJ) (i cn un : Nat) (wd : Int32) (nm : Int32) (hi : i < 7) (hcn : I (47 + 5 * i) 3 = nI cn) (hU : I (47 + 5 * i) 5 = nI un) (hc10 : cn < 10) : zMet yX1_endClause cX1_endClause 3 none rm_X1_endClause w [.ref (zad w (47 + 5 * i)), .int wd, .int nm] I J (zpv (fun I' J' => I' = zup (zup (zup (zup I (47 + 5 * i + 1) (upd (I (47 + 5 * i + 1)) cn wd)) (47 + 5 * i + 2) (upd (I (47 + 5 * i + 2)) cn nm)) (47 + 5 * i + 3) (upd (I (47 + 5 * i + 3)) cn (nI un))) (47 + 5 * i) (upd (I (47 + 5 * i)) 3 (nI (cn + 1))) ∧ J' = J)) := by
  refine zMet_of (by decide) (Nat.le_of_ble_eq_true rfl) (fun X C hm hr => ?_)
  refine z_sub (lv' := [(0, .ref (zad w (47 + 5 * i))), (1, .int wd), (2, .int nm)]) [0, 1, 2] rfl ?_
  refine z_aload_n C dX1_endClause_0 rfl 0 rfl ?_
  refine z_geti C ff_X1_24 (47 + 5 * i) (shLn0 hi) (shL0 hi) rfl (v := nI cn) hcn dX1_endClause_1 ?_
  refine z_aload_n C dX1_endClause_4 rfl 0 rfl ?_
  refine z_getr C ff_X1_9 (47 + 5 * i) (shLn0 hi) (shL0 hi) rfl dX1_endClause_5 ?_
  refine z_alen C (47 + 5 * i + 1) (shLn1 hi) (shL1 hi) (by decide) (v := 10) (by decide) dX1_endClause_8 ?_
  refine z_icmp_ge_n cn 10 (tgt := 55) C rfl rfl (by omega) (by omega) dX1_endClause_9 (by decide) (fun c9 => ?_) (fun c9 => ?_)
  · skip
    exact absurd c9 (by omega)
  · skip
    refine z_aload_n C dX1_endClause_12 rfl 0 rfl ?_
    refine z_getr C ff_X1_9 (47 + 5 * i) (shLn0 hi) (shL0 hi) rfl dX1_endClause_13 ?_
    refine z_aload_n C dX1_endClause_16 rfl 0 rfl ?_
    refine z_geti C ff_X1_24 (47 + 5 * i) (shLn0 hi) (shL0 hi) rfl (v := nI cn) hcn dX1_endClause_17 ?_
    refine z_iload_n C dX1_endClause_20 rfl 1 rfl ?_
    refine z_iast C (47 + 5 * i + 1) (shLn1 hi) (shL1 hi) cn (by omega) (by decide) rfl dX1_endClause_21 ?_
    refine z_I (I' := zup I (47 + 5 * i + 1) (upd (I (47 + 5 * i + 1)) cn wd)) rfl ?_
    refine z_aload_n C dX1_endClause_22 rfl 0 rfl ?_
    refine z_getr C ff_X1_15 (47 + 5 * i) (shLn0 hi) (shL0 hi) rfl dX1_endClause_23 ?_
    refine z_aload_n C dX1_endClause_26 rfl 0 rfl ?_
    refine z_geti C ff_X1_24 (47 + 5 * i) (shLn0 hi) (shL0 hi) rfl (v := nI cn) (by first | exact hcn | (simp [zup, zupJ, upd, vp_updL]; exact hcn)) dX1_endClause_27 ?_
    refine z_iload_n C dX1_endClause_30 rfl 2 rfl ?_
    refine z_iast C (47 + 5 * i + 2) (shLn2 hi) (shL2 hi) cn (by omega) (by decide) rfl dX1_endClause_31 ?_
    refine z_I (I' := zup (zup I (47 + 5 * i + 1) (upd (I (47 + 5 * i + 1)) cn wd)) (47 + 5 * i + 2) (upd (I (47 + 5 * i + 2)) cn nm)) (by first | rfl | (rw [zup_n] <;> omega)) ?_
    refine z_aload_n C dX1_endClause_32 rfl 0 rfl ?_
    refine z_getr C ff_X1_18 (47 + 5 * i) (shLn0 hi) (shL0 hi) rfl dX1_endClause_33 ?_
    refine z_aload_n C dX1_endClause_36 rfl 0 rfl ?_
    refine z_geti C ff_X1_24 (47 + 5 * i) (shLn0 hi) (shL0 hi) rfl (v := nI cn) (by first | exact hcn | (simp [zup, zupJ, upd, vp_updL]; exact hcn)) dX1_endClause_37 ?_
    refine z_aload_n C dX1_endClause_40 rfl 0 rfl ?_
    refine z_geti C ff_X1_28 (47 + 5 * i) (shLn0 hi) (shL0 hi) rfl (v := nI un) (by first | exact hU | (simp [zup, zupJ, upd, vp_updL]; exact hU)) dX1_endClause_41 ?_
    refine z_iast C (47 + 5 * i + 3) (shLn3 hi) (shL3 hi) cn (by omega) (by decide) rfl dX1_endClause_44 ?_
    refine z_I (I' := zup (zup (zup I (47 + 5 * i + 1) (upd (I (47 + 5 * i + 1)) cn wd)) (47 + 5 * i + 2) (upd (I (47 + 5 * i + 2)) cn nm)) (47 + 5 * i + 3) (upd (I (47 + 5 * i + 3)) cn (nI un))) (by first | rfl | (rw [zup_n] <;> omega) | (rw [zup_n, zup_n] <;> omega)) ?_
    refine z_aload_n C dX1_endClause_45 rfl 0 rfl ?_
    refine z_dup C dX1_endClause_46 rfl ?_
    refine z_geti C ff_X1_24 (47 + 5 * i) (shLn0 hi) (shL0 hi) rfl (v := nI cn) (by first | exact hcn | (simp [zup, zupJ, upd, vp_updL]; exact hcn)) dX1_endClause_47 ?_
    refine z_iconst C (v := 1) dX1_endClause_50 (by decide) ?_
    refine z_iadd C dX1_endClause_51 ?_
    refine z_ti (y := nI (cn + 1)) (nI_add cn 1) ?_
    refine z_puti C ff_X1_24 (47 + 5 * i) (shLn0 hi) (shL0 hi) rfl rfl rfl dX1_endClause_52 ?_
    refine z_I (I' := zup (zup (zup (zup I (47 + 5 * i + 1) (upd (I (47 + 5 * i + 1)) cn wd)) (47 + 5 * i + 2) (upd (I (47 + 5 * i + 2)) cn nm)) (47 + 5 * i + 3) (upd (I (47 + 5 * i + 3)) cn (nI un))) (47 + 5 * i) (upd (I (47 + 5 * i)) 3 (nI (cn + 1)))) (by first | rfl | (rw [zup_n] <;> omega) | (rw [zup_n, zup_n] <;> omega) | (rw [zup_n, zup_n, zup_n] <;> omega)) ?_
    refine z_vret C hr dX1_endClause_55 ?_
    refine ⟨rfl, ?_⟩
    exact ⟨rfl, rfl⟩
abbrev rm_X1_clear : Room := { frames := 4, cells := 0, slots := 0, locals := 200 }
set_option maxRecDepth 100000 in
set_option maxHeartbeats 4000000 in
theorem k_X1_clear (w : zW) (I : zI) (J : zJ) (i : Nat)  (hi : i < 7) : zMet yX1_clear cX1_clear 1 none rm_X1_clear w [.ref (zad w (47 + 5 * i))] I J (zpv (fun I' J' => I' = zup I (47 + 5 * i) (upd (upd (I (47 + 5 * i)) 3 0) 5 0) ∧ J' = J)) := by
  refine zMet_of (by decide) (Nat.le_of_ble_eq_true rfl) (fun X C hm hr => ?_)
  refine z_sub (lv' := [(0, .ref (zad w (47 + 5 * i)))]) [0] rfl ?_
  refine z_aload_n C dX1_clear_0 rfl 0 rfl ?_
  refine z_iconst C (v := 0) dX1_clear_1 (by decide) ?_
  refine z_puti C ff_X1_24 (47 + 5 * i) (shLn0 hi) (shL0 hi) rfl rfl rfl dX1_clear_2 ?_
  refine z_I (I' := zup I (47 + 5 * i) (upd (I (47 + 5 * i)) 3 0)) rfl ?_
  refine z_aload_n C dX1_clear_5 rfl 0 rfl ?_
  refine z_iconst C (v := 0) dX1_clear_6 (by decide) ?_
  refine z_puti C ff_X1_28 (47 + 5 * i) (shLn0 hi) (shL0 hi) rfl rfl rfl dX1_clear_7 ?_
  refine z_I (I' := zup I (47 + 5 * i) (upd (upd (I (47 + 5 * i)) 3 0) 5 0)) (by rw [zup_s, zup_up]) ?_
  refine z_vret C hr dX1_clear_10 ?_
  refine ⟨rfl, ?_⟩
  exact ⟨rfl, rfl⟩
