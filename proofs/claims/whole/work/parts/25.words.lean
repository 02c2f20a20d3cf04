/-! reading words -/
def zSt (c : Nat → Nat) (p u : Nat) : Nat := zSm c u p (zLen.getD u 0) 0
def zFt (c : Nat → Nat) (p : Nat) : Nat → Nat
  | 0 => 0
  | u + 1 => max (zFt c p u) (zSt c p u)
def zWd (c : Nat → Nat) (p : Nat) : Nat → Nat → Option Nat
  | 0, _ => none
  | f + 1, u => if zSt c p u = zLen.getD u 0 then some u else zWd c p f (u + 1)
theorem zSm_le {c : Nat → Nat} {u p : Nat} : ∀ f k, zSm c u p f k ≤ f
  | 0, _ => Nat.le_refl _
  | f + 1, k => by
    have := zSm_le (c := c) (u := u) (p := p) f (k + 1)
    rw [zSm]; split <;> omega
theorem zSm_L {c : Nat → Nat} {u p L : Nat} (hu : u < 7) (hBe : ∀ q, L ≤ q → c q = 300) : ∀ f k, k + f = zLen.getD u 0 → p + k ≤ L → p + k + zSm c u p f k ≤ L
  | 0, _, _, h => by rw [zSm]; omega
  | f + 1, k, hk, h => by
    rw [zSm]
    by_cases q : c (p + k) = zSi u k
    · rw [if_pos q]
      have h1 := zSi_ok u hu k (by omega)
      have h2 : p + k < L := Nat.lt_of_not_le (fun z => by have := hBe (p + k) z; omega)
      have := zSm_L (c := c) (p := p) hu hBe f (k + 1) (by omega) (by omega)
      omega
    · rw [if_neg q]; omega
theorem zSt_L {c : Nat → Nat} {u p L : Nat} (hu : u < 7) (hBe : ∀ q, L ≤ q → c q = 300) (hp : p ≤ L) : p + zSt c p u ≤ L := by
  have := zSm_L (c := c) (p := p) hu hBe (zLen.getD u 0) 0 (by omega) (by omega)
  unfold zSt; omega
theorem zFt_L {c : Nat → Nat} {p L : Nat} (hBe : ∀ q, L ≤ q → c q = 300) (hp : p ≤ L) : ∀ u, u ≤ 7 → p + zFt c p u ≤ L
  | 0, _ => by rw [zFt]; omega
  | u + 1, h => by
    have h1 := zFt_L hBe hp u (by omega)
    have h2 := zSt_L (c := c) (p := p) (u := u) (by omega) hBe hp
    rw [zFt]; omega
abbrev rm_X5_spelling : Room := { frames := 4, cells := 0, slots := 0, locals := 200 }
set_option maxRecDepth 100000 in
set_option maxHeartbeats 4000000 in
theorem k_X5_spelling (w : zW) (I : zI) (J : zJ)  (u : Nat) (hu : u < 5) : zMet yX5_spelling cX5_spelling 1 (some (.object "java/lang/String")) rm_X5_spelling w [.int (nI u)] I J (zpr (fun v I' J' => v = .ref (w.2.2.2.1 u) ∧ I' = I ∧ J' = J)) := by
  refine zMet_of (by decide) (Nat.le_of_ble_eq_true rfl) (fun X C hm hr => ?_)
  refine z_sub (lv' := [(0, .int (nI u))]) [0] rfl ?_
  refine z_iload_n C dX5_spelling_0 rfl 0 rfl ?_
  by_cases c1_0 : nI u = 0
  · skip
    refine z_tableIn (tgt := 32) C dX5_spelling_1 (by rw [c1_0]; decide) (by rw [c1_0]; decide) (off := 31) (by rw [c1_0]; decide) (by decide) ?_
    refine z_ldcS (i := 0) (by decide) C rfl dX5_spelling_32 ?_
    refine z_aret C hr (Or.inr ⟨_, rfl⟩) dX5_spelling_34 ?_
    refine ⟨_, rfl, ?_⟩
    have e : u = 0 := (nI_eq (b := 0) (by omega) (by omega)).mp c1_0
    subst e; exact ⟨rfl, rfl, rfl⟩
  by_cases c1_1 : nI u = 1
  · skip
    refine z_tableIn (tgt := 35) C dX5_spelling_1 (by rw [c1_1]; decide) (by rw [c1_1]; decide) (off := 34) (by rw [c1_1]; decide) (by decide) ?_
    refine z_ldcS (i := 1) (by decide) C rfl dX5_spelling_35 ?_
    refine z_aret C hr (Or.inr ⟨_, rfl⟩) dX5_spelling_37 ?_
    refine ⟨_, rfl, ?_⟩
    have e : u = 1 := (nI_eq (b := 1) (by omega) (by omega)).mp c1_1
    subst e; exact ⟨rfl, rfl, rfl⟩
  by_cases c1_2 : nI u = 2
  · skip
    refine z_tableIn (tgt := 38) C dX5_spelling_1 (by rw [c1_2]; decide) (by rw [c1_2]; decide) (off := 37) (by rw [c1_2]; decide) (by decide) ?_
    refine z_ldcS (i := 2) (by decide) C rfl dX5_spelling_38 ?_
    refine z_aret C hr (Or.inr ⟨_, rfl⟩) dX5_spelling_40 ?_
    refine ⟨_, rfl, ?_⟩
    have e : u = 2 := (nI_eq (b := 2) (by omega) (by omega)).mp c1_2
    subst e; exact ⟨rfl, rfl, rfl⟩
  by_cases c1_3 : nI u = 3
  · skip
    refine z_tableIn (tgt := 41) C dX5_spelling_1 (by rw [c1_3]; decide) (by rw [c1_3]; decide) (off := 40) (by rw [c1_3]; decide) (by decide) ?_
    refine z_ldcS (i := 3) (by decide) C rfl dX5_spelling_41 ?_
    refine z_aret C hr (Or.inr ⟨_, rfl⟩) dX5_spelling_43 ?_
    refine ⟨_, rfl, ?_⟩
    have e : u = 3 := (nI_eq (b := 3) (by omega) (by omega)).mp c1_3
    subst e; exact ⟨rfl, rfl, rfl⟩
  refine z_tableOut (tgt := 44) C dX5_spelling_1 (by have h0 := lv_neT c1_0 (a := 0) (by decide); have h1 := lv_neT c1_1 (a := 1) (by decide); have h2 := lv_neT c1_2 (a := 2) (by decide); have h3 := lv_neT c1_3 (a := 3) (by decide); omega) (by decide) ?_
  refine z_ldcS (i := 4) (by decide) C rfl dX5_spelling_44 ?_
  refine z_aret C hr (Or.inr ⟨_, rfl⟩) dX5_spelling_46 ?_
  refine ⟨_, rfl, ?_⟩
  have e : u = 4 := by
    have h0 : u ≠ 0 := fun q => c1_0 (by rw [q]; rfl)
    have h1 : u ≠ 1 := fun q => c1_1 (by rw [q]; rfl)
    have h2 : u ≠ 2 := fun q => c1_2 (by rw [q]; rfl)
    have h3 : u ≠ 3 := fun q => c1_3 (by rw [q]; rfl)
    omega
  subst e; exact ⟨rfl, rfl, rfl⟩
abbrev rm_X5_readWord : Room := { frames := 8, cells := 0, slots := 0, locals := 285 }
set_option maxRecDepth 100000 in
set_option maxHeartbeats 4000000 in
theorem k_X5_readWord (w : zW) (I : zI) (J : zJ) (c : Nat → Nat) (L p : Nat)  (hL : I 2 1 = nI L) (hl : L ≤ 100) (hp : I 2 2 = nI p) (hpl : p ≤ L) (hBy : ∀ q, q < L → I 3 q = nI (c q) ∧ c q < 256) (hBe : ∀ q, L ≤ q → c q = 300) : zMet yX5_readWord cX5_readWord 5 (some .int) rm_X5_readWord w [.ref (zad w 2)] I J (zpi (fun v I' J' => v = (match zWd c p 5 0 with | none => -1 | some u => nI u) ∧ I' = zup I 2 (upd (I 2) 2 (nI (p + (match zWd c p 5 0 with | none => zFt c p 5 | some u => zLen.getD u 0)))) ∧ J' = J)) := by
  refine zMet_of (by decide) (Nat.le_of_ble_eq_true rfl) (fun X C hm hr => ?_)
  refine z_sub (lv' := [(0, .ref (zad w 2))]) [0] rfl ?_
  refine z_iconst C (v := 0) dX5_readWord_0 (by decide) ?_
  refine z_istore_n C hm (lv' := [(1, .int 0), (0, .ref (zad w 2))]) dX5_readWord_1 rfl (by decide) rfl ?_
  refine z_iconst C (v := 0) dX5_readWord_2 (by decide) ?_
  refine z_istore_n C hm (lv' := [(2, .int 0), (1, .int 0), (0, .ref (zad w 2))]) dX5_readWord_3 rfl (by decide) rfl ?_
  have L4 : ∀ (d : Nat) (u : Nat) (v4_1 : Int32) (v4_2 : Int32), (5 - u) < d → (u ≤ 5) → (zWd c p (5 - u) u = zWd c p 5 0) → v4_1 = nI (zFt c p u) → v4_2 = nI u → Z X w I J 4 [(0, .ref (zad w 2)), (1, .int v4_1), (2, .int v4_2)] [] := by
    intro d
    induction d with
    | zero => intro u v4_1 v4_2 hd; exact absurd hd (Nat.not_lt_zero _)
    | succ d ih4 => 
      intro u v4_1 v4_2 hd4 hu hw e_v4_1 e_v4_2
      replace e_v4_1 := e_v4_1.symm; subst e_v4_1
      replace e_v4_2 := e_v4_2.symm; subst e_v4_2
      refine z_iload_n C dX5_readWord_4 rfl 2 rfl ?_
      refine z_iconst C (v := 5) dX5_readWord_5 (by decide) ?_
      refine z_icmp_ge_n u 5 (tgt := 102) C rfl rfl (by omega) (by omega) dX5_readWord_6 (by decide) (fun c6 => ?_) (fun c6 => ?_)
      · skip
        have hue : u = 5 := by omega
        have hfl := zFt_L (c := c) hBe hpl u (by omega)
        refine z_aload_n C dX5_readWord_102 rfl 0 rfl ?_
        refine z_dup C dX5_readWord_103 rfl ?_
        refine z_geti C ff_X5_24 2 (by decide) sh2 rfl (v := nI p) hp dX5_readWord_104 ?_
        refine z_iload_n C dX5_readWord_107 rfl 1 rfl ?_
        refine z_iadd C dX5_readWord_108 ?_
        refine z_ti (y := nI (p + (zFt c p u))) (nI_add p (zFt c p u)) ?_
        refine z_puti C ff_X5_24 2 (by decide) sh2 rfl rfl rfl dX5_readWord_109 ?_
        refine z_I (I' := zup I 2 (upd (I 2) 2 (nI (p + (zFt c p u))))) rfl ?_
        refine z_iconst C (v := -1) dX5_readWord_112 (by decide) ?_
        refine z_iret C hr rfl dX5_readWord_113 ?_
        refine ⟨_, rfl, ?_⟩
        have hno : zWd c p 5 0 = none := by rw [← hw, hue]; rfl
        rw [hno]; exact ⟨rfl, by rw [hue], rfl⟩
      · skip
        have h5 := zLen_le u (by omega)
        have hftl := zFt_L (c := c) hBe hpl u (by omega)
        refine z_iload_n C dX5_readWord_9 rfl 2 rfl ?_
        refine z_callSr C hm cl_X5_61 cs_X5_spelling [.int (nI u)] rfl (rest := []) rfl (k_X5_spelling w _ _ u (by omega)) ⟨rfl, rfl, Nat.le_of_ble_eq_true rfl, Nat.le_of_ble_eq_true rfl⟩ (Nat.le_of_ble_eq_true rfl) dX5_readWord_10 (fun v_1 I_1 J_1 h_1 => ?_)
        obtain ⟨ev_1, ei_1, ej_1⟩ := h_1
        replace ev_1 := ev_1.symm; subst ev_1
        replace ei_1 := ei_1.symm; subst ei_1
        replace ej_1 := ej_1.symm; subst ej_1
        refine z_astore_n C hm (lv' := [(3, .ref (w.2.2.2.1 u)), (0, .ref (zad w 2)), (1, .int (nI (zFt c p u))), (2, .int (nI u))]) dX5_readWord_13 rfl (by decide) rfl ?_
        refine z_iconst C (v := 0) dX5_readWord_14 (by decide) ?_
        refine z_istore C hm (lv' := [(4, .int 0), (3, .ref (w.2.2.2.1 u)), (0, .ref (zad w 2)), (1, .int (nI (zFt c p u))), (2, .int (nI u))]) dX5_readWord_15 (by decide) rfl ?_
        have L17 : ∀ (d : Nat) (k : Nat) (v17_4 : Int32), (zLen.getD u 0 - k) < d → (k ≤ zLen.getD u 0) → (p + k ≤ L) → (zSm c u p (zLen.getD u 0 - k) k + k = zSt c p u) → v17_4 = nI k → Z X w I J 17 [(0, .ref (zad w 2)), (1, .int (nI (zFt c p u))), (2, .int (nI u)), (3, .ref (w.2.2.2.1 u)), (4, .int v17_4)] [] := by
          intro d
          induction d with
          | zero => intro k v17_4 hd; exact absurd hd (Nat.not_lt_zero _)
          | succ d ih17 => 
            intro k v17_4 hd17 hk hpk hs e_v17_4
            replace e_v17_4 := e_v17_4.symm; subst e_v17_4
            refine z_iload C dX5_readWord_17 4 rfl ?_
            refine z_aload_n C dX5_readWord_19 rfl 3 rfl ?_
            refine z_callTi C hm cl_X5_65 cv_J0_length_8abf5 u (by omega) rfl [] rfl (rest := [.int (nI k)]) rfl (k_J0_length_8abf5 w _ _ u  (by omega)) ⟨rfl, rfl, Nat.le_of_ble_eq_true rfl, Nat.le_of_ble_eq_true rfl⟩ (Nat.le_of_ble_eq_true rfl) dX5_readWord_20 (fun v_2 I_2 J_2 h_2 => ?_)
            obtain ⟨ev_2, ei_2, ej_2⟩ := h_2
            replace ev_2 := ev_2.symm; subst ev_2
            replace ei_2 := ei_2.symm; subst ei_2
            replace ej_2 := ej_2.symm; subst ej_2
            refine z_icmp_ge_n k (zLen.getD u 0) (tgt := 67) C rfl rfl (by omega) (by omega) dX5_readWord_23 (by decide) (fun c23 => ?_) (fun c23 => ?_)
            · skip
              have hsk : zSt c p u = k := by
                rw [← hs, show zLen.getD u 0 - k = 0 by omega, zSm]; omega
              refine z_iload C dX5_readWord_67 4 rfl ?_
              refine z_aload_n C dX5_readWord_69 rfl 3 rfl ?_
              refine z_callTi C hm cl_X5_65 cv_J0_length_8abf5 u (by omega) rfl [] rfl (rest := [.int (nI k)]) rfl (k_J0_length_8abf5 w _ _ u  (by omega)) ⟨rfl, rfl, Nat.le_of_ble_eq_true rfl, Nat.le_of_ble_eq_true rfl⟩ (Nat.le_of_ble_eq_true rfl) dX5_readWord_70 (fun v_3 I_3 J_3 h_3 => ?_)
              obtain ⟨ev_3, ei_3, ej_3⟩ := h_3
              replace ev_3 := ev_3.symm; subst ev_3
              replace ei_3 := ei_3.symm; subst ei_3
              replace ej_3 := ej_3.symm; subst ej_3
              refine z_icmp_ne_n k (zLen.getD u 0) (tgt := 89) C rfl rfl (by omega) (by omega) dX5_readWord_73 (by decide) (fun c73 => ?_) (fun c73 => ?_)
              · skip
                refine z_iload_n C dX5_readWord_89 rfl 1 rfl ?_
                refine z_iload C dX5_readWord_90 4 rfl ?_
                refine z_max C hm ml_X5_73 st_max in_math co_max (Nat.le_of_ble_eq_true rfl) (Nat.le_of_ble_eq_true rfl) dX5_readWord_92 ?_
                refine z_ti (y := nI (max (zFt c p u) k)) (max_n (by omega) (by omega)) ?_
                refine z_istore_n C hm (lv' := [(1, .int (nI (max (zFt c p u) k))), (0, .ref (zad w 2)), (2, .int (nI u)), (3, .ref (w.2.2.2.1 u)), (4, .int (nI k))]) dX5_readWord_95 rfl (by decide) rfl ?_
                refine z_iinc C hm 2 (v := nI (u + 1)) (lv' := [(2, .int (nI (u + 1))), (1, .int (nI (max (zFt c p u) k))), (0, .ref (zad w 2)), (3, .ref (w.2.2.2.1 u)), (4, .int (nI k))]) dX5_readWord_96 rfl (nI_add u 1) (by decide) rfl ?_
                refine z_goto (tgt := 4) C dX5_readWord_99 (by decide) ?_
                exact z_sub [2, 1, 0] rfl (ih4  (u + 1) _ _ (by omega) (by omega) (by rw [show 5 - u = 5 - u - 1 + 1 by omega, zWd, if_neg (by omega)] at hw; rw [show 5 - (u + 1) = 5 - u - 1 by omega]; exact hw) (by rw [zFt, hsk]) rfl)
              · skip
                have hyes : zWd c p 5 0 = some u := by rw [← hw, show 5 - u = 5 - u - 1 + 1 by omega, zWd, if_pos (by omega)]
                refine z_aload_n C dX5_readWord_76 rfl 0 rfl ?_
                refine z_dup C dX5_readWord_77 rfl ?_
                refine z_geti C ff_X5_24 2 (by decide) sh2 rfl (v := nI p) hp dX5_readWord_78 ?_
                refine z_iload C dX5_readWord_81 4 rfl ?_
                refine z_iadd C dX5_readWord_83 ?_
                refine z_ti (y := nI (p + k)) (nI_add p k) ?_
                refine z_puti C ff_X5_24 2 (by decide) sh2 rfl rfl rfl dX5_readWord_84 ?_
                refine z_I (I' := zup I 2 (upd (I 2) 2 (nI (p + k)))) rfl ?_
                refine z_iload_n C dX5_readWord_87 rfl 2 rfl ?_
                refine z_iret C hr rfl dX5_readWord_88 ?_
                refine ⟨_, rfl, ?_⟩
                rw [hyes]; exact ⟨rfl, by show _ = zup I 2 (upd (I 2) 2 (nI (p + zLen.getD u 0))); rw [show zLen.getD u 0 = k by omega], rfl⟩
            · skip
              have hsi := zSi_ok u (by omega) k (by omega)
              refine z_aload_n C dX5_readWord_26 rfl 0 rfl ?_
              refine z_geti C ff_X5_24 2 (by decide) sh2 rfl (v := nI p) hp dX5_readWord_27 ?_
              refine z_iload C dX5_readWord_30 4 rfl ?_
              refine z_iadd C dX5_readWord_32 ?_
              refine z_ti (y := nI (p + k)) (nI_add p k) ?_
              refine z_aload_n C dX5_readWord_33 rfl 0 rfl ?_
              refine z_geti C ff_X5_15 2 (by decide) sh2 rfl (v := nI L) hL dX5_readWord_34 ?_
              refine z_icmp_ge_n (p + k) L (tgt := 67) C rfl rfl (by omega) (by omega) dX5_readWord_37 (by decide) (fun c37 => ?_) (fun c37 => ?_)
              · skip
                have hsk : zSt c p u = k := by
                  have hb := hBe (p + k) (by omega)
                  rw [← hs, show zLen.getD u 0 - k = zLen.getD u 0 - k - 1 + 1 by omega, zSm, if_neg (by omega)]; omega
                refine z_iload C dX5_readWord_67 4 rfl ?_
                refine z_aload_n C dX5_readWord_69 rfl 3 rfl ?_
                refine z_callTi C hm cl_X5_65 cv_J0_length_8abf5 u (by omega) rfl [] rfl (rest := [.int (nI k)]) rfl (k_J0_length_8abf5 w _ _ u  (by omega)) ⟨rfl, rfl, Nat.le_of_ble_eq_true rfl, Nat.le_of_ble_eq_true rfl⟩ (Nat.le_of_ble_eq_true rfl) dX5_readWord_70 (fun v_4 I_4 J_4 h_4 => ?_)
                obtain ⟨ev_4, ei_4, ej_4⟩ := h_4
                replace ev_4 := ev_4.symm; subst ev_4
                replace ei_4 := ei_4.symm; subst ei_4
                replace ej_4 := ej_4.symm; subst ej_4
                refine z_icmp_ne_n k (zLen.getD u 0) (tgt := 89) C rfl rfl (by omega) (by omega) dX5_readWord_73 (by decide) (fun c73 => ?_) (fun c73 => ?_)
                · skip
                  refine z_iload_n C dX5_readWord_89 rfl 1 rfl ?_
                  refine z_iload C dX5_readWord_90 4 rfl ?_
                  refine z_max C hm ml_X5_73 st_max in_math co_max (Nat.le_of_ble_eq_true rfl) (Nat.le_of_ble_eq_true rfl) dX5_readWord_92 ?_
                  refine z_ti (y := nI (max (zFt c p u) k)) (max_n (by omega) (by omega)) ?_
                  refine z_istore_n C hm (lv' := [(1, .int (nI (max (zFt c p u) k))), (0, .ref (zad w 2)), (2, .int (nI u)), (3, .ref (w.2.2.2.1 u)), (4, .int (nI k))]) dX5_readWord_95 rfl (by decide) rfl ?_
                  refine z_iinc C hm 2 (v := nI (u + 1)) (lv' := [(2, .int (nI (u + 1))), (1, .int (nI (max (zFt c p u) k))), (0, .ref (zad w 2)), (3, .ref (w.2.2.2.1 u)), (4, .int (nI k))]) dX5_readWord_96 rfl (nI_add u 1) (by decide) rfl ?_
                  refine z_goto (tgt := 4) C dX5_readWord_99 (by decide) ?_
                  exact z_sub [2, 1, 0] rfl (ih4  (u + 1) _ _ (by omega) (by omega) (by rw [show 5 - u = 5 - u - 1 + 1 by omega, zWd, if_neg (by omega)] at hw; rw [show 5 - (u + 1) = 5 - u - 1 by omega]; exact hw) (by rw [zFt, hsk]) rfl)
                · skip
                  have hyes : zWd c p 5 0 = some u := by rw [← hw, show 5 - u = 5 - u - 1 + 1 by omega, zWd, if_pos (by omega)]
                  refine z_aload_n C dX5_readWord_76 rfl 0 rfl ?_
                  refine z_dup C dX5_readWord_77 rfl ?_
                  refine z_geti C ff_X5_24 2 (by decide) sh2 rfl (v := nI p) hp dX5_readWord_78 ?_
                  refine z_iload C dX5_readWord_81 4 rfl ?_
                  refine z_iadd C dX5_readWord_83 ?_
                  refine z_ti (y := nI (p + k)) (nI_add p k) ?_
                  refine z_puti C ff_X5_24 2 (by decide) sh2 rfl rfl rfl dX5_readWord_84 ?_
                  refine z_I (I' := zup I 2 (upd (I 2) 2 (nI (p + k)))) rfl ?_
                  refine z_iload_n C dX5_readWord_87 rfl 2 rfl ?_
                  refine z_iret C hr rfl dX5_readWord_88 ?_
                  refine ⟨_, rfl, ?_⟩
                  rw [hyes]; exact ⟨rfl, by show _ = zup I 2 (upd (I 2) 2 (nI (p + zLen.getD u 0))); rw [show zLen.getD u 0 = k by omega], rfl⟩
              · skip
                refine z_aload_n C dX5_readWord_40 rfl 0 rfl ?_
                refine z_getr C ff_X5_9 2 (by decide) sh2 rfl dX5_readWord_41 ?_
                refine z_aload_n C dX5_readWord_44 rfl 0 rfl ?_
                refine z_geti C ff_X5_24 2 (by decide) sh2 rfl (v := nI p) hp dX5_readWord_45 ?_
                refine z_iload C dX5_readWord_48 4 rfl ?_
                refine z_iadd C dX5_readWord_50 ?_
                refine z_ti (y := nI (p + k)) (nI_add p k) ?_
                refine z_iald C 3 (by decide) sh3 (p + k) (by omega) (by decide) rfl (v := nI (c (p + k))) (hBy (p + k) (by omega)).1 dX5_readWord_51 ?_
                refine z_aload_n C dX5_readWord_52 rfl 3 rfl ?_
                refine z_iload C dX5_readWord_53 4 rfl ?_
                refine z_callTi C hm cl_X5_69 cv_J0_charAt_5068e u (by omega) rfl [.int (nI k)] rfl (rest := [.int (nI (c (p + k)))]) rfl (k_J0_charAt_5068e w _ _ u k (by omega) (by omega)) ⟨rfl, rfl, Nat.le_of_ble_eq_true rfl, Nat.le_of_ble_eq_true rfl⟩ (Nat.le_of_ble_eq_true rfl) dX5_readWord_55 (fun v_5 I_5 J_5 h_5 => ?_)
                obtain ⟨ev_5, ei_5, ej_5⟩ := h_5
                replace ev_5 := ev_5.symm; subst ev_5
                replace ei_5 := ei_5.symm; subst ei_5
                replace ej_5 := ej_5.symm; subst ej_5
                refine z_ti (y := nI (zSi u k)) hsi.1 ?_
                refine z_icmp_ne_n (c (p + k)) (zSi u k) (tgt := 67) C rfl rfl (by have := (hBy (p + k) (by omega)).2; omega) (by omega) dX5_readWord_58 (by decide) (fun c58 => ?_) (fun c58 => ?_)
                · skip
                  have hsk : zSt c p u = k := by
                    rw [← hs, show zLen.getD u 0 - k = zLen.getD u 0 - k - 1 + 1 by omega, zSm, if_neg c58]; omega
                  refine z_iload C dX5_readWord_67 4 rfl ?_
                  refine z_aload_n C dX5_readWord_69 rfl 3 rfl ?_
                  refine z_callTi C hm cl_X5_65 cv_J0_length_8abf5 u (by omega) rfl [] rfl (rest := [.int (nI k)]) rfl (k_J0_length_8abf5 w _ _ u  (by omega)) ⟨rfl, rfl, Nat.le_of_ble_eq_true rfl, Nat.le_of_ble_eq_true rfl⟩ (Nat.le_of_ble_eq_true rfl) dX5_readWord_70 (fun v_6 I_6 J_6 h_6 => ?_)
                  obtain ⟨ev_6, ei_6, ej_6⟩ := h_6
                  replace ev_6 := ev_6.symm; subst ev_6
                  replace ei_6 := ei_6.symm; subst ei_6
                  replace ej_6 := ej_6.symm; subst ej_6
                  refine z_icmp_ne_n k (zLen.getD u 0) (tgt := 89) C rfl rfl (by omega) (by omega) dX5_readWord_73 (by decide) (fun c73 => ?_) (fun c73 => ?_)
                  · skip
                    refine z_iload_n C dX5_readWord_89 rfl 1 rfl ?_
                    refine z_iload C dX5_readWord_90 4 rfl ?_
                    refine z_max C hm ml_X5_73 st_max in_math co_max (Nat.le_of_ble_eq_true rfl) (Nat.le_of_ble_eq_true rfl) dX5_readWord_92 ?_
                    refine z_ti (y := nI (max (zFt c p u) k)) (max_n (by omega) (by omega)) ?_
                    refine z_istore_n C hm (lv' := [(1, .int (nI (max (zFt c p u) k))), (0, .ref (zad w 2)), (2, .int (nI u)), (3, .ref (w.2.2.2.1 u)), (4, .int (nI k))]) dX5_readWord_95 rfl (by decide) rfl ?_
                    refine z_iinc C hm 2 (v := nI (u + 1)) (lv' := [(2, .int (nI (u + 1))), (1, .int (nI (max (zFt c p u) k))), (0, .ref (zad w 2)), (3, .ref (w.2.2.2.1 u)), (4, .int (nI k))]) dX5_readWord_96 rfl (nI_add u 1) (by decide) rfl ?_
                    refine z_goto (tgt := 4) C dX5_readWord_99 (by decide) ?_
                    exact z_sub [2, 1, 0] rfl (ih4  (u + 1) _ _ (by omega) (by omega) (by rw [show 5 - u = 5 - u - 1 + 1 by omega, zWd, if_neg (by omega)] at hw; rw [show 5 - (u + 1) = 5 - u - 1 by omega]; exact hw) (by rw [zFt, hsk]) rfl)
                  · skip
                    have hyes : zWd c p 5 0 = some u := by rw [← hw, show 5 - u = 5 - u - 1 + 1 by omega, zWd, if_pos (by omega)]
                    refine z_aload_n C dX5_readWord_76 rfl 0 rfl ?_
                    refine z_dup C dX5_readWord_77 rfl ?_
                    refine z_geti C ff_X5_24 2 (by decide) sh2 rfl (v := nI p) hp dX5_readWord_78 ?_
                    refine z_iload C dX5_readWord_81 4 rfl ?_
                    refine z_iadd C dX5_readWord_83 ?_
                    refine z_ti (y := nI (p + k)) (nI_add p k) ?_
                    refine z_puti C ff_X5_24 2 (by decide) sh2 rfl rfl rfl dX5_readWord_84 ?_
                    refine z_I (I' := zup I 2 (upd (I 2) 2 (nI (p + k)))) rfl ?_
                    refine z_iload_n C dX5_readWord_87 rfl 2 rfl ?_
                    refine z_iret C hr rfl dX5_readWord_88 ?_
                    refine ⟨_, rfl, ?_⟩
                    rw [hyes]; exact ⟨rfl, by show _ = zup I 2 (upd (I 2) 2 (nI (p + zLen.getD u 0))); rw [show zLen.getD u 0 = k by omega], rfl⟩
                · skip
                  refine z_iinc C hm 4 (v := nI (k + 1)) (lv' := [(4, .int (nI (k + 1))), (0, .ref (zad w 2)), (1, .int (nI (zFt c p u))), (2, .int (nI u)), (3, .ref (w.2.2.2.1 u))]) dX5_readWord_61 rfl (nI_add k 1) (by decide) rfl ?_
                  refine z_goto (tgt := 17) C dX5_readWord_64 (by decide) ?_
                  exact z_sub [1, 2, 3, 4, 0] rfl (ih17  (k + 1) _ (by omega) (by omega) (by omega) (by rw [show zLen.getD u 0 - k = zLen.getD u 0 - k - 1 + 1 by omega, zSm, if_pos c58] at hs; rw [show zLen.getD u 0 - (k + 1) = zLen.getD u 0 - k - 1 by omega]; omega) rfl)
        exact z_sub [2, 3, 4, 1, 0] rfl (L17 _ 0 _ (Nat.lt_succ_self _) (by omega) (by omega) rfl rfl)
  exact z_sub [2, 1, 0] rfl (L4 _ 0 _ _ (Nat.lt_succ_self _) (by omega) rfl rfl rfl)
