/-! the reference: bytes, words, numbers -/
def zNx (x : Nat) : Int32 := if x < 128 then nI x else if x < 256 then nI x - 256 else -1
theorem nx_eq : ∀ x, x < 301 → ∀ h, h < 128 → (zNx x = nI h ↔ x = h) := by decide +kernel
theorem nx_di : ∀ x, x < 301 → (((48 : Int32) ≤ zNx x ∧ zNx x ≤ 57) ↔ (48 ≤ x ∧ x ≤ 57)) := by decide +kernel
theorem nx_rel : ∀ x, x < 301 → (((60 : Int32) ≤ zNx x ∧ zNx x ≤ 62) ↔ (60 ≤ x ∧ x ≤ 62)) := by decide +kernel
theorem nx_lo {x : Nat} (h : x < 128) : zNx x = nI x := if_pos h
theorem c_301 {c : Nat → Nat} {L : Nat} (hc : ∀ q, q < L → c q < 256) (hBe : ∀ q, L ≤ q → c q = 300) (q : Nat) : c q < 301 := by
  rcases Nat.lt_or_ge q L with h | h
  · have := hc q h; omega
  · rw [hBe q h]; decide
/-- the words as numbers -/
def wCod (u : Nat) : Int32 := [23609, 8423732, 16826546, 24170600, 20583955].getD u 0
theorem wCod_ok : ∀ u, u < 5 → ∀ k, k < zLen.getD u 0 → (96 : Int32) + ((wCod u >>> (nI (5 * k) &&& 31)) &&& 31) = nI (zSi u (zLen.getD u 0 - 1 - k)) := by decide +kernel
abbrev rm_X8_next : Room := { frames := 4, cells := 0, slots := 0, locals := 200 }
set_option maxRecDepth 100000 in
set_option maxHeartbeats 4000000 in
theorem k_X8_next (w : zW) (I : zI) (J : zJ) (c : Nat → Nat) (L p : Nat)  (hL : I 82 6 = nI L) (hl : L ≤ 100) (hp : I 82 7 = nI p) (hpl : p ≤ L) (hBy : ∀ q, q < L → I 86 q = zNx (c q) ∧ c q < 256) (hBe : ∀ q, L ≤ q → c q = 300) : zMet yX8_next cX8_next 1 (some .int) rm_X8_next w [.ref (zad w 82)] I J (zpi (fun v I' J' => v = zNx (c p) ∧ I' = I ∧ J' = J)) := by
  refine zMet_of (by decide) (Nat.le_of_ble_eq_true rfl) (fun X C hm hr => ?_)
  refine z_sub (lv' := [(0, .ref (zad w 82))]) [0] rfl ?_
  refine z_aload_n C dX8_next_0 rfl 0 rfl ?_
  refine z_geti C ff_X8_32 82 (by decide) sh82 rfl (v := nI p) hp dX8_next_1 ?_
  refine z_aload_n C dX8_next_4 rfl 0 rfl ?_
  refine z_geti C ff_X8_29 82 (by decide) sh82 rfl (v := nI L) hL dX8_next_5 ?_
  refine z_icmp_ge_n p L (tgt := 23) C rfl rfl (by omega) (by omega) dX8_next_8 (by decide) (fun c8 => ?_) (fun c8 => ?_)
  · skip
    refine z_iconst C (v := -1) dX8_next_23 (by decide) ?_
    refine z_iret C hr rfl dX8_next_24 ?_
    refine ⟨_, rfl, ?_⟩
    exact ⟨by rw [hBe p (by omega)]; rfl, rfl, rfl⟩
  · skip
    refine z_aload_n C dX8_next_11 rfl 0 rfl ?_
    refine z_getr C ff_X8_38 82 (by decide) sh82 rfl dX8_next_12 ?_
    refine z_aload_n C dX8_next_15 rfl 0 rfl ?_
    refine z_geti C ff_X8_32 82 (by decide) sh82 rfl (v := nI p) hp dX8_next_16 ?_
    refine z_iald C 86 (by decide) sh86 p (by omega) (by decide) rfl (v := zNx (c p)) (hBy p (by omega)).1 dX8_next_19 ?_
    refine z_goto (tgt := 24) C dX8_next_20 (by decide) ?_
    refine z_iret C hr rfl dX8_next_24 ?_
    refine ⟨_, rfl, ?_⟩
    exact ⟨rfl, rfl, rfl⟩
abbrev rm_X8_third : Room := { frames := 4, cells := 0, slots := 0, locals := 200 }
set_option maxRecDepth 100000 in
set_option maxHeartbeats 4000000 in
theorem k_X8_third (w : zW) (I : zI) (J : zJ) (c : Nat → Nat) (L p : Nat)  (hL : I 82 6 = nI L) (hl : L ≤ 100) (hp : I 82 7 = nI p) (hpl : p ≤ L) (hBy : ∀ q, q < L → I 86 q = zNx (c q) ∧ c q < 256) (hBe : ∀ q, L ≤ q → c q = 300) : zMet yX8_third cX8_third 1 (some .int) rm_X8_third w [.ref (zad w 82)] I J (zpi (fun v I' J' => v = zNx (c (p + 2)) ∧ I' = I ∧ J' = J)) := by
  refine zMet_of (by decide) (Nat.le_of_ble_eq_true rfl) (fun X C hm hr => ?_)
  refine z_sub (lv' := [(0, .ref (zad w 82))]) [0] rfl ?_
  refine z_aload_n C dX8_third_0 rfl 0 rfl ?_
  refine z_geti C ff_X8_32 82 (by decide) sh82 rfl (v := nI p) hp dX8_third_1 ?_
  refine z_iconst C (v := 2) dX8_third_4 (by decide) ?_
  refine z_iadd C dX8_third_5 ?_
  refine z_ti (y := nI (p + 2)) (nI_add p 2) ?_
  refine z_aload_n C dX8_third_6 rfl 0 rfl ?_
  refine z_geti C ff_X8_29 82 (by decide) sh82 rfl (v := nI L) hL dX8_third_7 ?_
  refine z_icmp_ge_n (p + 2) L (tgt := 27) C rfl rfl (by omega) (by omega) dX8_third_10 (by decide) (fun c10 => ?_) (fun c10 => ?_)
  · skip
    refine z_iconst C (v := -1) dX8_third_27 (by decide) ?_
    refine z_iret C hr rfl dX8_third_28 ?_
    refine ⟨_, rfl, ?_⟩
    exact ⟨by rw [hBe (p + 2) (by omega)]; rfl, rfl, rfl⟩
  · skip
    refine z_aload_n C dX8_third_13 rfl 0 rfl ?_
    refine z_getr C ff_X8_38 82 (by decide) sh82 rfl dX8_third_14 ?_
    refine z_aload_n C dX8_third_17 rfl 0 rfl ?_
    refine z_geti C ff_X8_32 82 (by decide) sh82 rfl (v := nI p) hp dX8_third_18 ?_
    refine z_iconst C (v := 2) dX8_third_21 (by decide) ?_
    refine z_iadd C dX8_third_22 ?_
    refine z_ti (y := nI (p + 2)) (nI_add p 2) ?_
    refine z_iald C 86 (by decide) sh86 (p + 2) (by omega) (by decide) rfl (v := zNx (c (p + 2))) (hBy (p + 2) (by omega)).1 dX8_third_23 ?_
    refine z_goto (tgt := 28) C dX8_third_24 (by decide) ?_
    refine z_iret C hr rfl dX8_third_28 ?_
    refine ⟨_, rfl, ?_⟩
    exact ⟨rfl, rfl, rfl⟩
abbrev rm_X8_takes : Room := { frames := 5, cells := 0, slots := 0, locals := 220 }
set_option maxRecDepth 100000 in
set_option maxHeartbeats 4000000 in
theorem k_X8_takes (w : zW) (I : zI) (J : zJ) (c : Nat → Nat) (L p : Nat) (x : Nat) (hL : I 82 6 = nI L) (hl : L ≤ 100) (hp : I 82 7 = nI p) (hpl : p ≤ L) (hBy : ∀ q, q < L → I 86 q = zNx (c q) ∧ c q < 256) (hBe : ∀ q, L ≤ q → c q = 300) (hx : x < 128) : zMet yX8_takes cX8_takes 2 (some .boolean) rm_X8_takes w [.ref (zad w 82), .int (nI x)] I J (zpi (fun v I' J' => v = bI (c p = x) ∧ I' = cif (c p = x) (zup I 82 (upd (I 82) 7 (nI (p + 1)))) I ∧ J' = J)) := by
  refine zMet_of (by decide) (Nat.le_of_ble_eq_true rfl) (fun X C hm hr => ?_)
  refine z_sub (lv' := [(0, .ref (zad w 82)), (1, .int (nI x))]) [0, 1] rfl ?_
  refine z_aload_n C dX8_takes_0 rfl 0 rfl ?_
  refine z_callVi C hm cl_X8_197 cv_X8_next 82 (by decide) sh82 ⟨_, _, rfl⟩ [] rfl (rest := []) rfl (k_X8_next w _ _ c L p  (by exact hL) hl (by exact hp) (by omega) (by exact hBy) hBe) ⟨rfl, rfl, Nat.le_of_ble_eq_true rfl, Nat.le_of_ble_eq_true rfl⟩ (Nat.le_of_ble_eq_true rfl) dX8_takes_1 (fun v_1 I_1 J_1 h_1 => ?_)
  obtain ⟨ev_1, ei_1, ej_1⟩ := h_1
  replace ev_1 := ev_1.symm; subst ev_1
  replace ei_1 := ei_1.symm; subst ei_1
  replace ej_1 := ej_1.symm; subst ej_1
  refine z_iload_n C dX8_takes_4 rfl 1 rfl ?_
  refine z_icmp_eq (tgt := 10) C dX8_takes_5 (by decide) (fun c5 => ?_) (fun c5 => ?_)
  · skip
    refine z_aload_n C dX8_takes_10 rfl 0 rfl ?_
    refine z_dup C dX8_takes_11 rfl ?_
    refine z_geti C ff_X8_32 82 (by decide) sh82 rfl (v := nI p) hp dX8_takes_12 ?_
    refine z_iconst C (v := 1) dX8_takes_15 (by decide) ?_
    refine z_iadd C dX8_takes_16 ?_
    refine z_ti (y := nI (p + 1)) (nI_add p 1) ?_
    refine z_puti C ff_X8_32 82 (by decide) sh82 rfl rfl rfl dX8_takes_17 ?_
    refine z_I (I' := zup I 82 (upd (I 82) 7 (nI (p + 1)))) rfl ?_
    refine z_iconst C (v := 1) dX8_takes_20 (by decide) ?_
    refine z_iret C hr (by decide) dX8_takes_21 ?_
    refine ⟨_, rfl, ?_⟩
    have hcx := (nx_eq (c p) (c_301 (fun q hq => (hBy q hq).2) hBe _) x hx).mp c5
    exact ⟨(bI_t hcx).symm, by rw [cif_t hcx], rfl⟩
  · skip
    refine z_iconst C (v := 0) dX8_takes_8 (by decide) ?_
    refine z_iret C hr (by decide) dX8_takes_9 ?_
    refine ⟨_, rfl, ?_⟩
    have hcx : ¬ c p = x := fun q => c5 ((nx_eq (c p) (c_301 (fun q hq => (hBy q hq).2) hBe _) x hx).mpr q)
    exact ⟨(bI_f hcx).symm, by rw [cif_f hcx], rfl⟩
abbrev rm_X8_takesWord : Room := { frames := 6, cells := 0, slots := 0, locals := 241 }
set_option maxRecDepth 100000 in
set_option maxHeartbeats 4000000 in
theorem k_X8_takesWord (w : zW) (I : zI) (J : zJ) (u : Nat) (c : Nat → Nat) (L p : Nat) (wd : Int32) (sz : Nat) (hu5 : u < 5) (hwd : wd = wCod u) (hsz : sz = zLen.getD u 0) (hL : I 82 6 = nI L) (hl : L ≤ 100) (hp : I 82 7 = nI p) (hpl : p ≤ L) (hBy : ∀ q, q < L → I 86 q = zNx (c q) ∧ c q < 256) (hBe : ∀ q, L ≤ q → c q = 300) : zMet yX8_takesWord cX8_takesWord 4 (some .boolean) rm_X8_takesWord w [.ref (zad w 82), .int wd, .int (nI sz)] I J (zpi (fun v I' J' => v = bI (zSt c p u = zLen.getD u 0 ∧ c (p + zLen.getD u 0) = 32) ∧ I' = zup I 82 (upd (I 82) 7 (nI (p + cif (zSt c p u = zLen.getD u 0) (cif (c (p + zLen.getD u 0) = 32) (zLen.getD u 0 + 1) (zLen.getD u 0)) (zSt c p u)))) ∧ J' = J)) := by
  refine zMet_of (by decide) (Nat.le_of_ble_eq_true rfl) (fun X C hm hr => ?_)
  refine z_sub (lv' := [(0, .ref (zad w 82)), (1, .int wd), (2, .int (nI sz))]) [0, 1, 2] rfl ?_
  have h5 := zLen_le u (by omega)
  have hwu := zSt_L (c := c) (p := p) (u := u) (by omega) hBe hpl
  refine z_iload_n C dX8_takesWord_0 rfl 2 rfl ?_
  refine z_iconst C (v := 1) dX8_takesWord_1 (by decide) ?_
  refine z_isub C dX8_takesWord_2 ?_
  refine z_istore_n C hm (lv' := [(3, .int ((nI sz) - 1)), (0, .ref (zad w 82)), (1, .int wd), (2, .int (nI sz))]) dX8_takesWord_3 rfl (by decide) rfl ?_
  have L4 : ∀ (d : Nat) (j : Nat) (v4_3 : Int32) (I4 : zI), (zLen.getD u 0 - j) < d → (j ≤ zLen.getD u 0) → (p + j ≤ L) → (zSm c u p (zLen.getD u 0 - j) j + j = zSt c p u) → v4_3 = nI (zLen.getD u 0 - j) + Int32.ofInt (-1) → I4 = zup I 82 (upd (I 82) 7 (nI (p + j))) → Z X w I4 J 4 [(0, .ref (zad w 82)), (1, .int wd), (2, .int (nI sz)), (3, .int v4_3)] [] := by
    intro d
    induction d with
    | zero => intro j v4_3 I4 hd; exact absurd hd (Nat.not_lt_zero _)
    | succ d ih4 => 
      intro j v4_3 I4 hd4 hj hpj hs e_v4_3 e_I4
      replace e_v4_3 := e_v4_3.symm; subst e_v4_3
      replace e_I4 := e_I4.symm; subst e_I4
      refine z_iload_n C dX8_takesWord_4 rfl 3 rfl ?_
      refine z_if_lt (tgt := 34) C dX8_takesWord_5 (by decide) (fun c5 => ?_) (fun c5 => ?_)
      · skip
        have hje : j = zLen.getD u 0 := by
          rcases Nat.lt_or_ge j (zLen.getD u 0) with q | q
          · exfalso; rw [show zLen.getD u 0 - j = zLen.getD u 0 - j - 1 + 1 by omega, pm1] at c5; exact nI_pos (by omega) c5
          · omega
        rw [hje, Nat.sub_self, zSm] at hs
        rw [hje]
        rw [hje] at hpj
        refine z_aload_n C dX8_takesWord_34 rfl 0 rfl ?_
        refine z_bipush C (v := 32) dX8_takesWord_35 (by decide) ?_
        refine z_callVi C hm cl_X8_201 cv_X8_takes 82 (by decide) sh82 ⟨_, _, rfl⟩ [.int 32] rfl (rest := []) rfl (k_X8_takes w _ _ c L (p + zLen.getD u 0) 32 (by exact hL) hl (by exact rfl) (by omega) (by exact hBy) hBe (by decide)) ⟨rfl, rfl, Nat.le_of_ble_eq_true rfl, Nat.le_of_ble_eq_true rfl⟩ (Nat.le_of_ble_eq_true rfl) dX8_takesWord_37 (fun v_1 I_1 J_1 h_1 => ?_)
        obtain ⟨ev_1, ei_1, ej_1⟩ := h_1
        replace ej_1 := ej_1.symm; subst ej_1
        by_cases ce2 : c (p + zLen.getD u 0) = 32
        · skip
          rw [bI_t ce2] at ev_1; rw [cif_t ce2] at ei_1; subst ev_1; subst ei_1
          have ce2L : p + zLen.getD u 0 < L := Nat.lt_of_not_le (fun z => by have := hBe _ z; have := hBe 0; omega)
          refine z_I (I' := zup I 82 (upd (I 82) 7 (nI (p + zLen.getD u 0 + 1)))) (by funext zk; by_cases h1 : zk = 82 <;> simp [zup, h1, upd_2]) ?_
          refine z_iret C hr (by decide) dX8_takesWord_40 ?_
          refine ⟨_, rfl, ?_⟩
          exact ⟨(bI_t ⟨by omega, ce2⟩).symm, by rw [cif_t (by omega), cif_t ce2]; rfl, rfl⟩
        · skip
          rw [bI_f ce2] at ev_1; rw [cif_f ce2] at ei_1; subst ev_1; subst ei_1
          refine z_iret C hr (by decide) dX8_takesWord_40 ?_
          refine ⟨_, rfl, ?_⟩
          exact ⟨(bI_f (fun q => ce2 q.2)).symm, by rw [cif_t (by omega), cif_f ce2], rfl⟩
      · skip
        have hjl : j < zLen.getD u 0 := by
          rcases Nat.lt_or_ge j (zLen.getD u 0) with q | q
          · exact q
          · exfalso; apply c5; rw [show zLen.getD u 0 - j = 0 by omega]; exact pm1_0
        rw [show zLen.getD u 0 - j = zLen.getD u 0 - j - 1 + 1 by omega, pm1]
        have hsi := zSi_ok u (by omega) j hjl
        refine z_aload_n C dX8_takesWord_8 rfl 0 rfl ?_
        refine z_bipush C (v := 96) dX8_takesWord_9 (by decide) ?_
        refine z_iload_n C dX8_takesWord_11 rfl 1 rfl ?_
        refine z_iconst C (v := 5) dX8_takesWord_12 (by decide) ?_
        refine z_iload_n C dX8_takesWord_13 rfl 3 rfl ?_
        refine z_imul C dX8_takesWord_14 ?_
        refine z_ti (y := nI (5 * (zLen.getD u 0 - j - 1))) (pk_mul 5 (zLen.getD u 0 - j - 1)) ?_
        refine z_ishr C dX8_takesWord_15 ?_
        refine z_bipush C (v := 31) dX8_takesWord_16 (by decide) ?_
        refine z_iand C dX8_takesWord_18 ?_
        refine z_iadd C dX8_takesWord_19 ?_
        refine z_ti (y := nI (zSi u j)) (by rw [hwd]; have e := wCod_ok u hu5 (zLen.getD u 0 - j - 1) (by omega); rw [show zLen.getD u 0 - 1 - (zLen.getD u 0 - j - 1) = j by omega] at e; exact e) ?_
        refine z_callVi C hm cl_X8_201 cv_X8_takes 82 (by decide) sh82 ⟨_, _, rfl⟩ [.int (nI (zSi u j))] rfl (rest := []) rfl (k_X8_takes w _ _ c L (p + j) (zSi u j) (by exact hL) hl (by exact rfl) (by omega) (by exact hBy) hBe (by omega)) ⟨rfl, rfl, Nat.le_of_ble_eq_true rfl, Nat.le_of_ble_eq_true rfl⟩ (Nat.le_of_ble_eq_true rfl) dX8_takesWord_20 (fun v_2 I_2 J_2 h_2 => ?_)
        obtain ⟨ev_2, ei_2, ej_2⟩ := h_2
        replace ej_2 := ej_2.symm; subst ej_2
        by_cases ce1 : c (p + j) = (zSi u j)
        · skip
          rw [bI_t ce1] at ev_2; rw [cif_t ce1] at ei_2; subst ev_2; subst ei_2
          have ce1L : p + j < L := Nat.lt_of_not_le (fun z => by have := hBe _ z; have := hsi.2; omega)
          refine z_I (I' := zup I 82 (upd (upd (I 82) 7 (nI (p + j))) 7 (nI (p + j + 1)))) (by funext zk; by_cases h1 : zk = 82 <;> simp [zup, h1, upd_2]) ?_
          refine z_if_ne (tgt := 28) C dX8_takesWord_23 (by decide) (fun c23 => ?_) (fun c23 => ?_)
          · skip
            refine z_iinc C hm 3 (v := (nI (zLen.getD u 0 - j - 1)) + Int32.ofInt (-1)) (lv' := [(3, .int ((nI (zLen.getD u 0 - j - 1)) + Int32.ofInt (-1))), (0, .ref (zad w 82)), (1, .int wd), (2, .int (nI sz))]) dX8_takesWord_28 rfl rfl (by decide) rfl ?_
            refine z_goto (tgt := 4) C dX8_takesWord_31 (by decide) ?_
            exact z_sub [1, 2, 3, 0] rfl (ih4  (j + 1) _ _ (by omega) (by omega) (by omega) (by rw [show zLen.getD u 0 - j = zLen.getD u 0 - j - 1 + 1 by omega, zSm, if_pos ce1] at hs; rw [show zLen.getD u 0 - (j + 1) = zLen.getD u 0 - j - 1 by omega]; omega) (by rw [show zLen.getD u 0 - (j + 1) = zLen.getD u 0 - j - 1 by omega]) (by rw [upd_2]; rfl))
          · skip
            exact absurd c23 (by decide)
        · skip
          rw [bI_f ce1] at ev_2; rw [cif_f ce1] at ei_2; subst ev_2; subst ei_2
          have hst : zSt c p u = j := by
            rw [← hs, show zLen.getD u 0 - j = zLen.getD u 0 - j - 1 + 1 by omega, zSm, if_neg ce1]; omega
          refine z_if_ne (tgt := 28) C dX8_takesWord_23 (by decide) (fun c23 => ?_) (fun c23 => ?_)
          · skip
            exact absurd rfl c23
          · skip
            refine z_iconst C (v := 0) dX8_takesWord_26 (by decide) ?_
            refine z_iret C hr (by decide) dX8_takesWord_27 ?_
            refine ⟨_, rfl, ?_⟩
            exact ⟨(bI_f (fun q => by omega)).symm, by rw [cif_f (by omega), hst], rfl⟩
  exact z_sub [1, 2, 3, 0] rfl (L4 _ 0 _ _ (Nat.lt_succ_self _) (Nat.zero_le _) hpl rfl (by rw [hsz, Nat.sub_zero]; exact m1s _) (by rw [Nat.add_zero, ← hp, upd_id, zup_id]))
abbrev rm_X8_isDigit : Room := { frames := 5, cells := 0, slots := 0, locals := 223 }
set_option maxRecDepth 100000 in
set_option maxHeartbeats 4000000 in
theorem k_X8_isDigit (w : zW) (I : zI) (J : zJ) (c : Nat → Nat) (L p : Nat)  (hL : I 82 6 = nI L) (hl : L ≤ 100) (hp : I 82 7 = nI p) (hpl : p ≤ L) (hBy : ∀ q, q < L → I 86 q = zNx (c q) ∧ c q < 256) (hBe : ∀ q, L ≤ q → c q = 300) : zMet yX8_isDigit cX8_isDigit 1 (some .boolean) rm_X8_isDigit w [.ref (zad w 82)] I J (zpi (fun v I' J' => v = bI (zDi (c p)) ∧ I' = I ∧ J' = J)) := by
  refine zMet_of (by decide) (Nat.le_of_ble_eq_true rfl) (fun X C hm hr => ?_)
  refine z_sub (lv' := [(0, .ref (zad w 82))]) [0] rfl ?_
  refine z_aload_n C dX8_isDigit_0 rfl 0 rfl ?_
  refine z_aload_n C dX8_isDigit_1 rfl 0 rfl ?_
  refine z_callVi C hm cl_X8_197 cv_X8_next 82 (by decide) sh82 ⟨_, _, rfl⟩ [] rfl (rest := [.ref (zad w 82)]) rfl (k_X8_next w _ _ c L p  (by exact hL) hl (by exact hp) (by omega) (by exact hBy) hBe) ⟨rfl, rfl, Nat.le_of_ble_eq_true rfl, Nat.le_of_ble_eq_true rfl⟩ (Nat.le_of_ble_eq_true rfl) dX8_isDigit_2 (fun v_1 I_1 J_1 h_1 => ?_)
  obtain ⟨ev_1, ei_1, ej_1⟩ := h_1
  replace ev_1 := ev_1.symm; subst ev_1
  replace ei_1 := ei_1.symm; subst ei_1
  replace ej_1 := ej_1.symm; subst ej_1
  refine z_bipush C (v := 48) dX8_isDigit_5 (by decide) ?_
  refine z_bipush C (v := 57) dX8_isDigit_7 (by decide) ?_
  refine z_callVi C hm cl_X8_189 cv_X8_in 82 (by decide) sh82 ⟨_, _, rfl⟩ [.int (zNx (c p)), .int 48, .int 57] rfl (rest := []) rfl (k_X8_in w _ _ (zNx (c p)) (48) (57)) ⟨rfl, rfl, Nat.le_of_ble_eq_true rfl, Nat.le_of_ble_eq_true rfl⟩ (Nat.le_of_ble_eq_true rfl) dX8_isDigit_9 (fun v_2 I_2 J_2 h_2 => ?_)
  obtain ⟨ev_2, ei_2, ej_2⟩ := h_2
  replace ei_2 := ei_2.symm; subst ei_2
  replace ej_2 := ej_2.symm; subst ej_2
  replace ev_2 := ev_2.trans (bI_c (nx_di (c p) (c_301 (fun q hq => (hBy q hq).2) hBe _))); subst ev_2
  refine z_iret C hr (nar_b _) dX8_isDigit_12 ?_
  refine ⟨_, rfl, ?_⟩
  exact ⟨rfl, rfl, rfl⟩
theorem upd_78 {f : Nat → Int32} : upd (upd f 8 0) 7 (f 7) = upd f 8 0 := by
  funext j; simp only [upd]
  by_cases h : j = 7
  · subst h; rfl
  · rw [if_neg h]
theorem upd_877 {f : Nat → Int32} {a b x y : Int32} : upd (upd (upd (upd f 8 a) 7 b) 8 x) 7 y = upd (upd f 8 x) 7 y := by
  funext j
  by_cases h : j = 7
  · simp [upd, h]
  · by_cases q : j = 8
    · simp [upd, q]
    · simp [upd, h, q]
abbrev rm_X8_takesNumber : Room := { frames := 6, cells := 0, slots := 0, locals := 243 }
set_option maxRecDepth 100000 in
set_option maxHeartbeats 4000000 in
theorem k_X8_takesNumber (w : zW) (I : zI) (J : zJ) (c : Nat → Nat) (L p : Nat) (m : Nat) (hL : I 82 6 = nI L) (hl : L ≤ 100) (hp : I 82 7 = nI p) (hpl : p ≤ L) (hBy : ∀ q, q < L → I 86 q = zNx (c q) ∧ c q < 256) (hBe : ∀ q, L ≤ q → c q = 300) (hm1 : 1 ≤ m) (hm3 : m ≤ 3) : zMet yX8_takesNumber cX8_takesNumber 3 (some .boolean) rm_X8_takesNumber w [.ref (zad w 82), .int (nI m)] I J (zpi (fun v I' J' => v = bI (zDc c m p ≠ 0) ∧ I' = cif (zDc c m p ≠ 0) (zup I 82 (upd (upd (I 82) 8 (nI (zDv c p (zDc c m p)))) 7 (nI (p + zDc c m p)))) I ∧ J' = J)) := by
  refine zMet_of (by decide) (Nat.le_of_ble_eq_true rfl) (fun X C hm hr => ?_)
  refine z_sub (lv' := [(0, .ref (zad w 82)), (1, .int (nI m))]) [0, 1] rfl ?_
  refine z_aload_n C dX8_takesNumber_0 rfl 0 rfl ?_
  refine z_callVi C hm cl_X8_204 cv_X8_isDigit 82 (by decide) sh82 ⟨_, _, rfl⟩ [] rfl (rest := []) rfl (k_X8_isDigit w _ _ c L p  (by exact hL) hl (by exact hp) (by omega) (by exact hBy) hBe) ⟨rfl, rfl, Nat.le_of_ble_eq_true rfl, Nat.le_of_ble_eq_true rfl⟩ (Nat.le_of_ble_eq_true rfl) dX8_takesNumber_1 (fun v_1 I_1 J_1 h_1 => ?_)
  obtain ⟨ev_1, ei_1, ej_1⟩ := h_1
  replace ev_1 := ev_1.symm; subst ev_1
  replace ei_1 := ei_1.symm; subst ei_1
  replace ej_1 := ej_1.symm; subst ej_1
  refine z_ifne_b (tgt := 9) C dX8_takesNumber_4 (by decide) (fun c4 => ?_) (fun c4 => ?_)
  · skip
    refine z_aload_n C dX8_takesNumber_9 rfl 0 rfl ?_
    refine z_iconst C (v := 0) dX8_takesNumber_10 (by decide) ?_
    refine z_puti C ff_X8_35 82 (by decide) sh82 rfl rfl rfl dX8_takesNumber_11 ?_
    refine z_I (I' := zup I 82 (upd (I 82) 8 0)) rfl ?_
    refine z_iconst C (v := 0) dX8_takesNumber_14 (by decide) ?_
    refine z_istore_n C hm (lv' := [(2, .int 0), (0, .ref (zad w 82)), (1, .int (nI m))]) dX8_takesNumber_15 rfl (by decide) rfl ?_
    have L16 : ∀ (d : Nat) (i : Nat) (v16_2 : Int32) (I16 : zI), (m - i) < d → (i ≤ m) → (p + i ≤ L) → (zDc c (m - i) (p + i) + i = zDc c m p) → (∀ j, j < i → zDi (c (p + j))) → v16_2 = nI i → I16 = zup I 82 (upd (upd (I 82) 8 (nI (zDv c p i))) 7 (nI (p + i))) → Z X w I16 J 16 [(0, .ref (zad w 82)), (1, .int (nI m)), (2, .int v16_2)] [] := by
      intro d
      induction d with
      | zero => intro i v16_2 I16 hd; exact absurd hd (Nat.not_lt_zero _)
      | succ d ih16 => 
        intro i v16_2 I16 hd16 hi hpi hdc hdg e_v16_2 e_I16
        replace e_v16_2 := e_v16_2.symm; subst e_v16_2
        replace e_I16 := e_I16.symm; subst e_I16
        refine z_iload_n C dX8_takesNumber_16 rfl 2 rfl ?_
        refine z_iload_n C dX8_takesNumber_17 rfl 1 rfl ?_
        refine z_icmp_ge_n i m (tgt := 63) C rfl rfl (by omega) (by omega) dX8_takesNumber_18 (by decide) (fun c18 => ?_) (fun c18 => ?_)
        · skip
          have hke : zDc c m p = i := by
            rw [show m - i = 0 by omega, zDc] at hdc; omega
          have hkn : i ≠ 0 := by omega
          refine z_iconst C (v := 1) dX8_takesNumber_63 (by decide) ?_
          refine z_iret C hr (by decide) dX8_takesNumber_64 ?_
          refine ⟨_, rfl, ?_⟩
          exact ⟨(bI_t (by omega)).symm, by rw [cif_t (by omega), hke], rfl⟩
        · skip
          refine z_aload_n C dX8_takesNumber_21 rfl 0 rfl ?_
          refine z_callVi C hm cl_X8_204 cv_X8_isDigit 82 (by decide) sh82 ⟨_, _, rfl⟩ [] rfl (rest := []) rfl (k_X8_isDigit w _ _ c L (p + i)  (by exact hL) hl (by exact rfl) (by omega) (by exact hBy) hBe) ⟨rfl, rfl, Nat.le_of_ble_eq_true rfl, Nat.le_of_ble_eq_true rfl⟩ (Nat.le_of_ble_eq_true rfl) dX8_takesNumber_22 (fun v_2 I_2 J_2 h_2 => ?_)
          obtain ⟨ev_2, ei_2, ej_2⟩ := h_2
          replace ev_2 := ev_2.symm; subst ev_2
          replace ei_2 := ei_2.symm; subst ei_2
          replace ej_2 := ej_2.symm; subst ej_2
          refine z_ifeq_b (tgt := 63) C dX8_takesNumber_25 (by decide) (fun c25 => ?_) (fun c25 => ?_)
          · skip
            have hke : zDc c m p = i := by
              rw [show m - i = m - i - 1 + 1 by omega, zDc, cif_f c25] at hdc; omega
            have hkn : i ≠ 0 := fun q => by rw [q, Nat.add_zero] at c25; exact c25 c4
            refine z_iconst C (v := 1) dX8_takesNumber_63 (by decide) ?_
            refine z_iret C hr (by decide) dX8_takesNumber_64 ?_
            refine ⟨_, rfl, ?_⟩
            exact ⟨(bI_t (by omega)).symm, by rw [cif_t (by omega), hke], rfl⟩
          · skip
            have hpiL : p + i < L := Nat.lt_of_not_le (fun z => by have := hBe _ z; unfold zDi at c25; omega)
            have hvl := zDv_lt (c := c) (p := p) i hdg
            have hv3 : 10 ^ i ≤ 10 ^ 3 := Nat.pow_le_pow_right (by decide) (by omega)
            have hci : c (p + i) < 128 := by unfold zDi at c25; omega
            refine z_aload_n C dX8_takesNumber_28 rfl 0 rfl ?_
            refine z_bipush C (v := 10) dX8_takesNumber_29 (by decide) ?_
            refine z_aload_n C dX8_takesNumber_31 rfl 0 rfl ?_
            refine z_geti C ff_X8_35 82 (by decide) sh82 rfl (v := nI (zDv c p i)) (by first | exact rfl | (simp [zup, zupJ, upd, vp_updL]; exact rfl)) dX8_takesNumber_32 ?_
            refine z_imul C dX8_takesNumber_35 ?_
            refine z_ti (y := nI (10 * (zDv c p i))) (pk_mul 10 (zDv c p i)) ?_
            refine z_aload_n C dX8_takesNumber_36 rfl 0 rfl ?_
            refine z_callVi C hm cl_X8_197 cv_X8_next 82 (by decide) sh82 ⟨_, _, rfl⟩ [] rfl (rest := [.int (nI (10 * (zDv c p i))), .ref (zad w 82)]) rfl (k_X8_next w _ _ c L (p + i)  (by exact hL) hl (by exact rfl) (by omega) (by exact hBy) hBe) ⟨rfl, rfl, Nat.le_of_ble_eq_true rfl, Nat.le_of_ble_eq_true rfl⟩ (Nat.le_of_ble_eq_true rfl) dX8_takesNumber_37 (fun v_3 I_3 J_3 h_3 => ?_)
            obtain ⟨ev_3, ei_3, ej_3⟩ := h_3
            replace ev_3 := ev_3.symm; subst ev_3
            replace ei_3 := ei_3.symm; subst ei_3
            replace ej_3 := ej_3.symm; subst ej_3
            refine z_ti (y := nI (c (p + i))) (nx_lo hci) ?_
            refine z_iadd C dX8_takesNumber_40 ?_
            refine z_ti (y := nI (10 * (zDv c p i) + (c (p + i)))) (nI_add (10 * (zDv c p i)) (c (p + i))) ?_
            refine z_bipush C (v := 48) dX8_takesNumber_41 (by decide) ?_
            refine z_isub C dX8_takesNumber_43 ?_
            refine z_ti (y := nI (zDv c p (i + 1))) (by
                have e := pk_sub (a := 10 * zDv c p i + c (p + i)) (b := 48) (by unfold zDi at c25; omega)
                rw [zDv, show zDv c p i * 10 + (c (p + i) - 48) = 10 * zDv c p i + c (p + i) - 48 by unfold zDi at c25; omega]; exact e) ?_
            refine z_puti C ff_X8_35 82 (by decide) sh82 rfl rfl rfl dX8_takesNumber_44 ?_
            refine z_I (I' := zup I 82 (upd (upd (upd (I 82) 8 (nI (zDv c p i))) 7 (nI (p + i))) 8 (nI (zDv c p (i + 1))))) (by rw [zup_s, zup_up]) ?_
            refine z_aload_n C dX8_takesNumber_47 rfl 0 rfl ?_
            refine z_dup C dX8_takesNumber_48 rfl ?_
            refine z_geti C ff_X8_32 82 (by decide) sh82 rfl (v := nI (p + i)) (by first | exact rfl | (simp [zup, zupJ, upd, vp_updL]; exact rfl)) dX8_takesNumber_49 ?_
            refine z_iconst C (v := 1) dX8_takesNumber_52 (by decide) ?_
            refine z_iadd C dX8_takesNumber_53 ?_
            refine z_ti (y := nI ((p + i) + 1)) (nI_add (p + i) 1) ?_
            refine z_puti C ff_X8_32 82 (by decide) sh82 rfl rfl rfl dX8_takesNumber_54 ?_
            refine z_I (I' := zup I 82 (upd (upd (upd (upd (I 82) 8 (nI (zDv c p i))) 7 (nI (p + i))) 8 (nI (zDv c p (i + 1)))) 7 (nI ((p + i) + 1)))) (by rw [zup_s, zup_up]) ?_
            refine z_iinc C hm 2 (v := nI (i + 1)) (lv' := [(2, .int (nI (i + 1))), (0, .ref (zad w 82)), (1, .int (nI m))]) dX8_takesNumber_57 rfl (nI_add i 1) (by decide) rfl ?_
            refine z_goto (tgt := 16) C dX8_takesNumber_60 (by decide) ?_
            exact z_sub [1, 2, 0] rfl (ih16  (i + 1) _ _ (by omega) (by omega) (by omega) (by rw [show m - i = m - (i + 1) + 1 by omega, zDc, cif_t c25] at hdc; rw [show p + (i + 1) = p + i + 1 by omega]; omega) (lt_s hdg c25) rfl (by congr 1; exact upd_877))
    exact z_sub [1, 2, 0] rfl (L16 _ 0 _ _ (Nat.lt_succ_self _) (Nat.zero_le _) hpl (by rw [Nat.sub_zero, Nat.add_zero, Nat.add_zero]) (fun _ h0 => absurd h0 (Nat.not_lt_zero _)) rfl (by rw [Nat.add_zero, ← hp]; exact congrArg (zup I 82) upd_78.symm))
  · skip
    have hz0 : zDc c m p = 0 := by
      rw [show m = m - 1 + 1 by omega, zDc, cif_f c4]
    refine z_iconst C (v := 0) dX8_takesNumber_7 (by decide) ?_
    refine z_iret C hr (by decide) dX8_takesNumber_8 ?_
    refine ⟨_, rfl, ?_⟩
    exact ⟨(bI_f (fun q => q hz0)).symm, by rw [cif_f (fun q => q hz0)], rfl⟩
theorem pl_b : ∀ x, x < 301 → (x == 97 || x == 98 || x == 115 || x == 108 || x == 102 || (zWh 5 x (zLen.getD 5 0) 0).isNone) = true := by decide +kernel
theorem pl_no (x : Nat) (h : x < 301) (h1 : x ≠ 97) (h2 : x ≠ 98) (h3 : x ≠ 115) (h4 : x ≠ 108) (h5 : x ≠ 102) : zWh 5 x (zLen.getD 5 0) 0 = none := by
  have := pl_b x h
  rw [beq_false_of_ne h1, beq_false_of_ne h2, beq_false_of_ne h3, beq_false_of_ne h4, beq_false_of_ne h5] at this
  exact Option.isNone_iff_eq_none.mp this
abbrev rm_X8_place : Room := { frames := 4, cells := 0, slots := 0, locals := 200 }
set_option maxRecDepth 100000 in
set_option maxHeartbeats 4000000 in
theorem k_X8_place (w : zW) (I : zI) (J : zJ) (x : Nat) (v0 : Int32) (hx3 : x < 301) (hv0 : v0 = zNx x) : zMet yX8_place cX8_place 2 (some .int) rm_X8_place w [.ref (zad w 82), .int v0] I J (zpi (fun v I' J' => v = (match zWh 5 x (zLen.getD 5 0) 0 with | none => -1 | some k => nI k) ∧ I' = I ∧ J' = J)) := by
  refine zMet_of (by decide) (Nat.le_of_ble_eq_true rfl) (fun X C hm hr => ?_)
  refine z_sub (lv' := [(0, .ref (zad w 82)), (1, .int v0)]) [0, 1] rfl ?_
  subst hv0
  refine z_iload_n C dX8_place_0 rfl 1 rfl ?_
  by_cases c1_97 : zNx x = 97
  · skip
    refine z_lookup (tgt := 52) C dX8_place_1 (by decide) (off := 51) (by rw [c1_97]; decide) (by decide) ?_
    refine z_iconst C (v := 0) dX8_place_52 (by decide) ?_
    refine z_iret C hr rfl dX8_place_53 ?_
    refine ⟨_, rfl, ?_⟩
    refine ⟨?_, rfl, rfl⟩
    rw [(nx_eq x hx3 97 (by decide)).mp c1_97]; rfl
  by_cases c1_98 : zNx x = 98
  · skip
    refine z_lookup (tgt := 54) C dX8_place_1 (by decide) (off := 53) (by rw [c1_98]; decide) (by decide) ?_
    refine z_iconst C (v := 1) dX8_place_54 (by decide) ?_
    refine z_iret C hr rfl dX8_place_55 ?_
    refine ⟨_, rfl, ?_⟩
    refine ⟨?_, rfl, rfl⟩
    rw [(nx_eq x hx3 98 (by decide)).mp c1_98]; rfl
  by_cases c1_102 : zNx x = 102
  · skip
    refine z_lookup (tgt := 60) C dX8_place_1 (by decide) (off := 59) (by rw [c1_102]; decide) (by decide) ?_
    refine z_iconst C (v := 4) dX8_place_60 (by decide) ?_
    refine z_iret C hr rfl dX8_place_61 ?_
    refine ⟨_, rfl, ?_⟩
    refine ⟨?_, rfl, rfl⟩
    rw [(nx_eq x hx3 102 (by decide)).mp c1_102]; rfl
  by_cases c1_108 : zNx x = 108
  · skip
    refine z_lookup (tgt := 58) C dX8_place_1 (by decide) (off := 57) (by rw [c1_108]; decide) (by decide) ?_
    refine z_iconst C (v := 3) dX8_place_58 (by decide) ?_
    refine z_iret C hr rfl dX8_place_59 ?_
    refine ⟨_, rfl, ?_⟩
    refine ⟨?_, rfl, rfl⟩
    rw [(nx_eq x hx3 108 (by decide)).mp c1_108]; rfl
  by_cases c1_115 : zNx x = 115
  · skip
    refine z_lookup (tgt := 56) C dX8_place_1 (by decide) (off := 55) (by rw [c1_115]; decide) (by decide) ?_
    refine z_iconst C (v := 2) dX8_place_56 (by decide) ?_
    refine z_iret C hr rfl dX8_place_57 ?_
    refine ⟨_, rfl, ?_⟩
    refine ⟨?_, rfl, rfl⟩
    rw [(nx_eq x hx3 115 (by decide)).mp c1_115]; rfl
  refine z_lookup (tgt := 62) C dX8_place_1 (by decide) (off := 61) (by show Op.lookupswitch.offset [(97, 51), (98, 53), (102, 59), (108, 57), (115, 55)] _ _ = _; rw [lv_osw c1_97 (by decide), lv_osw c1_98 (by decide), lv_osw c1_102 (by decide), lv_osw c1_108 (by decide), lv_osw c1_115 (by decide)]; rfl) (by decide) ?_
  refine z_iconst C (v := -1) dX8_place_62 (by decide) ?_
  refine z_iret C hr rfl dX8_place_63 ?_
  refine ⟨_, rfl, ?_⟩
  refine ⟨?_, rfl, rfl⟩
  rw [pl_no x hx3 (fun z => c1_97 (by rw [z]; rfl)) (fun z => c1_98 (by rw [z]; rfl)) (fun z => c1_115 (by rw [z]; rfl)) (fun z => c1_108 (by rw [z]; rfl)) (fun z => c1_102 (by rw [z]; rfl))]
