/-! the reference: how long it goes, habits, hours -/
def frH (I' I : zI) : Prop := ∀ k, k ≠ 94 → k ≠ 95 → I' k = I k
theorem mHeld_z {I : zI} {h a : Nat} {A : List zCla} {g : Nat → Int32} (ha : a ≠ 82 ∧ (a < 87 ∨ 92 < a)) (H : mHeld I h A) : mHeld (zup I a g) h A := mHeld_f (by rw [zup_n (by omega)]) (fun k h1 h2 => zup_n (by omega)) H
theorem aGo_i {jn : Nat → Int32} {A : List zCla} {a b : Nat} (h : jn (a * 8 + b) ≠ 0) : aGo jn A a b = aWay (nI a) (nI b) (jn (a * 8 + b)) A := by rw [aGo, cif_f h]
theorem aGo_0 {jn : Nat → Int32} {A : List zCla} {a b : Nat} (h : jn (a * 8 + b) = 0) : aGo jn A a b = none := by rw [aGo, cif_t h]
abbrev rm_X8_goesIn : Room := { frames := 5, cells := 0, slots := 0, locals := 226 }
set_option maxRecDepth 100000 in
set_option maxHeartbeats 4000000 in
theorem k_X8_goesIn (w : zW) (I : zI) (J : zJ) (h : Nat) (A : List zCla) (jn : Nat → Int32) (a : Nat) (b : Nat) (ha8 : a < 8) (hb8 : b < 8) (hh : h < 7) (hM : mHeld I h A) (hJn : ∀ k, k < 64 → I 84 k = jn k) (hDg : ∀ a, a < 8 → jn (a * 8 + a) = 0) : zMet yX8_goesIn cX8_goesIn 5 (some .int) rm_X8_goesIn w [.ref (zad w 82), .int (nI a), .int (nI b)] I J (zpi (fun v I' J' => v = oI (aGo jn A a b) ∧ frH I' I ∧ J' = J)) := by
  refine zMet_of (by decide) (Nat.le_of_ble_eq_true rfl) (fun X C hm hr => ?_)
  refine z_sub (lv' := [(0, .ref (zad w 82)), (1, .int (nI a)), (2, .int (nI b))]) [0, 1, 2] rfl ?_
  have hA10 := (mHeld_ok hM).1
  refine z_aload_n C dX8_goesIn_0 rfl 0 rfl ?_
  refine z_getr C ff_X8_17 82 (by decide) sh82 rfl dX8_goesIn_1 ?_
  refine z_bipush C (v := 8) dX8_goesIn_4 (by decide) ?_
  refine z_iload_n C dX8_goesIn_6 rfl 1 rfl ?_
  refine z_imul C dX8_goesIn_7 ?_
  refine z_ti (y := nI (8 * a)) (pk_mul 8 a) ?_
  refine z_iload_n C dX8_goesIn_8 rfl 2 rfl ?_
  refine z_iadd C dX8_goesIn_9 ?_
  refine z_ti (y := nI (8 * a + b)) (nI_add (8 * a) b) ?_
  refine z_iald C 84 (by decide) sh84 (8 * a + b) (by omega) (by decide) rfl (v := jn (a * 8 + b)) ((congrArg (I 84) (show 8 * a + b = a * 8 + b by omega)).trans (hJn _ (by omega))) dX8_goesIn_10 ?_
  refine z_istore_n C hm (lv' := [(3, .int (jn (a * 8 + b))), (0, .ref (zad w 82)), (1, .int (nI a)), (2, .int (nI b))]) dX8_goesIn_11 rfl (by decide) rfl ?_
  refine z_iload_n C dX8_goesIn_12 rfl 2 rfl ?_
  refine z_iload_n C dX8_goesIn_13 rfl 3 rfl ?_
  refine z_icmp_eq_n a b (tgt := 21) C rfl rfl (by omega) (by omega) dX8_goesIn_14 (by decide) (fun c14 => ?_) (fun c14 => ?_)
  · skip
    refine z_bipush C (v := -5) dX8_goesIn_21 (by decide) ?_
    refine z_iret C hr rfl dX8_goesIn_23 ?_
    refine ⟨_, rfl, ?_⟩
    exact ⟨by rw [aGo_0 (by rw [← c14]; exact hDg a ha8)]; rfl, fun _ _ _ => rfl, rfl⟩
  · skip
    refine z_iload_n C dX8_goesIn_17 rfl 0 rfl ?_
    refine z_if_ne (tgt := 24) C dX8_goesIn_18 (by decide) (fun c18 => ?_) (fun c18 => ?_)
    · skip
      refine z_aload_n C dX8_goesIn_24 rfl 1 rfl ?_
      refine z_iload_n C dX8_goesIn_25 rfl 2 rfl ?_
      refine z_iload_n C dX8_goesIn_26 rfl 3 rfl ?_
      refine z_iload_n C dX8_goesIn_27 rfl 0 rfl ?_
      refine z_iconst C (v := 0) dX8_goesIn_28 (by decide) ?_
      refine z_iconst C (v := 0) dX8_goesIn_29 (by decide) ?_
      refine z_callVv C hm cl_X8_257 cv_X8_ask 82 (by decide) sh82 ⟨_, _, rfl⟩ [.int (nI a), .int (nI b), .int (jn (a * 8 + b)), .int 0, .int 0] rfl (rest := []) rfl (k_X8_ask w _ _  (nI a) (nI b) (jn (a * 8 + b)) (0) (0) ) ⟨rfl, rfl, Nat.le_of_ble_eq_true rfl, Nat.le_of_ble_eq_true rfl⟩ (Nat.le_of_ble_eq_true rfl) dX8_goesIn_30 (fun I_1 J_1 h_1 => ?_)
      obtain ⟨⟨F_1, eI_1, hF_1⟩, eJ_1⟩ := h_1
      replace eI_1 := eI_1.symm; subst eI_1
      replace eJ_1 := eJ_1.symm; subst eJ_1
      refine z_aload_n C dX8_goesIn_33 rfl 1 rfl ?_
      refine z_callVi C hm cl_X8_251 cv_X8_first 82 (by decide) sh82 ⟨_, _, rfl⟩ [] rfl (rest := []) rfl (k_X8_first w _ _ h A  hh (mHeld_z (by decide) hM)) ⟨rfl, rfl, Nat.le_of_ble_eq_true rfl, Nat.le_of_ble_eq_true rfl⟩ (Nat.le_of_ble_eq_true rfl) dX8_goesIn_34 (fun v_2 I_2 J_2 h_2 => ?_)
      obtain ⟨ev_2, ei_2, ej_2⟩ := h_2
      replace ev_2 := ev_2.symm; subst ev_2
      replace ei_2 := ei_2.symm; subst ei_2
      replace ej_2 := ej_2.symm; subst ej_2
      refine z_istore C hm (lv' := [(4, .int (nI (10 * (h - 1)))), (3, .int (jn (a * 8 + b))), (0, .ref (zad w 82)), (1, .int (nI a)), (2, .int (nI b))]) dX8_goesIn_37 (by decide) rfl ?_
      have L39 : ∀ (d : Nat) (k : Nat) (P : Nat → Int32) (v39_4 : Int32) (I39 : zI), (A.length - k) < d → (k ≤ A.length) → (aWay (nI a) (nI b) (jn (a * 8 + b)) (A.drop k) = aWay (nI a) (nI b) (jn (a * 8 + b)) A) → v39_4 = nI (10 * (h - 1) + k) → I39 = zup (zup I 94 F_1) 95 P → Z X w I39 J 39 [(0, .ref (zad w 82)), (1, .int (nI a)), (2, .int (nI b)), (3, .int (jn (a * 8 + b))), (4, .int v39_4)] [] := by
        intro d
        induction d with
        | zero => intro k P v39_4 I39 hd; exact absurd hd (Nat.not_lt_zero _)
        | succ d ih39 => 
          intro k P v39_4 I39 hd39 hk hR e_v39_4 e_I39
          replace e_v39_4 := e_v39_4.symm; subst e_v39_4
          replace e_I39 := e_I39.symm; subst e_I39
          refine z_iload C dX8_goesIn_39 4 rfl ?_
          refine z_aload_n C dX8_goesIn_41 rfl 0 rfl ?_
          refine z_callVi C hm cl_X8_254 cv_X8_behind 82 (by decide) sh82 ⟨_, _, rfl⟩ [] rfl (rest := [.int (nI (10 * (h - 1) + k))]) rfl (k_X8_behind w _ _ h A  hh (mHeld_z (by decide) (mHeld_z (by decide) hM))) ⟨rfl, rfl, Nat.le_of_ble_eq_true rfl, Nat.le_of_ble_eq_true rfl⟩ (Nat.le_of_ble_eq_true rfl) dX8_goesIn_42 (fun v_3 I_3 J_3 h_3 => ?_)
          obtain ⟨ev_3, ei_3, ej_3⟩ := h_3
          replace ev_3 := ev_3.symm; subst ev_3
          replace ei_3 := ei_3.symm; subst ei_3
          replace ej_3 := ej_3.symm; subst ej_3
          refine z_icmp_ge_n (10 * (h - 1) + k) (10 * (h - 1) + A.length) (tgt := 81) C rfl rfl (by omega) (by omega) dX8_goesIn_45 (by decide) (fun c45 => ?_) (fun c45 => ?_)
          · skip
            have hkk : k = A.length := by omega
            rw [hkk, List.drop_length] at hR
            refine z_bipush C (v := -5) dX8_goesIn_81 (by decide) ?_
            refine z_iret C hr rfl dX8_goesIn_83 ?_
            refine ⟨_, rfl, ?_⟩
            exact ⟨by rw [aGo_i c18, ← hR]; rfl, (fun k h1 h2 => by simp only [zup]; rw [if_neg (by omega), if_neg (by omega)]), rfl⟩
          · skip
            have hkl : k < A.length := by omega
            obtain ⟨wb, w1, w2, -⟩ := mHeld_c hM k hkl
            obtain ⟨hq1, hq2, hq3⟩ := (mHeld_ok hM).2 _ (getD_mem dCl hkl)
            rw [drop_at dCl hkl] at hR
            refine z_aload_n C dX8_goesIn_48 rfl 0 rfl ?_
            refine z_getr C ff_X8_44 82 (by decide) sh82 rfl dX8_goesIn_49 ?_
            refine z_iload C dX8_goesIn_52 4 rfl ?_
            refine z_iald C 88 (by decide) sh88 (10 * (h - 1) + k) (by omega) (by decide) rfl (v := nI ((A.getD k dCl).1)) (by first | exact w1 | (simp [zup, zupJ, upd, vp_updL]; exact w1)) dX8_goesIn_54 ?_
            refine z_if_ne (tgt := 75) C dX8_goesIn_55 (by decide) (fun c55 => ?_) (fun c55 => ?_)
            · skip
              refine z_iinc C hm 4 (v := nI (10 * (h - 1) + k + 1)) (lv' := [(4, .int (nI (10 * (h - 1) + k + 1))), (0, .ref (zad w 82)), (1, .int (nI a)), (2, .int (nI b)), (3, .int (jn (a * 8 + b)))]) dX8_goesIn_75 rfl (nI_add (10 * (h - 1) + k) 1) (by decide) rfl ?_
              refine z_goto (tgt := 39) C dX8_goesIn_78 (by decide) ?_
              exact z_sub [1, 2, 3, 4, 0] rfl (ih39  (k + 1) P _ _ (by omega) (by omega) (by rw [aWay, if_neg (fun q => c55 (by rw [q.1]; rfl))] at hR; exact hR) rfl (by funext zk; by_cases h95 : zk = 95 <;> simp [zup, h95]))
            · skip
              replace c55 : (A.getD k dCl).1 = 0 := (nI_eq (b := 0) (by omega) (by decide)).mp c55
              obtain ⟨-, -, -, w3⟩ := mHeld_c hM k hkl
              obtain ⟨u, hu6, hfr, hto, hts⟩ := w3 (by omega)
              clear w3
              obtain ⟨hok, hev⟩ := hq3 (by omega)
              obtain ⟨r, hr1⟩ := hev (zenv (nI a) (nI b) (jn (a * 8 + b)) 0 0)
              refine z_aload_n C dX8_goesIn_58 rfl 0 rfl ?_
              refine z_iload C dX8_goesIn_59 4 rfl ?_
              refine z_callVi C hm cl_X8_261 cv_X8_holds 82 (by decide) sh82 ⟨_, _, rfl⟩ [.int (nI (10 * (h - 1) + k))] rfl (rest := []) rfl (k_X8_holds w _ _ u (A.getD k dCl).2.2 r (zenv (nI a) (nI b) (jn (a * 8 + b)) 0 0) (10 * (h - 1) + k) wb (by exact hfr) (by exact hto) hu6 (by exact hts) hok hr1 hF_1) ⟨rfl, rfl, Nat.le_of_ble_eq_true rfl, Nat.le_of_ble_eq_true rfl⟩ (Nat.le_of_ble_eq_true rfl) dX8_goesIn_61 (fun v_4 I_4 J_4 h_4 => ?_)
              obtain ⟨ev_4, ⟨P_4, eI_4⟩, eJ_4⟩ := h_4
              replace ev_4 := ev_4.symm; subst ev_4
              replace eI_4 := eI_4.symm; subst eI_4
              replace eJ_4 := eJ_4.symm; subst eJ_4
              refine z_I (I' := zup (zup I 94 F_1) 95 P_4) (by funext zk; simp only [zup]; split <;> simp_all [zup]) ?_
              refine z_ifeq_b (tgt := 75) C dX8_goesIn_64 (by decide) (fun c64 => ?_) (fun c64 => ?_)
              · skip
                refine z_iinc C hm 4 (v := nI (10 * (h - 1) + k + 1)) (lv' := [(4, .int (nI (10 * (h - 1) + k + 1))), (0, .ref (zad w 82)), (1, .int (nI a)), (2, .int (nI b)), (3, .int (jn (a * 8 + b)))]) dX8_goesIn_75 rfl (nI_add (10 * (h - 1) + k) 1) (by decide) rfl ?_
                refine z_goto (tgt := 39) C dX8_goesIn_78 (by decide) ?_
                exact z_sub [1, 2, 3, 4, 0] rfl (ih39  (k + 1) P_4 _ _ (by omega) (by omega) (by rw [aWay, if_neg (fun q => c64 (by rw [← aHolds_of hr1]; exact q.2))] at hR; exact hR) rfl (by funext zk; by_cases h95 : zk = 95 <;> simp [zup, h95]))
              · skip
                refine z_aload_n C dX8_goesIn_67 rfl 0 rfl ?_
                refine z_getr C ff_X8_47 82 (by decide) sh82 rfl dX8_goesIn_68 ?_
                refine z_iload C dX8_goesIn_71 4 rfl ?_
                refine z_iald C 89 (by decide) sh89 (10 * (h - 1) + k) (by omega) (by decide) rfl (v := nI ((A.getD k dCl).2.1)) (by first | exact w2 | (simp [zup, zupJ, upd, vp_updL]; exact w2)) dX8_goesIn_73 ?_
                refine z_iret C hr rfl dX8_goesIn_74 ?_
                refine ⟨_, rfl, ?_⟩
                exact ⟨by rw [aGo_i c18, ← hR, aWay, if_pos ⟨c55, (aHolds_of hr1).trans c64⟩]; rfl, (fun k h1 h2 => by simp only [zup]; rw [if_neg (by omega), if_neg (by omega)]), rfl⟩
      exact z_sub [2, 3, 4, 1, 0] rfl (L39 _ 0 (I 95) _ _ (Nat.lt_succ_self _) (by omega) rfl rfl (by funext zk; by_cases h95 : zk = 95 <;> simp [zup, h95]))
    · skip
      refine z_bipush C (v := -5) dX8_goesIn_21 (by decide) ?_
      refine z_iret C hr rfl dX8_goesIn_23 ?_
      refine ⟨_, rfl, ?_⟩
      exact ⟨by rw [aGo_0 c18]; rfl, fun _ _ _ => rfl, rfl⟩
abbrev rm_X8_goes : Room := { frames := 6, cells := 0, slots := 0, locals := 250 }
set_option maxRecDepth 100000 in
set_option maxHeartbeats 4000000 in
theorem k_X8_goes (w : zW) (I : zI) (J : zJ) (n : Nat) (h : Nat) (A : List zCla) (jn : Nat → Int32) (x : Int32) (y : Int32) (hN : I 82 0 = nI n) (hn : n ≤ 8) (hh : h < 7) (hM : mHeld I h A) (hJn : ∀ k, k < 64 → I 84 k = jn k) (hDg : ∀ a, a < 8 → jn (a * 8 + a) = 0) : zMet yX8_goes cX8_goes 3 (some .int) rm_X8_goes w [.ref (zad w 82), .int x, .int y] I J (zpi (fun v I' J' => v = cif (zin x n ∧ zin y n) (cif (x ≠ y) (oI (aGo jn A (zn x) (zn y))) (-2)) (-1) ∧ frH I' I ∧ J' = J)) := by
  refine zMet_of (by decide) (Nat.le_of_ble_eq_true rfl) (fun X C hm hr => ?_)
  refine z_sub (lv' := [(0, .ref (zad w 82)), (1, .int x), (2, .int y)]) [0, 1, 2] rfl ?_
  refine z_aload_n C dX8_goes_0 rfl 0 rfl ?_
  refine z_iload_n C dX8_goes_1 rfl 1 rfl ?_
  refine z_callVi C hm cl_X8_193 cv_X8_isName 82 (by decide) sh82 ⟨_, _, rfl⟩ [.int x] rfl (rest := []) rfl (k_X8_isName w _ _ n x hN hn) ⟨rfl, rfl, Nat.le_of_ble_eq_true rfl, Nat.le_of_ble_eq_true rfl⟩ (Nat.le_of_ble_eq_true rfl) dX8_goes_2 (fun v_1 I_1 J_1 h_1 => ?_)
  obtain ⟨ev_1, ei_1, ej_1⟩ := h_1
  replace ev_1 := ev_1.symm; subst ev_1
  replace ei_1 := ei_1.symm; subst ei_1
  replace ej_1 := ej_1.symm; subst ej_1
  refine z_ifeq_b (tgt := 16) C dX8_goes_5 (by decide) (fun c5 => ?_) (fun c5 => ?_)
  · skip
    refine z_iconst C (v := -1) dX8_goes_16 (by decide) ?_
    refine z_iret C hr rfl dX8_goes_17 ?_
    refine ⟨_, rfl, ?_⟩
    exact ⟨by rw [cif_f (fun q => c5 q.1)], fun _ _ _ => rfl, rfl⟩
  · skip
    obtain ⟨a, ha, rfl⟩ := c5
    refine z_aload_n C dX8_goes_8 rfl 0 rfl ?_
    refine z_iload_n C dX8_goes_9 rfl 2 rfl ?_
    refine z_callVi C hm cl_X8_193 cv_X8_isName 82 (by decide) sh82 ⟨_, _, rfl⟩ [.int y] rfl (rest := []) rfl (k_X8_isName w _ _ n y hN hn) ⟨rfl, rfl, Nat.le_of_ble_eq_true rfl, Nat.le_of_ble_eq_true rfl⟩ (Nat.le_of_ble_eq_true rfl) dX8_goes_10 (fun v_2 I_2 J_2 h_2 => ?_)
    obtain ⟨ev_2, ei_2, ej_2⟩ := h_2
    replace ev_2 := ev_2.symm; subst ev_2
    replace ei_2 := ei_2.symm; subst ei_2
    replace ej_2 := ej_2.symm; subst ej_2
    refine z_ifne_b (tgt := 18) C dX8_goes_13 (by decide) (fun c13 => ?_) (fun c13 => ?_)
    · skip
      obtain ⟨b, hb, rfl⟩ := c13
      refine z_iload_n C dX8_goes_18 rfl 1 rfl ?_
      refine z_iload_n C dX8_goes_19 rfl 2 rfl ?_
      refine z_icmp_ne_n a b (tgt := 28) C rfl rfl (by omega) (by omega) dX8_goes_20 (by decide) (fun c20 => ?_) (fun c20 => ?_)
      · skip
        refine z_aload_n C dX8_goes_28 rfl 0 rfl ?_
        refine z_iload_n C dX8_goes_29 rfl 1 rfl ?_
        refine z_iload_n C dX8_goes_30 rfl 2 rfl ?_
        refine z_callVi C hm cl_X8_264 cv_X8_goesIn 82 (by decide) sh82 ⟨_, _, rfl⟩ [.int (nI a), .int (nI b)] rfl (rest := []) rfl (k_X8_goesIn w _ _ h A jn a b (by omega) (by omega) hh hM hJn hDg) ⟨rfl, rfl, Nat.le_of_ble_eq_true rfl, Nat.le_of_ble_eq_true rfl⟩ (Nat.le_of_ble_eq_true rfl) dX8_goes_31 (fun v_3 I_3 J_3 h_3 => ?_)
        obtain ⟨ev_3, hf_3, eJ_3⟩ := h_3
        replace ev_3 := ev_3.symm; subst ev_3
        replace eJ_3 := eJ_3.symm; subst eJ_3
        refine z_iret C hr rfl dX8_goes_34 ?_
        refine ⟨_, rfl, ?_⟩
        exact ⟨by rw [cif_t ⟨⟨a, ha, rfl⟩, ⟨b, hb, rfl⟩⟩, cif_t (fun q => c20 ((nI_eq (by omega) (by omega)).mp q)), zn_n (by omega), zn_n (by omega)], hf_3, rfl⟩
      · skip
        refine z_bipush C (v := -2) dX8_goes_23 (by decide) ?_
        refine z_goto (tgt := 34) C dX8_goes_25 (by decide) ?_
        refine z_iret C hr rfl dX8_goes_34 ?_
        refine ⟨_, rfl, ?_⟩
        exact ⟨by rw [cif_t ⟨⟨a, ha, rfl⟩, ⟨b, hb, rfl⟩⟩, cif_f (fun q => q (by rw [c20]))], fun _ _ _ => rfl, rfl⟩
    · skip
      refine z_iconst C (v := -1) dX8_goes_16 (by decide) ?_
      refine z_iret C hr rfl dX8_goes_17 ?_
      refine ⟨_, rfl, ?_⟩
      exact ⟨by rw [cif_f (fun q => c13 q.2)], fun _ _ _ => rfl, rfl⟩
abbrev rm_X8_habitOf : Room := { frames := 5, cells := 0, slots := 0, locals := 226 }
set_option maxRecDepth 100000 in
set_option maxHeartbeats 4000000 in
theorem k_X8_habitOf (w : zW) (I : zI) (J : zJ) (h : Nat) (A : List zCla) (lt : Nat → Int32) (a : Nat) (f : Int32) (ha8 : a < 8) (hh : h < 7) (hM : mHeld I h A) (hLt : ∀ k, k < 8 → I 83 k = lt k) : zMet yX8_habitOf cX8_habitOf 5 (some .int) rm_X8_habitOf w [.ref (zad w 82), .int (nI a), .int f] I J (zpi (fun v I' J' => v = nI (aHab (nI a) (lt a) f A) ∧ frH I' I ∧ J' = J)) := by
  refine zMet_of (by decide) (Nat.le_of_ble_eq_true rfl) (fun X C hm hr => ?_)
  refine z_sub (lv' := [(0, .ref (zad w 82)), (1, .int (nI a)), (2, .int f)]) [0, 1, 2] rfl ?_
  have hA10 := (mHeld_ok hM).1
  refine z_aload_n C dX8_habitOf_0 rfl 0 rfl ?_
  refine z_iload_n C dX8_habitOf_1 rfl 1 rfl ?_
  refine z_iconst C (v := 0) dX8_habitOf_2 (by decide) ?_
  refine z_iconst C (v := 0) dX8_habitOf_3 (by decide) ?_
  refine z_aload_n C dX8_habitOf_4 rfl 0 rfl ?_
  refine z_getr C ff_X8_13 82 (by decide) sh82 rfl dX8_habitOf_5 ?_
  refine z_iload_n C dX8_habitOf_8 rfl 1 rfl ?_
  refine z_iald C 83 (by decide) sh83 a (by omega) (by decide) rfl (v := lt a) (hLt a ha8) dX8_habitOf_9 ?_
  refine z_iload_n C dX8_habitOf_10 rfl 2 rfl ?_
  refine z_callVv C hm cl_X8_257 cv_X8_ask 82 (by decide) sh82 ⟨_, _, rfl⟩ [.int (nI a), .int 0, .int 0, .int (lt a), .int f] rfl (rest := []) rfl (k_X8_ask w _ _  (nI a) (0) (0) (lt a) f ) ⟨rfl, rfl, Nat.le_of_ble_eq_true rfl, Nat.le_of_ble_eq_true rfl⟩ (Nat.le_of_ble_eq_true rfl) dX8_habitOf_11 (fun I_1 J_1 h_1 => ?_)
  obtain ⟨⟨F_1, eI_1, hF_1⟩, eJ_1⟩ := h_1
  replace eI_1 := eI_1.symm; subst eI_1
  replace eJ_1 := eJ_1.symm; subst eJ_1
  refine z_iconst C (v := 0) dX8_habitOf_14 (by decide) ?_
  refine z_istore_n C hm (lv' := [(3, .int 0), (0, .ref (zad w 82)), (1, .int (nI a)), (2, .int f)]) dX8_habitOf_15 rfl (by decide) rfl ?_
  refine z_aload_n C dX8_habitOf_16 rfl 1 rfl ?_
  refine z_callVi C hm cl_X8_251 cv_X8_first 82 (by decide) sh82 ⟨_, _, rfl⟩ [] rfl (rest := []) rfl (k_X8_first w _ _ h A  hh (mHeld_z (by decide) hM)) ⟨rfl, rfl, Nat.le_of_ble_eq_true rfl, Nat.le_of_ble_eq_true rfl⟩ (Nat.le_of_ble_eq_true rfl) dX8_habitOf_17 (fun v_2 I_2 J_2 h_2 => ?_)
  obtain ⟨ev_2, ei_2, ej_2⟩ := h_2
  replace ev_2 := ev_2.symm; subst ev_2
  replace ei_2 := ei_2.symm; subst ei_2
  replace ej_2 := ej_2.symm; subst ej_2
  refine z_istore C hm (lv' := [(4, .int (nI (10 * (h - 1)))), (3, .int 0), (0, .ref (zad w 82)), (1, .int (nI a)), (2, .int f)]) dX8_habitOf_20 (by decide) rfl ?_
  have L22 : ∀ (d : Nat) (k acc : Nat) (P : Nat → Int32) (v22_3 : Int32) (v22_4 : Int32) (I22 : zI), (A.length - k) < d → (k ≤ A.length) → (acc + aSum (nI a) (lt a) f (A.drop k) = aSum (nI a) (lt a) f A) → (acc ≤ 999 * k) → v22_3 = nI acc → v22_4 = nI (10 * (h - 1) + k) → I22 = zup (zup I 94 F_1) 95 P → Z X w I22 J 22 [(0, .ref (zad w 82)), (1, .int (nI a)), (2, .int f), (3, .int v22_3), (4, .int v22_4)] [] := by
    intro d
    induction d with
    | zero => intro k acc P v22_3 v22_4 I22 hd; exact absurd hd (Nat.not_lt_zero _)
    | succ d ih22 => 
      intro k acc P v22_3 v22_4 I22 hd22 hk hS hbd e_v22_3 e_v22_4 e_I22
      replace e_v22_3 := e_v22_3.symm; subst e_v22_3
      replace e_v22_4 := e_v22_4.symm; subst e_v22_4
      replace e_I22 := e_I22.symm; subst e_I22
      refine z_iload C dX8_habitOf_22 4 rfl ?_
      refine z_aload_n C dX8_habitOf_24 rfl 0 rfl ?_
      refine z_callVi C hm cl_X8_254 cv_X8_behind 82 (by decide) sh82 ⟨_, _, rfl⟩ [] rfl (rest := [.int (nI (10 * (h - 1) + k))]) rfl (k_X8_behind w _ _ h A  hh (mHeld_z (by decide) (mHeld_z (by decide) hM))) ⟨rfl, rfl, Nat.le_of_ble_eq_true rfl, Nat.le_of_ble_eq_true rfl⟩ (Nat.le_of_ble_eq_true rfl) dX8_habitOf_25 (fun v_3 I_3 J_3 h_3 => ?_)
      obtain ⟨ev_3, ei_3, ej_3⟩ := h_3
      replace ev_3 := ev_3.symm; subst ev_3
      replace ei_3 := ei_3.symm; subst ei_3
      replace ej_3 := ej_3.symm; subst ej_3
      refine z_icmp_ge_n (10 * (h - 1) + k) (10 * (h - 1) + A.length) (tgt := 71) C rfl rfl (by omega) (by omega) dX8_habitOf_28 (by decide) (fun c28 => ?_) (fun c28 => ?_)
      · skip
        have hkk : k = A.length := by omega
        rw [hkk, List.drop_length, aSum, Nat.add_zero] at hS
        refine z_iload_n C dX8_habitOf_71 rfl 3 rfl ?_
        refine z_bipush C (v := 100) dX8_habitOf_72 (by decide) ?_
        refine z_icmp_le_n acc 100 (tgt := 82) C rfl rfl (by omega) (by omega) dX8_habitOf_74 (by decide) (fun c74 => ?_) (fun c74 => ?_)
        · skip
          refine z_iload_n C dX8_habitOf_82 rfl 3 rfl ?_
          refine z_iret C hr rfl dX8_habitOf_83 ?_
          refine ⟨_, rfl, ?_⟩
          exact ⟨by rw [aHab, ← hS, Nat.min_eq_left (by omega)], (fun k h1 h2 => by simp only [zup]; rw [if_neg (by omega), if_neg (by omega)]), rfl⟩
        · skip
          refine z_bipush C (v := 100) dX8_habitOf_77 (by decide) ?_
          refine z_goto (tgt := 83) C dX8_habitOf_79 (by decide) ?_
          refine z_iret C hr rfl dX8_habitOf_83 ?_
          refine ⟨_, rfl, ?_⟩
          exact ⟨by rw [aHab, ← hS, Nat.min_eq_right (by omega)]; rfl, (fun k h1 h2 => by simp only [zup]; rw [if_neg (by omega), if_neg (by omega)]), rfl⟩
      · skip
        have hkl : k < A.length := by omega
        obtain ⟨wb, w1, w2, -⟩ := mHeld_c hM k hkl
        obtain ⟨hq1, hq2, hq3⟩ := (mHeld_ok hM).2 _ (getD_mem dCl hkl)
        rw [drop_at dCl hkl] at hS
        refine z_iload_n C dX8_habitOf_31 rfl 3 rfl ?_
        refine z_aload_n C dX8_habitOf_32 rfl 0 rfl ?_
        refine z_getr C ff_X8_44 82 (by decide) sh82 rfl dX8_habitOf_33 ?_
        refine z_iload C dX8_habitOf_36 4 rfl ?_
        refine z_iald C 88 (by decide) sh88 (10 * (h - 1) + k) (by omega) (by decide) rfl (v := nI ((A.getD k dCl).1)) (by first | exact w1 | (simp [zup, zupJ, upd, vp_updL]; exact w1)) dX8_habitOf_38 ?_
        refine z_iconst C (v := 1) dX8_habitOf_39 (by decide) ?_
        refine z_icmp_ne_n ((A.getD k dCl).1) 1 (tgt := 62) C rfl rfl (by omega) (by omega) dX8_habitOf_40 (by decide) (fun c40 => ?_) (fun c40 => ?_)
        · skip
          refine z_iconst C (v := 0) dX8_habitOf_62 (by decide) ?_
          refine z_iadd C dX8_habitOf_63 ?_
          refine z_ti (y := nI (acc + 0)) (nI_add acc 0) ?_
          refine z_istore_n C hm (lv' := [(3, .int (nI (acc + 0))), (0, .ref (zad w 82)), (1, .int (nI a)), (2, .int f), (4, .int (nI (10 * (h - 1) + k)))]) dX8_habitOf_64 rfl (by decide) rfl ?_
          refine z_iinc C hm 4 (v := nI (10 * (h - 1) + k + 1)) (lv' := [(4, .int (nI (10 * (h - 1) + k + 1))), (3, .int (nI (acc + 0))), (0, .ref (zad w 82)), (1, .int (nI a)), (2, .int f)]) dX8_habitOf_65 rfl (nI_add (10 * (h - 1) + k) 1) (by decide) rfl ?_
          refine z_goto (tgt := 22) C dX8_habitOf_68 (by decide) ?_
          exact z_sub [2, 3, 4, 1, 0] rfl (ih22  (k + 1) acc P _ _ _ (by omega) (by omega) (by rw [aSum, if_neg (fun q => c40 q.1), Nat.zero_add] at hS; exact hS) (by omega) rfl rfl (by funext zk; by_cases h95 : zk = 95 <;> simp [zup, h95]))
        · skip
          obtain ⟨-, -, -, w3⟩ := mHeld_c hM k hkl
          obtain ⟨u, hu6, hfr, hto, hts⟩ := w3 (by omega)
          clear w3
          obtain ⟨hok, hev⟩ := hq3 (by omega)
          obtain ⟨r, hr1⟩ := hev (zenv (nI a) 0 0 (lt a) f)
          refine z_aload_n C dX8_habitOf_43 rfl 0 rfl ?_
          refine z_iload C dX8_habitOf_44 4 rfl ?_
          refine z_callVi C hm cl_X8_261 cv_X8_holds 82 (by decide) sh82 ⟨_, _, rfl⟩ [.int (nI (10 * (h - 1) + k))] rfl (rest := [.int (nI acc)]) rfl (k_X8_holds w _ _ u (A.getD k dCl).2.2 r (zenv (nI a) 0 0 (lt a) f) (10 * (h - 1) + k) wb (by exact hfr) (by exact hto) hu6 (by exact hts) hok hr1 hF_1) ⟨rfl, rfl, Nat.le_of_ble_eq_true rfl, Nat.le_of_ble_eq_true rfl⟩ (Nat.le_of_ble_eq_true rfl) dX8_habitOf_46 (fun v_4 I_4 J_4 h_4 => ?_)
          obtain ⟨ev_4, ⟨P_4, eI_4⟩, eJ_4⟩ := h_4
          replace ev_4 := ev_4.symm; subst ev_4
          replace eI_4 := eI_4.symm; subst eI_4
          replace eJ_4 := eJ_4.symm; subst eJ_4
          refine z_I (I' := zup (zup I 94 F_1) 95 P_4) (by funext zk; simp only [zup]; split <;> simp_all [zup]) ?_
          refine z_ifeq_b (tgt := 62) C dX8_habitOf_49 (by decide) (fun c49 => ?_) (fun c49 => ?_)
          · skip
            refine z_iconst C (v := 0) dX8_habitOf_62 (by decide) ?_
            refine z_iadd C dX8_habitOf_63 ?_
            refine z_ti (y := nI (acc + 0)) (nI_add acc 0) ?_
            refine z_istore_n C hm (lv' := [(3, .int (nI (acc + 0))), (0, .ref (zad w 82)), (1, .int (nI a)), (2, .int f), (4, .int (nI (10 * (h - 1) + k)))]) dX8_habitOf_64 rfl (by decide) rfl ?_
            refine z_iinc C hm 4 (v := nI (10 * (h - 1) + k + 1)) (lv' := [(4, .int (nI (10 * (h - 1) + k + 1))), (3, .int (nI (acc + 0))), (0, .ref (zad w 82)), (1, .int (nI a)), (2, .int f)]) dX8_habitOf_65 rfl (nI_add (10 * (h - 1) + k) 1) (by decide) rfl ?_
            refine z_goto (tgt := 22) C dX8_habitOf_68 (by decide) ?_
            exact z_sub [2, 3, 4, 1, 0] rfl (ih22  (k + 1) acc P_4 _ _ _ (by omega) (by omega) (by rw [aSum, if_neg (fun q => c49 (by rw [← aHolds_of hr1]; exact q.2)), Nat.zero_add] at hS; exact hS) (by omega) rfl rfl (by funext zk; by_cases h95 : zk = 95 <;> simp [zup, h95]))
          · skip
            refine z_aload_n C dX8_habitOf_52 rfl 0 rfl ?_
            refine z_getr C ff_X8_47 82 (by decide) sh82 rfl dX8_habitOf_53 ?_
            refine z_iload C dX8_habitOf_56 4 rfl ?_
            refine z_iald C 89 (by decide) sh89 (10 * (h - 1) + k) (by omega) (by decide) rfl (v := nI ((A.getD k dCl).2.1)) (by first | exact w2 | (simp [zup, zupJ, upd, vp_updL]; exact w2)) dX8_habitOf_58 ?_
            refine z_goto (tgt := 63) C dX8_habitOf_59 (by decide) ?_
            refine z_iadd C dX8_habitOf_63 ?_
            refine z_ti (y := nI (acc + ((A.getD k dCl).2.1))) (nI_add acc ((A.getD k dCl).2.1)) ?_
            refine z_istore_n C hm (lv' := [(3, .int (nI (acc + ((A.getD k dCl).2.1)))), (0, .ref (zad w 82)), (1, .int (nI a)), (2, .int f), (4, .int (nI (10 * (h - 1) + k)))]) dX8_habitOf_64 rfl (by decide) rfl ?_
            refine z_iinc C hm 4 (v := nI (10 * (h - 1) + k + 1)) (lv' := [(4, .int (nI (10 * (h - 1) + k + 1))), (3, .int (nI (acc + ((A.getD k dCl).2.1)))), (0, .ref (zad w 82)), (1, .int (nI a)), (2, .int f)]) dX8_habitOf_65 rfl (nI_add (10 * (h - 1) + k) 1) (by decide) rfl ?_
            refine z_goto (tgt := 22) C dX8_habitOf_68 (by decide) ?_
            exact z_sub [2, 3, 4, 1, 0] rfl (ih22  (k + 1) (acc + (A.getD k dCl).2.1) P_4 _ _ _ (by omega) (by omega) (by rw [aSum, if_pos ⟨c40, (aHolds_of hr1).trans c49⟩, ← Nat.add_assoc] at hS; exact hS) (by omega) rfl rfl (by funext zk; by_cases h95 : zk = 95 <;> simp [zup, h95]))
  exact z_sub [2, 3, 4, 1, 0] rfl (L22 _ 0 0 (I 95) _ _ _ (Nat.lt_succ_self _) (by omega) (Nat.zero_add _) (by omega) rfl rfl (by funext zk; by_cases h95 : zk = 95 <;> simp [zup, h95]))
abbrev rm_X8_habit : Room := { frames := 6, cells := 0, slots := 0, locals := 250 }
set_option maxRecDepth 100000 in
set_option maxHeartbeats 4000000 in
theorem k_X8_habit (w : zW) (I : zI) (J : zJ) (n : Nat) (h : Nat) (A : List zCla) (lt : Nat → Int32) (x : Int32) (f : Int32) (hN : I 82 0 = nI n) (hn : n ≤ 8) (hh : h < 7) (hM : mHeld I h A) (hLt : ∀ k, k < 8 → I 83 k = lt k) : zMet yX8_habit cX8_habit 3 (some .int) rm_X8_habit w [.ref (zad w 82), .int x, .int f] I J (zpi (fun v I' J' => v = cif (zin x n ∧ zin f 9) (nI (aHab x (lt (zn x)) f A)) (-1) ∧ frH I' I ∧ J' = J)) := by
  refine zMet_of (by decide) (Nat.le_of_ble_eq_true rfl) (fun X C hm hr => ?_)
  refine z_sub (lv' := [(0, .ref (zad w 82)), (1, .int x), (2, .int f)]) [0, 1, 2] rfl ?_
  refine z_aload_n C dX8_habit_0 rfl 0 rfl ?_
  refine z_iload_n C dX8_habit_1 rfl 1 rfl ?_
  refine z_callVi C hm cl_X8_193 cv_X8_isName 82 (by decide) sh82 ⟨_, _, rfl⟩ [.int x] rfl (rest := []) rfl (k_X8_isName w _ _ n x hN hn) ⟨rfl, rfl, Nat.le_of_ble_eq_true rfl, Nat.le_of_ble_eq_true rfl⟩ (Nat.le_of_ble_eq_true rfl) dX8_habit_2 (fun v_1 I_1 J_1 h_1 => ?_)
  obtain ⟨ev_1, ei_1, ej_1⟩ := h_1
  replace ev_1 := ev_1.symm; subst ev_1
  replace ei_1 := ei_1.symm; subst ei_1
  replace ej_1 := ej_1.symm; subst ej_1
  refine z_ifeq_b (tgt := 28) C dX8_habit_5 (by decide) (fun c5 => ?_) (fun c5 => ?_)
  · skip
    refine z_iconst C (v := -1) dX8_habit_28 (by decide) ?_
    refine z_iret C hr rfl dX8_habit_29 ?_
    refine ⟨_, rfl, ?_⟩
    exact ⟨by rw [cif_f (fun q => c5 q.1)], fun _ _ _ => rfl, rfl⟩
  · skip
    obtain ⟨a, ha, rfl⟩ := c5
    refine z_aload_n C dX8_habit_8 rfl 0 rfl ?_
    refine z_iload_n C dX8_habit_9 rfl 2 rfl ?_
    refine z_iconst C (v := 0) dX8_habit_10 (by decide) ?_
    refine z_bipush C (v := 8) dX8_habit_11 (by decide) ?_
    refine z_callVi C hm cl_X8_189 cv_X8_in 82 (by decide) sh82 ⟨_, _, rfl⟩ [.int f, .int 0, .int 8] rfl (rest := []) rfl (k_X8_in w _ _ f (0) (8)) ⟨rfl, rfl, Nat.le_of_ble_eq_true rfl, Nat.le_of_ble_eq_true rfl⟩ (Nat.le_of_ble_eq_true rfl) dX8_habit_13 (fun v_2 I_2 J_2 h_2 => ?_)
    obtain ⟨ev_2, ei_2, ej_2⟩ := h_2
    replace ei_2 := ei_2.symm; subst ei_2
    replace ej_2 := ej_2.symm; subst ej_2
    replace ev_2 := ev_2.trans (bI_c (in_z (m := 8) (by decide))); subst ev_2
    refine z_ifeq_b (tgt := 28) C dX8_habit_16 (by decide) (fun c16 => ?_) (fun c16 => ?_)
    · skip
      refine z_iconst C (v := -1) dX8_habit_28 (by decide) ?_
      refine z_iret C hr rfl dX8_habit_29 ?_
      refine ⟨_, rfl, ?_⟩
      exact ⟨by rw [cif_f (fun q => c16 q.2)], fun _ _ _ => rfl, rfl⟩
    · skip
      refine z_aload_n C dX8_habit_19 rfl 0 rfl ?_
      refine z_iload_n C dX8_habit_20 rfl 1 rfl ?_
      refine z_iload_n C dX8_habit_21 rfl 2 rfl ?_
      refine z_callVi C hm cl_X8_268 cv_X8_habitOf 82 (by decide) sh82 ⟨_, _, rfl⟩ [.int (nI a), .int f] rfl (rest := []) rfl (k_X8_habitOf w _ _ h A lt a f (by omega) hh hM hLt) ⟨rfl, rfl, Nat.le_of_ble_eq_true rfl, Nat.le_of_ble_eq_true rfl⟩ (Nat.le_of_ble_eq_true rfl) dX8_habit_22 (fun v_3 I_3 J_3 h_3 => ?_)
      obtain ⟨ev_3, hf_3, eJ_3⟩ := h_3
      replace ev_3 := ev_3.symm; subst ev_3
      replace eJ_3 := eJ_3.symm; subst eJ_3
      refine z_goto (tgt := 29) C dX8_habit_25 (by decide) ?_
      refine z_iret C hr rfl dX8_habit_29 ?_
      refine ⟨_, rfl, ?_⟩
      exact ⟨by rw [cif_t ⟨⟨a, ha, rfl⟩, c16⟩, zn_n (by omega)], hf_3, rfl⟩
