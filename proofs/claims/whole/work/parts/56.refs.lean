/-! the reference: tests, conditions -/
theorem wh6 : ∀ x, x < 301 → zWh 6 x (zLen.getD 6 0) 0 = (if 60 ≤ x ∧ x ≤ 62 then some (x - 60) else none) := by decide +kernel
def frQ (O I : zI) : Prop := True
/-- what a test has read -/
def zT8 (I I' : zI) (u0 : Nat) (ts : List zTok) (ws : List Nat) (r : zR) (v : Int32) : Prop := ∃ S O : Nat → Int32, I' = zup (zup I 92 S) 82 O ∧ O 7 = nI r.1 ∧ (∀ k, k ≠ 7 → k ≠ 8 → k ≠ 17 → k ≠ 18 → k ≠ 19 → O k = I 82 k) ∧ (∀ k, k < u0 → S k = I 92 k) ∧ match r.2 with
  | none => v = 0
  | some us => v = 1 ∧ zMs S (I 93) O u0 (ts ++ us ++ whT ws) (whW ws)
theorem zMs_O {S W O O' : Nat → Int32} {u0 : Nat} {ts : List zTok} {ws : List Nat} (h : zMs S W O u0 ts ws) (h17 : O' 17 = O 17) (h18 : O' 18 = O 18) (h19 : O' 19 = O 19) : zMs S W O' u0 ts ws := ⟨h.1, h17.trans h.2.1, h.2.2.1, h18.trans h.2.2.2.1, h19.trans h.2.2.2.2⟩
theorem zMs_w {S W O O' : Nat → Int32} {u0 x : Nat} {ts : List zTok} {ws : List Nat} (h : zMs S W O u0 ts ws) (h17 : O' 17 = O 17) (h18 : O' 18 = nI (ws.length + 1)) (h19 : O' 19 = nI (cntW (x :: ws))) : zMs S (upd W ws.length (nI x)) O' u0 ts (x :: ws) := ⟨h.1, h17.trans h.2.1, zWs_p h.2.2.1, h18, h19⟩
abbrev rm_X8_takesTest : Room := { frames := 7, cells := 0, slots := 0, locals := 265 }
set_option maxRecDepth 100000 in
set_option maxHeartbeats 4000000 in
theorem k_X8_takesTest (w : zW) (I : zI) (J : zJ) (u0 : Nat) (ts : List zTok) (ws : List Nat) (c : Nat → Nat) (L p : Nat)  (hZ : zMs (I 92) (I 93) (I 82) u0 ts ws) (hok : okW ws) (hu6 : u0 + ts.length + ws.length + L ≤ 600 + p) (hw1 : ws.length ≤ 101) (hL : I 82 6 = nI L) (hl : L ≤ 100) (hp : I 82 7 = nI p) (hpl : p ≤ L) (hBy : ∀ q, q < L → I 86 q = zNx (c q) ∧ c q < 256) (hBe : ∀ q, L ≤ q → c q = 300) : zMet yX8_takesTest cX8_takesTest 3 (some .boolean) rm_X8_takesTest w [.ref (zad w 82)] I J (zpi (fun v I' J' => zT8 I I' u0 ts ws (zTest c p) v ∧ J' = J)) := by
  refine zMet_of (by decide) (Nat.le_of_ble_eq_true rfl) (fun X C hm hr => ?_)
  refine z_sub (lv' := [(0, .ref (zad w 82))]) [0] rfl ?_
  refine z_aload_n C dX8_takesTest_0 rfl 0 rfl ?_
  refine z_aload_n C dX8_takesTest_1 rfl 0 rfl ?_
  refine z_callVi C hm cl_X8_197 cv_X8_next 82 (by decide) sh82 ⟨_, _, rfl⟩ [] rfl (rest := [.ref (zad w 82)]) rfl (k_X8_next w _ _ c L p  (by exact hL) hl (by exact hp) (by omega) (by exact hBy) hBe) ⟨rfl, rfl, Nat.le_of_ble_eq_true rfl, Nat.le_of_ble_eq_true rfl⟩ (Nat.le_of_ble_eq_true rfl) dX8_takesTest_2 (fun v_1 I_1 J_1 h_1 => ?_)
  obtain ⟨ev_1, ei_1, ej_1⟩ := h_1
  replace ev_1 := ev_1.symm; subst ev_1
  replace ei_1 := ei_1.symm; subst ei_1
  replace ej_1 := ej_1.symm; subst ej_1
  refine z_callVi C hm cl_X8_212 cv_X8_place 82 (by decide) sh82 ⟨_, _, rfl⟩ [.int (zNx (c p))] rfl (rest := []) rfl (k_X8_place w _ _ (c p) (zNx (c p)) (c_301 (fun q hq => (hBy q hq).2) hBe _) rfl) ⟨rfl, rfl, Nat.le_of_ble_eq_true rfl, Nat.le_of_ble_eq_true rfl⟩ (Nat.le_of_ble_eq_true rfl) dX8_takesTest_5 (fun v_2 I_2 J_2 h_2 => ?_)
  obtain ⟨ev_2, ei_2, ej_2⟩ := h_2
  replace ei_2 := ei_2.symm; subst ei_2
  replace ej_2 := ej_2.symm; subst ej_2
  rcases hz5 : zWh 5 (c p) (zLen.getD 5 0) 0 with _ | l
  · skip
    rw [hz5] at ev_2; simp only at ev_2; subst ev_2
    refine z_istore_n C hm (lv' := [(1, .int (-1)), (0, .ref (zad w 82))]) dX8_takesTest_8 rfl (by decide) rfl ?_
    refine z_iload_n C dX8_takesTest_9 rfl 0 rfl ?_
    refine z_if_ge (tgt := 15) C dX8_takesTest_10 (by decide) (fun c10 => ?_) (fun c10 => ?_)
    · skip
      exact absurd c10 (by decide)
    · skip
      refine z_iconst C (v := 0) dX8_takesTest_13 (by decide) ?_
      refine z_iret C hr (by decide) dX8_takesTest_14 ?_
      refine ⟨_, rfl, ?_⟩
      refine ⟨?_, rfl⟩
      unfold zTest; rw [hz5]
      exact ⟨I 92, I 82, by rw [zup_id, zup_id], hp, fun _ _ _ _ _ _ => rfl, fun _ _ => rfl, rfl⟩
  · skip
    rw [hz5] at ev_2; simp only at ev_2; subst ev_2
    obtain ⟨hc5, hl5⟩ := zWh_L (by decide) hz5
    have hpl5 : p < L := Nat.lt_of_not_le (fun z => by have := hBe _ z; omega)
    replace hl5 : l < 5 := hl5
    refine z_istore_n C hm (lv' := [(1, .int (nI l)), (0, .ref (zad w 82))]) dX8_takesTest_8 rfl (by decide) rfl ?_
    refine z_iload_n C dX8_takesTest_9 rfl 0 rfl ?_
    refine z_if_ge (tgt := 15) C dX8_takesTest_10 (by decide) (fun c10 => ?_) (fun c10 => ?_)
    · skip
      refine z_aload_n C dX8_takesTest_15 rfl 1 rfl ?_
      refine z_dup C dX8_takesTest_16 rfl ?_
      refine z_geti C ff_X8_32 82 (by decide) sh82 rfl (v := nI p) hp dX8_takesTest_17 ?_
      refine z_iconst C (v := 1) dX8_takesTest_20 (by decide) ?_
      refine z_iadd C dX8_takesTest_21 ?_
      refine z_ti (y := nI (p + 1)) (nI_add p 1) ?_
      refine z_puti C ff_X8_32 82 (by decide) sh82 rfl rfl rfl dX8_takesTest_22 ?_
      refine z_I (I' := zup I 82 (upd (I 82) 7 (nI (p + 1)))) rfl ?_
      refine z_aload_n C dX8_takesTest_25 rfl 1 rfl ?_
      refine z_callVi C hm cl_X8_197 cv_X8_next 82 (by decide) sh82 ⟨_, _, rfl⟩ [] rfl (rest := []) rfl (k_X8_next w _ _ c L (p + 1)  (by exact hL) hl (by exact rfl) (by omega) (by exact hBy) hBe) ⟨rfl, rfl, Nat.le_of_ble_eq_true rfl, Nat.le_of_ble_eq_true rfl⟩ (Nat.le_of_ble_eq_true rfl) dX8_takesTest_26 (fun v_3 I_3 J_3 h_3 => ?_)
      obtain ⟨ev_3, ei_3, ej_3⟩ := h_3
      replace ev_3 := ev_3.symm; subst ev_3
      replace ei_3 := ei_3.symm; subst ei_3
      replace ej_3 := ej_3.symm; subst ej_3
      refine z_istore_n C hm (lv' := [(2, .int (zNx (c (p + 1)))), (1, .int (nI l)), (0, .ref (zad w 82))]) dX8_takesTest_29 rfl (by decide) rfl ?_
      refine z_aload_n C dX8_takesTest_30 rfl 2 rfl ?_
      refine z_iload_n C dX8_takesTest_31 rfl 0 rfl ?_
      refine z_bipush C (v := 60) dX8_takesTest_32 (by decide) ?_
      refine z_bipush C (v := 62) dX8_takesTest_34 (by decide) ?_
      refine z_callVi C hm cl_X8_189 cv_X8_in 82 (by decide) sh82 ⟨_, _, rfl⟩ [.int (zNx (c (p + 1))), .int 60, .int 62] rfl (rest := []) rfl (k_X8_in w _ _ (zNx (c (p + 1))) (60) (62)) ⟨rfl, rfl, Nat.le_of_ble_eq_true rfl, Nat.le_of_ble_eq_true rfl⟩ (Nat.le_of_ble_eq_true rfl) dX8_takesTest_36 (fun v_4 I_4 J_4 h_4 => ?_)
      obtain ⟨ev_4, ei_4, ej_4⟩ := h_4
      replace ei_4 := ei_4.symm; subst ei_4
      replace ej_4 := ej_4.symm; subst ej_4
      replace ev_4 := ev_4.trans (bI_c (nx_rel (c (p + 1)) (c_301 (fun q hq => (hBy q hq).2) hBe _))); subst ev_4
      refine z_ifne_b (tgt := 44) C dX8_takesTest_39 (by decide) (fun c39 => ?_) (fun c39 => ?_)
      · skip
        have hpl6 : p + 1 < L := Nat.lt_of_not_le (fun z => by have := hBe _ z; omega)
        rw [nx_lo (show c (p + 1) < 128 by omega)]
        refine z_aload_n C dX8_takesTest_44 rfl 2 rfl ?_
        refine z_dup C dX8_takesTest_45 rfl ?_
        refine z_geti C ff_X8_32 82 (by decide) sh82 rfl (v := nI (p + 1)) (by first | rfl | (simp [zup, zupJ, upd, vp_updL]; done)) dX8_takesTest_46 ?_
        refine z_iconst C (v := 1) dX8_takesTest_49 (by decide) ?_
        refine z_iadd C dX8_takesTest_50 ?_
        refine z_ti (y := nI ((p + 1) + 1)) (nI_add (p + 1) 1) ?_
        refine z_puti C ff_X8_32 82 (by decide) sh82 rfl rfl rfl dX8_takesTest_51 ?_
        refine z_I (I' := zup I 82 (upd (upd (I 82) 7 (nI (p + 1))) 7 (nI ((p + 1) + 1)))) (by rw [zup_s, zup_up]) ?_
        refine z_aload_n C dX8_takesTest_54 rfl 2 rfl ?_
        refine z_iconst C (v := 2) dX8_takesTest_55 (by decide) ?_
        refine z_callVi C hm cl_X8_216 cv_X8_takesNumber 82 (by decide) sh82 ⟨_, _, rfl⟩ [.int 2] rfl (rest := []) rfl (k_X8_takesNumber w _ _ c L (p + 1 + 1) 2 (by exact hL) hl (by exact rfl) (by omega) (by exact hBy) hBe (by decide) (by decide)) ⟨rfl, rfl, Nat.le_of_ble_eq_true rfl, Nat.le_of_ble_eq_true rfl⟩ (Nat.le_of_ble_eq_true rfl) dX8_takesTest_56 (fun v_5 I_5 J_5 h_5 => ?_)
        obtain ⟨ev_5, ei_5, ej_5⟩ := h_5
        replace ej_5 := ej_5.symm; subst ej_5
        have hd3 := zDc_L hBe 2 (p + 1 + 1) (by omega)
        by_cases hz2 : zDc c 2 (p + 1 + 1) ≠ 0
        · skip
          rw [bI_t hz2] at ev_5; rw [cif_t hz2] at ei_5; subst ev_5; subst ei_5
          refine z_I (I' := zup I 82 (upd (upd (upd (upd (I 82) 7 (nI (p + 1))) 7 (nI ((p + 1) + 1))) 8 (nI (zDv c (p + 1 + 1) (zDc c 2 (p + 1 + 1))))) 7 (nI (p + 1 + 1 + zDc c 2 (p + 1 + 1))))) (by funext zk; by_cases h1 : zk = 82 <;> simp [zup, h1]) ?_
          refine z_if_ne (tgt := 64) C dX8_takesTest_59 (by decide) (fun c59 => ?_) (fun c59 => ?_)
          · skip
            refine z_aload_n C dX8_takesTest_64 rfl 2 rfl ?_
            refine z_sipush C (v := 1000) dX8_takesTest_65 (by decide) ?_
            refine z_iload_n C dX8_takesTest_68 rfl 1 rfl ?_
            refine z_imul C dX8_takesTest_69 ?_
            refine z_ti (y := nI (1000 * l)) (pk_mul 1000 l) ?_
            refine z_bipush C (v := 100) dX8_takesTest_70 (by decide) ?_
            refine z_iload_n C dX8_takesTest_72 rfl 0 rfl ?_
            refine z_bipush C (v := 60) dX8_takesTest_73 (by decide) ?_
            refine z_isub C dX8_takesTest_75 ?_
            refine z_ti (y := nI (c (p + 1) - 60)) (pk_sub (b := 60) (by omega)) ?_
            refine z_imul C dX8_takesTest_76 ?_
            refine z_ti (y := nI (100 * (c (p + 1) - 60))) (pk_mul 100 (c (p + 1) - 60)) ?_
            refine z_iadd C dX8_takesTest_77 ?_
            refine z_ti (y := nI (1000 * l + (100 * (c (p + 1) - 60)))) (nI_add (1000 * l) (100 * (c (p + 1) - 60))) ?_
            refine z_aload_n C dX8_takesTest_78 rfl 2 rfl ?_
            refine z_geti C ff_X8_35 82 (by decide) sh82 rfl (v := nI (zDv c (p + 1 + 1) (zDc c 2 (p + 1 + 1)))) (by first | rfl | (simp [zup, zupJ, upd, vp_updL]; done)) dX8_takesTest_79 ?_
            refine z_iadd C dX8_takesTest_82 ?_
            refine z_ti (y := nI ((1000 * l + (100 * (c (p + 1) - 60))) + (zDv c (p + 1 + 1) (zDc c 2 (p + 1 + 1))))) (nI_add (1000 * l + (100 * (c (p + 1) - 60))) (zDv c (p + 1 + 1) (zDc c 2 (p + 1 + 1)))) ?_
            refine z_callVv C hm cl_X8_208 cv_X8_put 82 (by decide) sh82 ⟨_, _, rfl⟩ [.int (nI ((1000 * l + (100 * (c (p + 1) - 60))) + (zDv c (p + 1 + 1) (zDc c 2 (p + 1 + 1)))))] rfl (rest := []) rfl (k_X8_put w _ _ (u0 + ts.length) (nI ((1000 * l + (100 * (c (p + 1) - 60))) + (zDv c (p + 1 + 1) (zDc c 2 (p + 1 + 1))))) (by exact hZ.2.1) (by omega)) ⟨rfl, rfl, Nat.le_of_ble_eq_true rfl, Nat.le_of_ble_eq_true rfl⟩ (Nat.le_of_ble_eq_true rfl) dX8_takesTest_83 (fun I_6 J_6 h_6 => ?_)
            obtain ⟨ei_6, ej_6⟩ := h_6
            replace ei_6 := ei_6.symm; subst ei_6
            replace ej_6 := ej_6.symm; subst ej_6
            refine z_I (I' := zup (zup I 82 (upd (upd (upd (upd (upd (I 82) 7 (nI (p + 1))) 7 (nI ((p + 1) + 1))) 8 (nI (zDv c (p + 1 + 1) (zDc c 2 (p + 1 + 1))))) 7 (nI (p + 1 + 1 + zDc c 2 (p + 1 + 1)))) 17 (nI (u0 + ts.length + 1)))) 92 (upd (I 92) (u0 + ts.length) (nI ((1000 * l + (100 * (c (p + 1) - 60))) + (zDv c (p + 1 + 1) (zDc c 2 (p + 1 + 1))))))) (by funext zk; by_cases h1 : zk = 82 <;> by_cases h2 : zk = 92 <;> simp [zup, h1, h2, upd_2]) ?_
            have hZ2 : zMs (upd (I 92) (u0 + ts.length) (mTok (.inr (l, c (p + 1) - 60, zDv c (p + 1 + 1) (zDc c 2 (p + 1 + 1)))))) (I 93) (upd (upd (upd (upd (upd (I 82) 7 (nI (p + 1))) 7 (nI ((p + 1) + 1))) 8 (nI (zDv c (p + 1 + 1) (zDc c 2 (p + 1 + 1))))) 7 (nI (p + 1 + 1 + zDc c 2 (p + 1 + 1)))) 17 (nI (u0 + ts.length + 1))) u0 (ts ++ [.inr (l, c (p + 1) - 60, zDv c (p + 1 + 1) (zDc c 2 (p + 1 + 1)))]) ws := zMs_t (t := .inr (l, c (p + 1) - 60, zDv c (p + 1 + 1) (zDc c 2 (p + 1 + 1)))) hZ hZ.2.2.1 (by rfl) (by exact hZ.2.2.2.1) (by exact hZ.2.2.2.2)
            refine z_aload_n C dX8_takesTest_86 rfl 2 rfl ?_
            refine z_callVv C hm cl_X8_219 cv_X8_whole 82 (by decide) sh82 ⟨_, _, rfl⟩ [] rfl (rest := []) rfl (k_X8_whole w _ _ u0 (ts ++ [.inr (l, c (p + 1) - 60, zDv c (p + 1 + 1) (zDc c 2 (p + 1 + 1)))]) ws (by exact hZ2) hok (by rw [List.length_append]; simp only [List.length_cons, List.length_nil]; omega) hw1) ⟨rfl, rfl, Nat.le_of_ble_eq_true rfl, Nat.le_of_ble_eq_true rfl⟩ (Nat.le_of_ble_eq_true rfl) dX8_takesTest_87 (fun I_7 J_7 h_7 => ?_)
            obtain ⟨⟨S_7, O_7, ei_7, hz_7, hfO_7, hfS_7⟩, ej_7⟩ := h_7
            replace ei_7 := ei_7.symm; subst ei_7
            replace ej_7 := ej_7.symm; subst ej_7
            refine z_I (I' := zup (zup I 82 O_7) 92 S_7) (by funext zk; by_cases h82 : zk = 82 <;> by_cases h92 : zk = 92 <;> simp [zup, h82, h92]) ?_
            refine z_iconst C (v := 1) dX8_takesTest_90 (by decide) ?_
            refine z_iret C hr (by decide) dX8_takesTest_91 ?_
            refine ⟨_, rfl, ?_⟩
            refine ⟨?_, rfl⟩
            unfold zTest; rw [hz5]; simp only; rw [wh6 (c (p + 1)) (c_301 (fun q hq => (hBy q hq).2) hBe _)]
            rw [if_pos c39]; simp only
            rw [if_neg hz2]
            refine ⟨S_7, O_7, ?_, ?_, ?_, ?_, rfl, hz_7⟩
            · funext zk; by_cases h1 : zk = 82 <;> by_cases h2 : zk = 92 <;> simp [zup, h1, h2]
            · rw [hfO_7 7 (by decide) (by decide) (by decide)]; rfl
            · intro k h1 h2 h3 h4 h5
              rw [hfO_7 k h3 h4 h5]
              show upd (upd (upd (upd (upd (I 82) 7 _) 7 _) 8 _) 7 _) 17 _ k = _
              rw [upd_n h3, upd_n h1, upd_n h2, upd_n h1, upd_n h1]
            · intro k hk
              rw [hfS_7 k hk]
              show upd (I 92) (u0 + ts.length) _ k = _
              rw [upd_n (by omega)]
          · skip
            exact absurd c59 (by decide)
        · skip
          rw [bI_f hz2] at ev_5; rw [cif_f hz2] at ei_5; subst ev_5; subst ei_5
          refine z_if_ne (tgt := 64) C dX8_takesTest_59 (by decide) (fun c59 => ?_) (fun c59 => ?_)
          · skip
            exact absurd rfl c59
          · skip
            refine z_iconst C (v := 0) dX8_takesTest_62 (by decide) ?_
            refine z_iret C hr (by decide) dX8_takesTest_63 ?_
            refine ⟨_, rfl, ?_⟩
            refine ⟨?_, rfl⟩
            unfold zTest; rw [hz5]; simp only; rw [wh6 (c (p + 1)) (c_301 (fun q hq => (hBy q hq).2) hBe _)]
            rw [if_pos c39]; simp only
            rw [if_pos (by omega)]
            exact ⟨I 92, upd (upd (I 82) 7 (nI (p + 1))) 7 (nI ((p + 1) + 1)), by rw [zup_id (a := 92)], rfl, (fun k h1 h2 _ _ _ => by simp only [upd]; simp [h1, h2]), fun _ _ => rfl, rfl⟩
      · skip
        refine z_iconst C (v := 0) dX8_takesTest_42 (by decide) ?_
        refine z_iret C hr (by decide) dX8_takesTest_43 ?_
        refine ⟨_, rfl, ?_⟩
        refine ⟨?_, rfl⟩
        unfold zTest; rw [hz5]; simp only; rw [wh6 (c (p + 1)) (c_301 (fun q hq => (hBy q hq).2) hBe _)]
        rw [if_neg c39]
        exact ⟨I 92, upd (I 82) 7 (nI (p + 1)), by rw [zup_id (a := 92)], rfl, (fun k h1 h2 _ _ _ => by simp only [upd]; simp [h1, h2]), fun _ _ => rfl, rfl⟩
    · skip
      exact absurd (nI_pos' (by omega)) c10
