/-! the reference: way, silent -/
abbrev rm_X8_way : Room := { frames := 8, cells := 0, slots := 0, locals := 300 }
set_option maxRecDepth 100000 in
set_option maxHeartbeats 4000000 in
theorem k_X8_way (w : zW) (I : zI) (J : zJ) (n h : Nat) (A : List zCla) (jn : Nat → Int32) (hd : Nat → Option Nat) (x : Int32) (i : Int32) (hN : I 82 0 = nI n) (hn : n ≤ 8) (hh : h < 7) (hM : mHeld I h A) (hJn : ∀ k, k < 64 → I 84 k = jn k) (hDg : ∀ a, a < 8 → jn (a * 8 + a) = 0) (hHd : ∀ a, a < n → I 85 a = oM (hd a)) (hd99 : ∀ a k, hd a = some k → k ≤ 99) : zMet yX8_way cX8_way 4 (some .int) rm_X8_way w [.ref (zad w 82), .int x, .int i] I J (zpi (fun v I' J' => J' = J ∧ frM I' I ∧ ((¬ zin x n ∧ v = -1) ∨ ∃ a, a < n ∧ x = nI a ∧ ∃ len row, wayR n (aSteps A) (zGt jn A) (zT0 hd) a len row ∧ ((i = -1 ∧ v = nI len) ∨ (i ≠ -1 ∧ ∃ k, k < len ∧ i = nI k ∧ v = nI (row k)) ∨ (i ≠ -1 ∧ ¬ zin i len ∧ v = -1))))) := by
  refine zMet_of (by decide) (Nat.le_of_ble_eq_true rfl) (fun X C hm hr => ?_)
  refine z_sub (lv' := [(0, .ref (zad w 82)), (1, .int x), (2, .int i)]) [0, 1, 2] rfl ?_
  refine z_aload_n C dX8_way_0 rfl 0 rfl ?_
  refine z_iload_n C dX8_way_1 rfl 1 rfl ?_
  refine z_callVi C hm cl_X8_193 cv_X8_isName 82 (by decide) sh82 ⟨_, _, rfl⟩ [.int x] rfl (rest := []) rfl (k_X8_isName w _ _ n x hN hn) ⟨rfl, rfl, Nat.le_of_ble_eq_true rfl, Nat.le_of_ble_eq_true rfl⟩ (Nat.le_of_ble_eq_true rfl) dX8_way_2 (fun v_1 I_1 J_1 h_1 => ?_)
  obtain ⟨ev_1, ei_1, ej_1⟩ := h_1
  replace ev_1 := ev_1.symm; subst ev_1
  replace ei_1 := ei_1.symm; subst ei_1
  replace ej_1 := ej_1.symm; subst ej_1
  refine z_ifne_b (tgt := 10) C dX8_way_5 (by decide) (fun c5 => ?_) (fun c5 => ?_)
  · skip
    obtain ⟨a, ha, rfl⟩ := c5
    refine z_aload_n C dX8_way_10 rfl 0 rfl ?_
    refine z_iload_n C dX8_way_11 rfl 1 rfl ?_
    refine z_callVi C hm cl_X8_287 cv_X8_findWay 82 (by decide) sh82 ⟨_, _, rfl⟩ [.int (nI a)] rfl (rest := []) rfl (k_X8_findWay w _ _ n h A jn hd a hN hn hh hM hJn hDg hHd hd99 ha) ⟨rfl, rfl, Nat.le_of_ble_eq_true rfl, Nat.le_of_ble_eq_true rfl⟩ (Nat.le_of_ble_eq_true rfl) dX8_way_12 (fun v_2 I_2 J_2 h_2 => ?_)
    obtain ⟨eJ_2, hf_2, len_2, row_2, hw_2, hv_2, hr_2⟩ := h_2
    replace eJ_2 := eJ_2.symm; subst eJ_2
    have hlen : len_2 ≤ 10 := wayR_len (aSteps_le A) hw_2
    rw [hv_2]
    refine z_istore_n C hm (lv' := [(3, .int (nI len_2)), (0, .ref (zad w 82)), (1, .int (nI a)), (2, .int i)]) dX8_way_15 rfl (by decide) rfl ?_
    refine z_iload_n C dX8_way_16 rfl 3 rfl ?_
    refine z_iconst C (v := -1) dX8_way_17 (by decide) ?_
    refine z_icmp_ne (tgt := 23) C dX8_way_18 (by decide) (fun c18 => ?_) (fun c18 => ?_)
    · skip
      refine z_aload_n C dX8_way_23 rfl 1 rfl ?_
      refine z_iload_n C dX8_way_24 rfl 3 rfl ?_
      refine z_iconst C (v := 0) dX8_way_25 (by decide) ?_
      refine z_iload_n C dX8_way_26 rfl 0 rfl ?_
      refine z_iconst C (v := 1) dX8_way_27 (by decide) ?_
      refine z_isub C dX8_way_28 ?_
      refine z_callVi C hm cl_X8_189 cv_X8_in 82 (by decide) sh82 ⟨_, _, rfl⟩ [.int i, .int 0, .int ((nI len_2) - 1)] rfl (rest := []) rfl (k_X8_in w _ _ i (0) ((nI len_2) - 1)) ⟨rfl, rfl, Nat.le_of_ble_eq_true rfl, Nat.le_of_ble_eq_true rfl⟩ (Nat.le_of_ble_eq_true rfl) dX8_way_29 (fun v_3 I_3 J_3 h_3 => ?_)
      obtain ⟨ev_3, ei_3, ej_3⟩ := h_3
      replace ei_3 := ei_3.symm; subst ei_3
      replace ej_3 := ej_3.symm; subst ej_3
      replace ev_3 := ev_3.trans (bI_c (in_n (n := len_2) (by omega))); subst ev_3
      refine z_ifeq_b (tgt := 44) C dX8_way_32 (by decide) (fun c32 => ?_) (fun c32 => ?_)
      · skip
        refine z_iconst C (v := -1) dX8_way_44 (by decide) ?_
        refine z_iret C hr rfl dX8_way_45 ?_
        refine ⟨_, rfl, ?_⟩
        exact ⟨rfl, hf_2, Or.inr ⟨a, ha, rfl, len_2, row_2, hw_2, Or.inr (Or.inr ⟨c18, c32, rfl⟩)⟩⟩
      · skip
        obtain ⟨ii, hii, rfl⟩ := c32
        refine z_aload_n C dX8_way_35 rfl 1 rfl ?_
        refine z_getr C ff_X8_90 82 (by decide) sh82 rfl dX8_way_36 ?_
        refine z_iload_n C dX8_way_39 rfl 3 rfl ?_
        refine z_iald C 99 (by decide) sh99 ii (by omega) (by decide) rfl (v := nI (row_2 ii)) (hr_2 ii hii) dX8_way_40 ?_
        refine z_goto (tgt := 45) C dX8_way_41 (by decide) ?_
        refine z_iret C hr rfl dX8_way_45 ?_
        refine ⟨_, rfl, ?_⟩
        exact ⟨rfl, hf_2, Or.inr ⟨a, ha, rfl, len_2, row_2, hw_2, Or.inr (Or.inl ⟨c18, ii, hii, rfl, rfl⟩)⟩⟩
    · skip
      refine z_iload_n C dX8_way_21 rfl 0 rfl ?_
      refine z_iret C hr rfl dX8_way_22 ?_
      refine ⟨_, rfl, ?_⟩
      exact ⟨rfl, hf_2, Or.inr ⟨a, ha, rfl, len_2, row_2, hw_2, Or.inl ⟨c18, rfl⟩⟩⟩
  · skip
    refine z_iconst C (v := -1) dX8_way_8 (by decide) ?_
    refine z_iret C hr rfl dX8_way_9 ?_
    refine ⟨_, rfl, ?_⟩
    exact ⟨rfl, frM_id, Or.inl ⟨c5, rfl⟩⟩
/-- the least set so far -/
def silB (OK : Nat → Prop) (s : Nat) (bo : Option Nat) : Prop := (bo = none ∧ ∀ z, z < s → ¬ OK z) ∨ ∃ b, bo = some b ∧ b < s ∧ OK b ∧ ∀ z, z < s → OK z → zpop b < zpop z ∨ (zpop b = zpop z ∧ b ≤ z)
theorem silB_0 {OK : Nat → Prop} : silB OK 0 none := Or.inl ⟨rfl, fun z h => absurd h (Nat.not_lt_zero _)⟩
theorem silB_n {OK : Nat → Prop} {s : Nat} {bo : Option Nat} (h : silB OK s bo) (hn : ¬ OK s) : silB OK (s + 1) bo := by
  rcases h with ⟨h1, h2⟩ | ⟨b, h1, h2, h3, h4⟩
  · exact Or.inl ⟨h1, lt_s h2 hn⟩
  · refine Or.inr ⟨b, h1, by omega, h3, fun z hz ho => ?_⟩
    by_cases q : z = s
    · subst q; exact absurd ho hn
    · exact h4 z (by omega) ho
theorem silB_g {OK : Nat → Prop} {s b : Nat} (h : silB OK s (some b)) (hn : zpop b ≤ zpop s) : silB OK (s + 1) (some b) := by
  rcases h with ⟨h1, _⟩ | ⟨b', h1, h2, h3, h4⟩
  · cases h1
  · cases h1
    refine Or.inr ⟨b, rfl, by omega, h3, fun z hz ho => ?_⟩
    by_cases q : z = s
    · subst q; omega
    · exact h4 z (by omega) ho
theorem silB_y {OK : Nat → Prop} {s : Nat} {bo : Option Nat} (h : silB OK s bo) (ho : OK s) (hl : ∀ b, bo = some b → zpop s < zpop b) : silB OK (s + 1) (some s) := by
  refine Or.inr ⟨s, rfl, by omega, ho, fun z hz hz2 => ?_⟩
  by_cases q : z = s
  · subst q; exact Or.inr ⟨rfl, Nat.le_refl _⟩
  · rcases h with ⟨h1, h2⟩ | ⟨b, h1, h2, h3, h4⟩
    · exact absurd hz2 (h2 z (by omega))
    · have := hl b h1
      have := h4 z (by omega) hz2
      left; omega
theorem silB_r {OK : Nat → Prop} {n : Nat} {bo : Option Nat} (h : silB OK (2 ^ n) bo) : silR n OK (oI bo) := by
  rcases h with ⟨h1, h2⟩ | ⟨b, h1, h2, h3, h4⟩
  · subst h1; exact Or.inr ⟨h2, rfl⟩
  · subst h1; exact Or.inl ⟨b, h2, h3, rfl, h4⟩
abbrev rm_X8_silent : Room := { frames := 7, cells := 0, slots := 0, locals := 272 }
set_option maxRecDepth 100000 in
set_option maxHeartbeats 4000000 in
theorem k_X8_silent (w : zW) (I : zI) (J : zJ) (n h : Nat) (A : List zCla) (jn : Nat → Int32) (hd : Nat → Option Nat) (x : Int32) (y : Int32) (hN : I 82 0 = nI n) (hn : n ≤ 8) (hh : h < 7) (hM : mHeld I h A) (hJn : ∀ k, k < 64 → I 84 k = jn k) (hDg : ∀ a, a < 8 → jn (a * 8 + a) = 0) (hHd : ∀ a, a < n → I 85 a = oM (hd a)) (hd99 : ∀ a k, hd a = some k → k ≤ 99) : zMet yX8_silent cX8_silent 5 (some .int) rm_X8_silent w [.ref (zad w 82), .int x, .int y] I J (zpi (fun v I' J' => J' = J ∧ frM I' I ∧ ((¬ zin x n ∧ v = -1) ∨ (∃ a, a < n ∧ x = nI a ∧ ((¬ zin y 100 ∧ v = -2) ∨ ∃ hr9, hr9 < 100 ∧ y = nI hr9 ∧ (((∃ k, hd a = some k ∧ k ≤ hr9) ∧ v = -5) ∨ ((∀ k, hd a = some k → hr9 < k) ∧ silR n (fun s => zb s a = false ∧ hr9 < ern s n jn A hd a) v))))))) := by
  refine zMet_of (by decide) (Nat.le_of_ble_eq_true rfl) (fun X C hm hr => ?_)
  refine z_sub (lv' := [(0, .ref (zad w 82)), (1, .int x), (2, .int y)]) [0, 1, 2] rfl ?_
  have hzf : zFar = 1000000 := rfl
  have hp8 := p2_8 hn
  refine z_aload_n C dX8_silent_0 rfl 0 rfl ?_
  refine z_iload_n C dX8_silent_1 rfl 1 rfl ?_
  refine z_callVi C hm cl_X8_193 cv_X8_isName 82 (by decide) sh82 ⟨_, _, rfl⟩ [.int x] rfl (rest := []) rfl (k_X8_isName w _ _ n x hN hn) ⟨rfl, rfl, Nat.le_of_ble_eq_true rfl, Nat.le_of_ble_eq_true rfl⟩ (Nat.le_of_ble_eq_true rfl) dX8_silent_2 (fun v_1 I_1 J_1 h_1 => ?_)
  obtain ⟨ev_1, ei_1, ej_1⟩ := h_1
  replace ev_1 := ev_1.symm; subst ev_1
  replace ei_1 := ei_1.symm; subst ei_1
  replace ej_1 := ej_1.symm; subst ej_1
  refine z_ifne_b (tgt := 10) C dX8_silent_5 (by decide) (fun c5 => ?_) (fun c5 => ?_)
  · skip
    obtain ⟨a, ha, rfl⟩ := c5
    refine z_aload_n C dX8_silent_10 rfl 0 rfl ?_
    refine z_iload_n C dX8_silent_11 rfl 2 rfl ?_
    refine z_callVi C hm cl_X8_290 cv_X8_isHour 82 (by decide) sh82 ⟨_, _, rfl⟩ [.int y] rfl (rest := []) rfl (k_X8_isHour w _ _  y ) ⟨rfl, rfl, Nat.le_of_ble_eq_true rfl, Nat.le_of_ble_eq_true rfl⟩ (Nat.le_of_ble_eq_true rfl) dX8_silent_12 (fun v_2 I_2 J_2 h_2 => ?_)
    obtain ⟨ev_2, ei_2, ej_2⟩ := h_2
    replace ev_2 := ev_2.symm; subst ev_2
    replace ei_2 := ei_2.symm; subst ei_2
    replace ej_2 := ej_2.symm; subst ej_2
    refine z_ifne_b (tgt := 21) C dX8_silent_15 (by decide) (fun c15 => ?_) (fun c15 => ?_)
    · skip
      obtain ⟨hr9, hhr9, rfl⟩ := c15
      refine z_aload_n C dX8_silent_21 rfl 0 rfl ?_
      refine z_getr C ff_X8_20 82 (by decide) sh82 rfl dX8_silent_22 ?_
      refine z_iload_n C dX8_silent_25 rfl 1 rfl ?_
      refine z_iald C 85 (by decide) sh85 a (by omega) (by decide) rfl (v := oM (hd a)) (hHd a ha) dX8_silent_26 ?_
      refine z_if_lt (tgt := 43) C dX8_silent_27 (by decide) (fun c27 => ?_) (fun c27 => ?_)
      · skip
        have hnk : ∀ k, hd a = some k → hr9 < k := fun k q => absurd c27 (by rw [q]; exact nI_pos (by have := hd99 a k q; omega))
        refine z_aload_n C dX8_silent_43 rfl 0 rfl ?_
        refine z_callVv C hm cl_X8_278 cv_X8_layHours 82 (by decide) sh82 ⟨_, _, rfl⟩ [] rfl (rest := []) rfl (k_X8_layHours w _ _ n h A jn  hN hn hh hM hJn hDg) ⟨rfl, rfl, Nat.le_of_ble_eq_true rfl, Nat.le_of_ble_eq_true rfl⟩ (Nat.le_of_ble_eq_true rfl) dX8_silent_44 (fun I_3 J_3 h_3 => ?_)
        obtain ⟨hz_3, eJ_3⟩ := h_3
        replace eJ_3 := eJ_3.symm; subst eJ_3
        obtain ⟨h82_3, hfr_3, hH_3⟩ := id hz_3
        have hN_3 : I_3 82 0 = nI n := by rw [h82_3, upd_n (by decide)]; exact hN
        have hS_3 : I_3 82 25 = nI (aSteps A) := by rw [h82_3]; exact upd_s
        have hHd_3 : ∀ a, a < n → I_3 85 a = oM (hd a) := fun a ha => by rw [hfr_3 85 (by decide) (by decide) (by decide) (by decide)]; exact hHd a ha
        refine z_bipush C (v := -5) dX8_silent_47 (by decide) ?_
        refine z_istore_n C hm (lv' := [(3, .int (-5)), (0, .ref (zad w 82)), (1, .int (nI a)), (2, .int (nI hr9))]) dX8_silent_49 rfl (by decide) rfl ?_
        refine z_iconst C (v := 0) dX8_silent_50 (by decide) ?_
        refine z_istore C hm (lv' := [(4, .int 0), (3, .int (-5)), (0, .ref (zad w 82)), (1, .int (nI a)), (2, .int (nI hr9))]) dX8_silent_51 (by decide) rfl ?_
        have L53 : ∀ (d : Nat) (s : Nat) (bo : Option Nat) (R : Nat → Int32) (v53_3 : Int32) (v53_4 : Int32) (I53 : zI), (2 ^ n - s) < d → (s ≤ 2 ^ n) → (silB (fun s => zb s a = false ∧ hr9 < ern s n jn A hd a) s bo) → v53_3 = oI bo → v53_4 = nI s → I53 = zup I_3 97 R → Z X w I53 J 53 [(0, .ref (zad w 82)), (1, .int (nI a)), (2, .int (nI hr9)), (3, .int v53_3), (4, .int v53_4)] [] := by
          intro d
          induction d with
          | zero => intro s bo R v53_3 v53_4 I53 hd; exact absurd hd (Nat.not_lt_zero _)
          | succ d ih53 => 
            intro s bo R v53_3 v53_4 I53 hd53 hs hbs e_v53_3 e_v53_4 e_I53
            replace e_v53_3 := e_v53_3.symm; subst e_v53_3
            replace e_v53_4 := e_v53_4.symm; subst e_v53_4
            replace e_I53 := e_I53.symm; subst e_I53
            refine z_iload C dX8_silent_53 4 rfl ?_
            refine z_iconst C (v := 1) dX8_silent_55 (by decide) ?_
            refine z_aload_n C dX8_silent_56 rfl 0 rfl ?_
            refine z_geti C ff_X8_7 82 (by decide) sh82 rfl (v := nI n) (by first | exact hN_3 | (simp [zup, zupJ, upd, vp_updL]; exact hN_3)) dX8_silent_57 ?_
            refine z_ishl C dX8_silent_60 ?_
            refine z_ti (y := nI (2 ^ n)) (shl1 (by omega)) ?_
            refine z_icmp_ge_n s (2 ^ n) (tgt := 119) C rfl rfl (by omega) (by omega) dX8_silent_61 (by decide) (fun c61 => ?_) (fun c61 => ?_)
            · skip
              have hse : s = 2 ^ n := by omega
              rw [hse] at hbs
              refine z_iload_n C dX8_silent_119 rfl 3 rfl ?_
              refine z_iret C hr rfl dX8_silent_120 ?_
              refine ⟨_, rfl, ?_⟩
              exact ⟨rfl, (frM_z (by decide) (frM_l hz_3)), Or.inr ⟨a, ha, rfl, Or.inr ⟨hr9, hhr9, rfl, Or.inr ⟨hnk, silB_r hbs⟩⟩⟩⟩
            · skip
              refine z_aload_n C dX8_silent_64 rfl 0 rfl ?_
              refine z_iload C dX8_silent_65 4 rfl ?_
              refine z_iload_n C dX8_silent_67 rfl 1 rfl ?_
              refine z_callVi C hm cl_X8_275 cv_X8_has 82 (by decide) sh82 ⟨_, _, rfl⟩ [.int (nI s), .int (nI a)] rfl (rest := []) rfl (k_X8_has w _ _  s a (by omega) (by omega)) ⟨rfl, rfl, Nat.le_of_ble_eq_true rfl, Nat.le_of_ble_eq_true rfl⟩ (Nat.le_of_ble_eq_true rfl) dX8_silent_68 (fun v_4 I_4 J_4 h_4 => ?_)
              obtain ⟨ev_4, ei_4, ej_4⟩ := h_4
              replace ev_4 := ev_4.symm; subst ev_4
              replace ei_4 := ei_4.symm; subst ei_4
              replace ej_4 := ej_4.symm; subst ej_4
              refine z_ifne_b (tgt := 113) C dX8_silent_71 (by decide) (fun c71 => ?_) (fun c71 => ?_)
              · skip
                refine z_iinc C hm 4 (v := nI (s + 1)) (lv' := [(4, .int (nI (s + 1))), (0, .ref (zad w 82)), (1, .int (nI a)), (2, .int (nI hr9)), (3, .int (oI bo))]) dX8_silent_113 rfl (nI_add s 1) (by decide) rfl ?_
                refine z_goto (tgt := 53) C dX8_silent_116 (by decide) ?_
                exact z_sub [1, 2, 3, 4, 0] rfl (ih53  (s + 1) bo R _ _ _ (by omega) (by omega) (silB_n hbs (fun q => by rw [q.1] at c71; cases c71)) rfl rfl (by funext zk; by_cases h97 : zk = 97 <;> simp [zup, h97]))
              · skip
                have hzf0 : zb s a = false := eq_false_of_ne_true c71
                refine z_iload_n C dX8_silent_74 rfl 3 rfl ?_
                refine z_if_lt (tgt := 95) C dX8_silent_75 (by decide) (fun c75 => ?_) (fun c75 => ?_)
                · skip
                  have hbn : bo = none := by
                    rcases hq : bo with _ | b
                    · rfl
                    · exfalso; rcases hbs with ⟨z, _⟩ | ⟨b2, z, z2, _⟩
                      · rw [hq] at z; cases z
                      · rw [z] at c75; exact nI_pos (by omega) c75
                  refine z_aload_n C dX8_silent_95 rfl 0 rfl ?_
                  refine z_iload C dX8_silent_96 4 rfl ?_
                  refine z_callVv C hm cl_X8_281 cv_X8_spread 82 (by decide) sh82 ⟨_, _, rfl⟩ [.int (nI s)] rfl (rest := []) rfl (k_X8_spread w _ _ n (aSteps A) A jn hd s (by omega) (by exact hN_3) hn (by exact hS_3) (aSteps_le A) (by exact hH_3) (mHeld_ok hM) (by exact hHd_3) hd99) ⟨rfl, rfl, Nat.le_of_ble_eq_true rfl, Nat.le_of_ble_eq_true rfl⟩ (Nat.le_of_ble_eq_true rfl) dX8_silent_98 (fun I_5 J_5 h_5 => ?_)
                  obtain ⟨⟨R_5, eI_5, hR_5⟩, eJ_5⟩ := h_5
                  replace eI_5 := eI_5.symm; subst eI_5
                  replace eJ_5 := eJ_5.symm; subst eJ_5
                  refine z_I (I' := zup I_3 97 R_5) (by funext zk; simp only [zup]; split <;> simp_all [zup]) ?_
                  refine z_aload_n C dX8_silent_101 rfl 0 rfl ?_
                  refine z_iload_n C dX8_silent_102 rfl 1 rfl ?_
                  refine z_callVi C hm cl_X8_284 cv_X8_earliest 82 (by decide) sh82 ⟨_, _, rfl⟩ [.int (nI a)] rfl (rest := []) rfl (k_X8_earliest w _ _ s n A jn hd a (by omega) (by exact hS_3) (fun k hk => hR_5 k hk a ha) hd99) ⟨rfl, rfl, Nat.le_of_ble_eq_true rfl, Nat.le_of_ble_eq_true rfl⟩ (Nat.le_of_ble_eq_true rfl) dX8_silent_103 (fun v_6 I_6 J_6 h_6 => ?_)
                  obtain ⟨ev_6, ei_6, ej_6⟩ := h_6
                  replace ev_6 := ev_6.symm; subst ev_6
                  replace ei_6 := ei_6.symm; subst ei_6
                  replace ej_6 := ej_6.symm; subst ej_6
                  refine z_iload_n C dX8_silent_106 rfl 2 rfl ?_
                  refine z_icmp_le_n (ern s n jn A hd a) hr9 (tgt := 113) C rfl rfl (by have := ern_le (m := s) (n := n) (jn := jn) (A := A) hd99 a; omega) (by omega) dX8_silent_107 (by decide) (fun c107 => ?_) (fun c107 => ?_)
                  · skip
                    refine z_iinc C hm 4 (v := nI (s + 1)) (lv' := [(4, .int (nI (s + 1))), (0, .ref (zad w 82)), (1, .int (nI a)), (2, .int (nI hr9)), (3, .int (oI bo))]) dX8_silent_113 rfl (nI_add s 1) (by decide) rfl ?_
                    refine z_goto (tgt := 53) C dX8_silent_116 (by decide) ?_
                    exact z_sub [1, 2, 3, 4, 0] rfl (ih53  (s + 1) bo R_5 _ _ _ (by omega) (by omega) (silB_n hbs (fun q => by have := q.2; omega)) rfl rfl (by funext zk; by_cases h97 : zk = 97 <;> simp [zup, h97]))
                  · skip
                    refine z_iload C dX8_silent_110 4 rfl ?_
                    refine z_istore_n C hm (lv' := [(3, .int (nI s)), (0, .ref (zad w 82)), (1, .int (nI a)), (2, .int (nI hr9)), (4, .int (nI s))]) dX8_silent_112 rfl (by decide) rfl ?_
                    refine z_iinc C hm 4 (v := nI (s + 1)) (lv' := [(4, .int (nI (s + 1))), (3, .int (nI s)), (0, .ref (zad w 82)), (1, .int (nI a)), (2, .int (nI hr9))]) dX8_silent_113 rfl (nI_add s 1) (by decide) rfl ?_
                    refine z_goto (tgt := 53) C dX8_silent_116 (by decide) ?_
                    exact z_sub [2, 3, 4, 1, 0] rfl (ih53  (s + 1) (some s) R_5 _ _ _ (by omega) (by omega) (silB_y hbs ⟨hzf0, c107⟩ (fun b q => by rw [hbn] at q; cases q)) rfl rfl (by funext zk; by_cases h97 : zk = 97 <;> simp [zup, h97]))
                · skip
                  have hbx : ∃ b, bo = some b ∧ b < 2 ^ n := by
                    rcases hbs with ⟨z, _⟩ | ⟨b2, z, z2, _⟩
                    · exfalso; rw [z] at c75; exact c75 (by decide)
                    · exact ⟨b2, z, by omega⟩
                  obtain ⟨b, hbe, hb8⟩ := hbx
                  rw [hbe] at hbs
                  rw [hbe, show oI (some b) = nI b from rfl]
                  refine z_aload_n C dX8_silent_78 rfl 0 rfl ?_
                  refine z_iload C dX8_silent_79 4 rfl ?_
                  refine z_callVi C hm cl_X8_293 cv_X8_ones 82 (by decide) sh82 ⟨_, _, rfl⟩ [.int (nI s)] rfl (rest := []) rfl (k_X8_ones w _ _  s (by omega)) ⟨rfl, rfl, Nat.le_of_ble_eq_true rfl, Nat.le_of_ble_eq_true rfl⟩ (Nat.le_of_ble_eq_true rfl) dX8_silent_81 (fun v_7 I_7 J_7 h_7 => ?_)
                  obtain ⟨ev_7, ei_7, ej_7⟩ := h_7
                  replace ev_7 := ev_7.symm; subst ev_7
                  replace ei_7 := ei_7.symm; subst ei_7
                  replace ej_7 := ej_7.symm; subst ej_7
                  refine z_aload_n C dX8_silent_84 rfl 0 rfl ?_
                  refine z_iload_n C dX8_silent_85 rfl 3 rfl ?_
                  refine z_callVi C hm cl_X8_293 cv_X8_ones 82 (by decide) sh82 ⟨_, _, rfl⟩ [.int (nI b)] rfl (rest := [.int (nI (zpop s))]) rfl (k_X8_ones w _ _  b (by omega)) ⟨rfl, rfl, Nat.le_of_ble_eq_true rfl, Nat.le_of_ble_eq_true rfl⟩ (Nat.le_of_ble_eq_true rfl) dX8_silent_86 (fun v_8 I_8 J_8 h_8 => ?_)
                  obtain ⟨ev_8, ei_8, ej_8⟩ := h_8
                  replace ev_8 := ev_8.symm; subst ev_8
                  replace ei_8 := ei_8.symm; subst ei_8
                  replace ej_8 := ej_8.symm; subst ej_8
                  refine z_icmp_lt_n (zpop s) (zpop b) (tgt := 95) C rfl rfl (by have := zpop_le s; omega) (by have := zpop_le b; omega) dX8_silent_89 (by decide) (fun c89 => ?_) (fun c89 => ?_)
                  · skip
                    refine z_aload_n C dX8_silent_95 rfl 0 rfl ?_
                    refine z_iload C dX8_silent_96 4 rfl ?_
                    refine z_callVv C hm cl_X8_281 cv_X8_spread 82 (by decide) sh82 ⟨_, _, rfl⟩ [.int (nI s)] rfl (rest := []) rfl (k_X8_spread w _ _ n (aSteps A) A jn hd s (by omega) (by exact hN_3) hn (by exact hS_3) (aSteps_le A) (by exact hH_3) (mHeld_ok hM) (by exact hHd_3) hd99) ⟨rfl, rfl, Nat.le_of_ble_eq_true rfl, Nat.le_of_ble_eq_true rfl⟩ (Nat.le_of_ble_eq_true rfl) dX8_silent_98 (fun I_9 J_9 h_9 => ?_)
                    obtain ⟨⟨R_9, eI_9, hR_9⟩, eJ_9⟩ := h_9
                    replace eI_9 := eI_9.symm; subst eI_9
                    replace eJ_9 := eJ_9.symm; subst eJ_9
                    refine z_I (I' := zup I_3 97 R_9) (by funext zk; simp only [zup]; split <;> simp_all [zup]) ?_
                    refine z_aload_n C dX8_silent_101 rfl 0 rfl ?_
                    refine z_iload_n C dX8_silent_102 rfl 1 rfl ?_
                    refine z_callVi C hm cl_X8_284 cv_X8_earliest 82 (by decide) sh82 ⟨_, _, rfl⟩ [.int (nI a)] rfl (rest := []) rfl (k_X8_earliest w _ _ s n A jn hd a (by omega) (by exact hS_3) (fun k hk => hR_9 k hk a ha) hd99) ⟨rfl, rfl, Nat.le_of_ble_eq_true rfl, Nat.le_of_ble_eq_true rfl⟩ (Nat.le_of_ble_eq_true rfl) dX8_silent_103 (fun v_10 I_10 J_10 h_10 => ?_)
                    obtain ⟨ev_10, ei_10, ej_10⟩ := h_10
                    replace ev_10 := ev_10.symm; subst ev_10
                    replace ei_10 := ei_10.symm; subst ei_10
                    replace ej_10 := ej_10.symm; subst ej_10
                    refine z_iload_n C dX8_silent_106 rfl 2 rfl ?_
                    refine z_icmp_le_n (ern s n jn A hd a) hr9 (tgt := 113) C rfl rfl (by have := ern_le (m := s) (n := n) (jn := jn) (A := A) hd99 a; omega) (by omega) dX8_silent_107 (by decide) (fun c107 => ?_) (fun c107 => ?_)
                    · skip
                      refine z_iinc C hm 4 (v := nI (s + 1)) (lv' := [(4, .int (nI (s + 1))), (0, .ref (zad w 82)), (1, .int (nI a)), (2, .int (nI hr9)), (3, .int (nI b))]) dX8_silent_113 rfl (nI_add s 1) (by decide) rfl ?_
                      refine z_goto (tgt := 53) C dX8_silent_116 (by decide) ?_
                      exact z_sub [1, 2, 3, 4, 0] rfl (ih53  (s + 1) (some b) R_9 _ _ _ (by omega) (by omega) (silB_n hbs (fun q => by have := q.2; omega)) rfl rfl (by funext zk; by_cases h97 : zk = 97 <;> simp [zup, h97]))
                    · skip
                      refine z_iload C dX8_silent_110 4 rfl ?_
                      refine z_istore_n C hm (lv' := [(3, .int (nI s)), (0, .ref (zad w 82)), (1, .int (nI a)), (2, .int (nI hr9)), (4, .int (nI s))]) dX8_silent_112 rfl (by decide) rfl ?_
                      refine z_iinc C hm 4 (v := nI (s + 1)) (lv' := [(4, .int (nI (s + 1))), (3, .int (nI s)), (0, .ref (zad w 82)), (1, .int (nI a)), (2, .int (nI hr9))]) dX8_silent_113 rfl (nI_add s 1) (by decide) rfl ?_
                      refine z_goto (tgt := 53) C dX8_silent_116 (by decide) ?_
                      exact z_sub [2, 3, 4, 1, 0] rfl (ih53  (s + 1) (some s) R_9 _ _ _ (by omega) (by omega) (silB_y hbs ⟨hzf0, c107⟩ (fun b2 q => by cases q; exact c89)) rfl rfl (by funext zk; by_cases h97 : zk = 97 <;> simp [zup, h97]))
                  · skip
                    refine z_goto (tgt := 113) C dX8_silent_92 (by decide) ?_
                    refine z_iinc C hm 4 (v := nI (s + 1)) (lv' := [(4, .int (nI (s + 1))), (0, .ref (zad w 82)), (1, .int (nI a)), (2, .int (nI hr9)), (3, .int (nI b))]) dX8_silent_113 rfl (nI_add s 1) (by decide) rfl ?_
                    refine z_goto (tgt := 53) C dX8_silent_116 (by decide) ?_
                    exact z_sub [1, 2, 3, 4, 0] rfl (ih53  (s + 1) (some b) R _ _ _ (by omega) (by omega) (silB_g hbs c89) rfl rfl (by funext zk; by_cases h97 : zk = 97 <;> simp [zup, h97]))
        exact z_sub [2, 3, 4, 1, 0] rfl (L53 _ 0 none (I_3 97) _ _ _ (Nat.lt_succ_self _) (Nat.zero_le _) silB_0 rfl rfl (by funext zk; by_cases h97 : zk = 97 <;> simp [zup, h97]))
      · skip
        obtain ⟨kk, hkk⟩ := oM_ge (Int32.not_lt.mp c27)
        refine z_aload_n C dX8_silent_30 rfl 0 rfl ?_
        refine z_getr C ff_X8_20 82 (by decide) sh82 rfl dX8_silent_31 ?_
        refine z_iload_n C dX8_silent_34 rfl 1 rfl ?_
        refine z_iald C 85 (by decide) sh85 a (by omega) (by decide) rfl (v := oM (hd a)) (hHd a ha) dX8_silent_35 ?_
        refine z_iload_n C dX8_silent_36 rfl 2 rfl ?_
        refine z_icmp_gt (tgt := 43) C dX8_silent_37 (by decide) (fun c37 => ?_) (fun c37 => ?_)
        · skip
          have hnk : ∀ k, hd a = some k → hr9 < k := fun k q => by
            rw [q] at c37; exact (nI_ltI (by omega) (by have := hd99 a k q; omega)).mp c37
          refine z_aload_n C dX8_silent_43 rfl 0 rfl ?_
          refine z_callVv C hm cl_X8_278 cv_X8_layHours 82 (by decide) sh82 ⟨_, _, rfl⟩ [] rfl (rest := []) rfl (k_X8_layHours w _ _ n h A jn  hN hn hh hM hJn hDg) ⟨rfl, rfl, Nat.le_of_ble_eq_true rfl, Nat.le_of_ble_eq_true rfl⟩ (Nat.le_of_ble_eq_true rfl) dX8_silent_44 (fun I_11 J_11 h_11 => ?_)
          obtain ⟨hz_11, eJ_11⟩ := h_11
          replace eJ_11 := eJ_11.symm; subst eJ_11
          obtain ⟨h82_11, hfr_11, hH_11⟩ := id hz_11
          have hN_11 : I_11 82 0 = nI n := by rw [h82_11, upd_n (by decide)]; exact hN
          have hS_11 : I_11 82 25 = nI (aSteps A) := by rw [h82_11]; exact upd_s
          have hHd_11 : ∀ a, a < n → I_11 85 a = oM (hd a) := fun a ha => by rw [hfr_11 85 (by decide) (by decide) (by decide) (by decide)]; exact hHd a ha
          refine z_bipush C (v := -5) dX8_silent_47 (by decide) ?_
          refine z_istore_n C hm (lv' := [(3, .int (-5)), (0, .ref (zad w 82)), (1, .int (nI a)), (2, .int (nI hr9))]) dX8_silent_49 rfl (by decide) rfl ?_
          refine z_iconst C (v := 0) dX8_silent_50 (by decide) ?_
          refine z_istore C hm (lv' := [(4, .int 0), (3, .int (-5)), (0, .ref (zad w 82)), (1, .int (nI a)), (2, .int (nI hr9))]) dX8_silent_51 (by decide) rfl ?_
          have L53 : ∀ (d : Nat) (s : Nat) (bo : Option Nat) (R : Nat → Int32) (v53_3 : Int32) (v53_4 : Int32) (I53 : zI), (2 ^ n - s) < d → (s ≤ 2 ^ n) → (silB (fun s => zb s a = false ∧ hr9 < ern s n jn A hd a) s bo) → v53_3 = oI bo → v53_4 = nI s → I53 = zup I_11 97 R → Z X w I53 J 53 [(0, .ref (zad w 82)), (1, .int (nI a)), (2, .int (nI hr9)), (3, .int v53_3), (4, .int v53_4)] [] := by
            intro d
            induction d with
            | zero => intro s bo R v53_3 v53_4 I53 hd; exact absurd hd (Nat.not_lt_zero _)
            | succ d ih53 => 
              intro s bo R v53_3 v53_4 I53 hd53 hs hbs e_v53_3 e_v53_4 e_I53
              replace e_v53_3 := e_v53_3.symm; subst e_v53_3
              replace e_v53_4 := e_v53_4.symm; subst e_v53_4
              replace e_I53 := e_I53.symm; subst e_I53
              refine z_iload C dX8_silent_53 4 rfl ?_
              refine z_iconst C (v := 1) dX8_silent_55 (by decide) ?_
              refine z_aload_n C dX8_silent_56 rfl 0 rfl ?_
              refine z_geti C ff_X8_7 82 (by decide) sh82 rfl (v := nI n) (by first | exact hN_11 | (simp [zup, zupJ, upd, vp_updL]; exact hN_11)) dX8_silent_57 ?_
              refine z_ishl C dX8_silent_60 ?_
              refine z_ti (y := nI (2 ^ n)) (shl1 (by omega)) ?_
              refine z_icmp_ge_n s (2 ^ n) (tgt := 119) C rfl rfl (by omega) (by omega) dX8_silent_61 (by decide) (fun c61 => ?_) (fun c61 => ?_)
              · skip
                have hse : s = 2 ^ n := by omega
                rw [hse] at hbs
                refine z_iload_n C dX8_silent_119 rfl 3 rfl ?_
                refine z_iret C hr rfl dX8_silent_120 ?_
                refine ⟨_, rfl, ?_⟩
                exact ⟨rfl, (frM_z (by decide) (frM_l hz_11)), Or.inr ⟨a, ha, rfl, Or.inr ⟨hr9, hhr9, rfl, Or.inr ⟨hnk, silB_r hbs⟩⟩⟩⟩
              · skip
                refine z_aload_n C dX8_silent_64 rfl 0 rfl ?_
                refine z_iload C dX8_silent_65 4 rfl ?_
                refine z_iload_n C dX8_silent_67 rfl 1 rfl ?_
                refine z_callVi C hm cl_X8_275 cv_X8_has 82 (by decide) sh82 ⟨_, _, rfl⟩ [.int (nI s), .int (nI a)] rfl (rest := []) rfl (k_X8_has w _ _  s a (by omega) (by omega)) ⟨rfl, rfl, Nat.le_of_ble_eq_true rfl, Nat.le_of_ble_eq_true rfl⟩ (Nat.le_of_ble_eq_true rfl) dX8_silent_68 (fun v_12 I_12 J_12 h_12 => ?_)
                obtain ⟨ev_12, ei_12, ej_12⟩ := h_12
                replace ev_12 := ev_12.symm; subst ev_12
                replace ei_12 := ei_12.symm; subst ei_12
                replace ej_12 := ej_12.symm; subst ej_12
                refine z_ifne_b (tgt := 113) C dX8_silent_71 (by decide) (fun c71 => ?_) (fun c71 => ?_)
                · skip
                  refine z_iinc C hm 4 (v := nI (s + 1)) (lv' := [(4, .int (nI (s + 1))), (0, .ref (zad w 82)), (1, .int (nI a)), (2, .int (nI hr9)), (3, .int (oI bo))]) dX8_silent_113 rfl (nI_add s 1) (by decide) rfl ?_
                  refine z_goto (tgt := 53) C dX8_silent_116 (by decide) ?_
                  exact z_sub [1, 2, 3, 4, 0] rfl (ih53  (s + 1) bo R _ _ _ (by omega) (by omega) (silB_n hbs (fun q => by rw [q.1] at c71; cases c71)) rfl rfl (by funext zk; by_cases h97 : zk = 97 <;> simp [zup, h97]))
                · skip
                  have hzf0 : zb s a = false := eq_false_of_ne_true c71
                  refine z_iload_n C dX8_silent_74 rfl 3 rfl ?_
                  refine z_if_lt (tgt := 95) C dX8_silent_75 (by decide) (fun c75 => ?_) (fun c75 => ?_)
                  · skip
                    have hbn : bo = none := by
                      rcases hq : bo with _ | b
                      · rfl
                      · exfalso; rcases hbs with ⟨z, _⟩ | ⟨b2, z, z2, _⟩
                        · rw [hq] at z; cases z
                        · rw [z] at c75; exact nI_pos (by omega) c75
                    refine z_aload_n C dX8_silent_95 rfl 0 rfl ?_
                    refine z_iload C dX8_silent_96 4 rfl ?_
                    refine z_callVv C hm cl_X8_281 cv_X8_spread 82 (by decide) sh82 ⟨_, _, rfl⟩ [.int (nI s)] rfl (rest := []) rfl (k_X8_spread w _ _ n (aSteps A) A jn hd s (by omega) (by exact hN_11) hn (by exact hS_11) (aSteps_le A) (by exact hH_11) (mHeld_ok hM) (by exact hHd_11) hd99) ⟨rfl, rfl, Nat.le_of_ble_eq_true rfl, Nat.le_of_ble_eq_true rfl⟩ (Nat.le_of_ble_eq_true rfl) dX8_silent_98 (fun I_13 J_13 h_13 => ?_)
                    obtain ⟨⟨R_13, eI_13, hR_13⟩, eJ_13⟩ := h_13
                    replace eI_13 := eI_13.symm; subst eI_13
                    replace eJ_13 := eJ_13.symm; subst eJ_13
                    refine z_I (I' := zup I_11 97 R_13) (by funext zk; simp only [zup]; split <;> simp_all [zup]) ?_
                    refine z_aload_n C dX8_silent_101 rfl 0 rfl ?_
                    refine z_iload_n C dX8_silent_102 rfl 1 rfl ?_
                    refine z_callVi C hm cl_X8_284 cv_X8_earliest 82 (by decide) sh82 ⟨_, _, rfl⟩ [.int (nI a)] rfl (rest := []) rfl (k_X8_earliest w _ _ s n A jn hd a (by omega) (by exact hS_11) (fun k hk => hR_13 k hk a ha) hd99) ⟨rfl, rfl, Nat.le_of_ble_eq_true rfl, Nat.le_of_ble_eq_true rfl⟩ (Nat.le_of_ble_eq_true rfl) dX8_silent_103 (fun v_14 I_14 J_14 h_14 => ?_)
                    obtain ⟨ev_14, ei_14, ej_14⟩ := h_14
                    replace ev_14 := ev_14.symm; subst ev_14
                    replace ei_14 := ei_14.symm; subst ei_14
                    replace ej_14 := ej_14.symm; subst ej_14
                    refine z_iload_n C dX8_silent_106 rfl 2 rfl ?_
                    refine z_icmp_le_n (ern s n jn A hd a) hr9 (tgt := 113) C rfl rfl (by have := ern_le (m := s) (n := n) (jn := jn) (A := A) hd99 a; omega) (by omega) dX8_silent_107 (by decide) (fun c107 => ?_) (fun c107 => ?_)
                    · skip
                      refine z_iinc C hm 4 (v := nI (s + 1)) (lv' := [(4, .int (nI (s + 1))), (0, .ref (zad w 82)), (1, .int (nI a)), (2, .int (nI hr9)), (3, .int (oI bo))]) dX8_silent_113 rfl (nI_add s 1) (by decide) rfl ?_
                      refine z_goto (tgt := 53) C dX8_silent_116 (by decide) ?_
                      exact z_sub [1, 2, 3, 4, 0] rfl (ih53  (s + 1) bo R_13 _ _ _ (by omega) (by omega) (silB_n hbs (fun q => by have := q.2; omega)) rfl rfl (by funext zk; by_cases h97 : zk = 97 <;> simp [zup, h97]))
                    · skip
                      refine z_iload C dX8_silent_110 4 rfl ?_
                      refine z_istore_n C hm (lv' := [(3, .int (nI s)), (0, .ref (zad w 82)), (1, .int (nI a)), (2, .int (nI hr9)), (4, .int (nI s))]) dX8_silent_112 rfl (by decide) rfl ?_
                      refine z_iinc C hm 4 (v := nI (s + 1)) (lv' := [(4, .int (nI (s + 1))), (3, .int (nI s)), (0, .ref (zad w 82)), (1, .int (nI a)), (2, .int (nI hr9))]) dX8_silent_113 rfl (nI_add s 1) (by decide) rfl ?_
                      refine z_goto (tgt := 53) C dX8_silent_116 (by decide) ?_
                      exact z_sub [2, 3, 4, 1, 0] rfl (ih53  (s + 1) (some s) R_13 _ _ _ (by omega) (by omega) (silB_y hbs ⟨hzf0, c107⟩ (fun b q => by rw [hbn] at q; cases q)) rfl rfl (by funext zk; by_cases h97 : zk = 97 <;> simp [zup, h97]))
                  · skip
                    have hbx : ∃ b, bo = some b ∧ b < 2 ^ n := by
                      rcases hbs with ⟨z, _⟩ | ⟨b2, z, z2, _⟩
                      · exfalso; rw [z] at c75; exact c75 (by decide)
                      · exact ⟨b2, z, by omega⟩
                    obtain ⟨b, hbe, hb8⟩ := hbx
                    rw [hbe] at hbs
                    rw [hbe, show oI (some b) = nI b from rfl]
                    refine z_aload_n C dX8_silent_78 rfl 0 rfl ?_
                    refine z_iload C dX8_silent_79 4 rfl ?_
                    refine z_callVi C hm cl_X8_293 cv_X8_ones 82 (by decide) sh82 ⟨_, _, rfl⟩ [.int (nI s)] rfl (rest := []) rfl (k_X8_ones w _ _  s (by omega)) ⟨rfl, rfl, Nat.le_of_ble_eq_true rfl, Nat.le_of_ble_eq_true rfl⟩ (Nat.le_of_ble_eq_true rfl) dX8_silent_81 (fun v_15 I_15 J_15 h_15 => ?_)
                    obtain ⟨ev_15, ei_15, ej_15⟩ := h_15
                    replace ev_15 := ev_15.symm; subst ev_15
                    replace ei_15 := ei_15.symm; subst ei_15
                    replace ej_15 := ej_15.symm; subst ej_15
                    refine z_aload_n C dX8_silent_84 rfl 0 rfl ?_
                    refine z_iload_n C dX8_silent_85 rfl 3 rfl ?_
                    refine z_callVi C hm cl_X8_293 cv_X8_ones 82 (by decide) sh82 ⟨_, _, rfl⟩ [.int (nI b)] rfl (rest := [.int (nI (zpop s))]) rfl (k_X8_ones w _ _  b (by omega)) ⟨rfl, rfl, Nat.le_of_ble_eq_true rfl, Nat.le_of_ble_eq_true rfl⟩ (Nat.le_of_ble_eq_true rfl) dX8_silent_86 (fun v_16 I_16 J_16 h_16 => ?_)
                    obtain ⟨ev_16, ei_16, ej_16⟩ := h_16
                    replace ev_16 := ev_16.symm; subst ev_16
                    replace ei_16 := ei_16.symm; subst ei_16
                    replace ej_16 := ej_16.symm; subst ej_16
                    refine z_icmp_lt_n (zpop s) (zpop b) (tgt := 95) C rfl rfl (by have := zpop_le s; omega) (by have := zpop_le b; omega) dX8_silent_89 (by decide) (fun c89 => ?_) (fun c89 => ?_)
                    · skip
                      refine z_aload_n C dX8_silent_95 rfl 0 rfl ?_
                      refine z_iload C dX8_silent_96 4 rfl ?_
                      refine z_callVv C hm cl_X8_281 cv_X8_spread 82 (by decide) sh82 ⟨_, _, rfl⟩ [.int (nI s)] rfl (rest := []) rfl (k_X8_spread w _ _ n (aSteps A) A jn hd s (by omega) (by exact hN_11) hn (by exact hS_11) (aSteps_le A) (by exact hH_11) (mHeld_ok hM) (by exact hHd_11) hd99) ⟨rfl, rfl, Nat.le_of_ble_eq_true rfl, Nat.le_of_ble_eq_true rfl⟩ (Nat.le_of_ble_eq_true rfl) dX8_silent_98 (fun I_17 J_17 h_17 => ?_)
                      obtain ⟨⟨R_17, eI_17, hR_17⟩, eJ_17⟩ := h_17
                      replace eI_17 := eI_17.symm; subst eI_17
                      replace eJ_17 := eJ_17.symm; subst eJ_17
                      refine z_I (I' := zup I_11 97 R_17) (by funext zk; simp only [zup]; split <;> simp_all [zup]) ?_
                      refine z_aload_n C dX8_silent_101 rfl 0 rfl ?_
                      refine z_iload_n C dX8_silent_102 rfl 1 rfl ?_
                      refine z_callVi C hm cl_X8_284 cv_X8_earliest 82 (by decide) sh82 ⟨_, _, rfl⟩ [.int (nI a)] rfl (rest := []) rfl (k_X8_earliest w _ _ s n A jn hd a (by omega) (by exact hS_11) (fun k hk => hR_17 k hk a ha) hd99) ⟨rfl, rfl, Nat.le_of_ble_eq_true rfl, Nat.le_of_ble_eq_true rfl⟩ (Nat.le_of_ble_eq_true rfl) dX8_silent_103 (fun v_18 I_18 J_18 h_18 => ?_)
                      obtain ⟨ev_18, ei_18, ej_18⟩ := h_18
                      replace ev_18 := ev_18.symm; subst ev_18
                      replace ei_18 := ei_18.symm; subst ei_18
                      replace ej_18 := ej_18.symm; subst ej_18
                      refine z_iload_n C dX8_silent_106 rfl 2 rfl ?_
                      refine z_icmp_le_n (ern s n jn A hd a) hr9 (tgt := 113) C rfl rfl (by have := ern_le (m := s) (n := n) (jn := jn) (A := A) hd99 a; omega) (by omega) dX8_silent_107 (by decide) (fun c107 => ?_) (fun c107 => ?_)
                      · skip
                        refine z_iinc C hm 4 (v := nI (s + 1)) (lv' := [(4, .int (nI (s + 1))), (0, .ref (zad w 82)), (1, .int (nI a)), (2, .int (nI hr9)), (3, .int (nI b))]) dX8_silent_113 rfl (nI_add s 1) (by decide) rfl ?_
                        refine z_goto (tgt := 53) C dX8_silent_116 (by decide) ?_
                        exact z_sub [1, 2, 3, 4, 0] rfl (ih53  (s + 1) (some b) R_17 _ _ _ (by omega) (by omega) (silB_n hbs (fun q => by have := q.2; omega)) rfl rfl (by funext zk; by_cases h97 : zk = 97 <;> simp [zup, h97]))
                      · skip
                        refine z_iload C dX8_silent_110 4 rfl ?_
                        refine z_istore_n C hm (lv' := [(3, .int (nI s)), (0, .ref (zad w 82)), (1, .int (nI a)), (2, .int (nI hr9)), (4, .int (nI s))]) dX8_silent_112 rfl (by decide) rfl ?_
                        refine z_iinc C hm 4 (v := nI (s + 1)) (lv' := [(4, .int (nI (s + 1))), (3, .int (nI s)), (0, .ref (zad w 82)), (1, .int (nI a)), (2, .int (nI hr9))]) dX8_silent_113 rfl (nI_add s 1) (by decide) rfl ?_
                        refine z_goto (tgt := 53) C dX8_silent_116 (by decide) ?_
                        exact z_sub [2, 3, 4, 1, 0] rfl (ih53  (s + 1) (some s) R_17 _ _ _ (by omega) (by omega) (silB_y hbs ⟨hzf0, c107⟩ (fun b2 q => by cases q; exact c89)) rfl rfl (by funext zk; by_cases h97 : zk = 97 <;> simp [zup, h97]))
                    · skip
                      refine z_goto (tgt := 113) C dX8_silent_92 (by decide) ?_
                      refine z_iinc C hm 4 (v := nI (s + 1)) (lv' := [(4, .int (nI (s + 1))), (0, .ref (zad w 82)), (1, .int (nI a)), (2, .int (nI hr9)), (3, .int (nI b))]) dX8_silent_113 rfl (nI_add s 1) (by decide) rfl ?_
                      refine z_goto (tgt := 53) C dX8_silent_116 (by decide) ?_
                      exact z_sub [1, 2, 3, 4, 0] rfl (ih53  (s + 1) (some b) R _ _ _ (by omega) (by omega) (silB_g hbs c89) rfl rfl (by funext zk; by_cases h97 : zk = 97 <;> simp [zup, h97]))
          exact z_sub [2, 3, 4, 1, 0] rfl (L53 _ 0 none (I_11 97) _ _ _ (Nat.lt_succ_self _) (Nat.zero_le _) silB_0 rfl rfl (by funext zk; by_cases h97 : zk = 97 <;> simp [zup, h97]))
        · skip
          have hle : kk ≤ hr9 := by
            rw [hkk] at c37
            exact Nat.le_of_not_lt (fun q => c37 ((nI_ltI (by omega) (by have := hd99 a kk hkk; omega)).mpr q))
          refine z_bipush C (v := -5) dX8_silent_40 (by decide) ?_
          refine z_iret C hr rfl dX8_silent_42 ?_
          refine ⟨_, rfl, ?_⟩
          exact ⟨rfl, frM_id, Or.inr ⟨a, ha, rfl, Or.inr ⟨hr9, hhr9, rfl, Or.inl ⟨⟨kk, hkk, hle⟩, rfl⟩⟩⟩⟩
    · skip
      refine z_bipush C (v := -2) dX8_silent_18 (by decide) ?_
      refine z_iret C hr rfl dX8_silent_20 ?_
      refine ⟨_, rfl, ?_⟩
      exact ⟨rfl, frM_id, Or.inr ⟨a, ha, rfl, Or.inl ⟨c15, rfl⟩⟩⟩
  · skip
    refine z_iconst C (v := -1) dX8_silent_8 (by decide) ?_
    refine z_iret C hr rfl dX8_silent_9 ?_
    refine ⟨_, rfl, ?_⟩
    exact ⟨rfl, frM_id, Or.inl ⟨c5, rfl⟩⟩
