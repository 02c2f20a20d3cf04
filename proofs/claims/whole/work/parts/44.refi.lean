/-! the reference: what explains a trade -/
def mS (I : zI) (n tr h : Nat) (A : List zCla) (jn lt : Nat → Int32) (hd : Nat → Option Nat) (bu ho lo fr : Nat → Nat) : Prop := I 82 0 = nI n ∧ I 82 27 = nI tr ∧ mHeld I h A ∧ (∀ k, k < 64 → I 84 k = jn k) ∧ (∀ k, k < 8 → I 83 k = lt k) ∧ (∀ a, a < n → I 85 a = oM (hd a)) ∧ (∀ t, t < tr → I 101 t = nI (bu t) ∧ bu t < n) ∧ (∀ t, t < tr → I 103 t = nI (ho t) ∧ ho t ≤ 99) ∧ (∀ t, t < tr → I 104 t = nI (lo t) ∧ lo t ≤ 99) ∧ (∀ t, t < tr → I 102 t = nI (fr t) ∧ fr t < 9)
theorem mS_f {K I : zI} {n tr h : Nat} {A : List zCla} {jn lt : Nat → Int32} {hd : Nat → Option Nat} {bu ho lo fr : Nat → Nat} (hf : frM K I) (H : mS I n tr h A jn lt hd bu ho lo fr) : mS K n tr h A jn lt hd bu ho lo fr := by
  obtain ⟨h1, h2, h3, h4, h5, h6, h7, h8, h9, h10⟩ := H
  refine ⟨?_, ?_, mHeld_f (hf.2 5 (by decide)) (fun k a b => hf.1 k (by omega) (by omega)) h3, ?_, ?_, ?_, ?_, ?_, ?_, ?_⟩
  · rw [hf.2 0 (by decide)]; exact h1
  · rw [hf.2 27 (by decide)]; exact h2
  · rw [hf.1 84 (by decide) (by decide)]; exact h4
  · rw [hf.1 83 (by decide) (by decide)]; exact h5
  · rw [hf.1 85 (by decide) (by decide)]; exact h6
  · rw [hf.1 101 (by decide) (by decide)]; exact h7
  · rw [hf.1 103 (by decide) (by decide)]; exact h8
  · rw [hf.1 104 (by decide) (by decide)]; exact h9
  · rw [hf.1 102 (by decide) (by decide)]; exact h10
/-- the news has been spread, with nobody silent -/
def mY (I : zI) (n : Nat) (A : List zCla) (jn : Nat → Int32) (hd : Nat → Option Nat) : Prop := I 82 25 = nI (aSteps A) ∧ ∀ k, k ≤ aSteps A → ∀ b, b < n → I 97 (8 * k + b) = nI (hD 0 n (zGt jn A) (zT0 hd) k b)
theorem mY_f {K I : zI} {n : Nat} {A : List zCla} {jn : Nat → Int32} {hd : Nat → Option Nat} (hf : frH K I) (H : mY I n A jn hd) : mY K n A jn hd := ⟨by rw [hf 82 (by decide) (by decide)]; exact H.1, by rw [hf 97 (by decide) (by decide)]; exact H.2⟩
theorem frH_tr {L K I : zI} (h1 : frH L K) (h2 : frH K I) : frH L I := fun k a b => by rw [h1 k a b, h2 k a b]
theorem frH_id {I : zI} : frH I I := fun _ _ _ => rfl
/-- which kinds explain -/
def xK (b1 b2 b3 b4 b5 b6 : Bool) (k : Nat) : Bool := match k with
  | 0 => true
  | 1 => b1
  | 2 => b2
  | 3 => b3
  | 4 => b4
  | 5 => b3 && b5
  | _ => b3 && b6
theorem xK_V : ∀ b1 b2 b3 b4 b5 b6 : Bool, nI (zset (xK b1 b2 b3 b4 b5 b6) 7) = exV b1 b2 b3 b4 b5 b6 := by decide +kernel
theorem xK_14 : ∀ b1 b2 b3 b4 b5 b6 : Bool, (exV b1 b2 b3 b4 b5 b6 &&& 14) = 8 ↔ (zb (zset (xK b1 b2 b3 b4 b5 b6) 7) 3 = true ∧ zb (zset (xK b1 b2 b3 b4 b5 b6) 7) 1 = false ∧ zb (zset (xK b1 b2 b3 b4 b5 b6) 7) 2 = false) := by decide +kernel
noncomputable def zKs (A : List zCla) (tr : Nat) (lt : Nat → Int32) (hd : Nat → Option Nat) (bu ho lo fr : Nat → Nat) (E : Nat → Nat) (t : Nat) : Nat → Bool := xK (pB (0 < aHab (nI (bu t)) (lt (bu t)) (nI (fr t)) A)) (pB (aLast 2 A 999 ≤ ho t)) (pB (E (bu t) ≤ ho t)) (pB (50 ≤ aHab (nI (bu t)) (lt (bu t)) (nI (fr t)) A)) (pB (hd (bu t) = none)) (pB (lo t < aLast 3 A 999 ∧ ∃ o, o < tr ∧ o ≠ t ∧ bu o = bu t ∧ fr o = fr t))
abbrev rm_X8_explains : Room := { frames := 6, cells := 0, slots := 0, locals := 250 }
set_option maxRecDepth 100000 in
set_option maxHeartbeats 4000000 in
theorem k_X8_explains (w : zW) (I : zI) (J : zJ) (n tr h : Nat) (A : List zCla) (jn lt : Nat → Int32) (hd : Nat → Option Nat) (bu ho lo fr : Nat → Nat) (k : Nat) (t : Nat) (hn : n ≤ 8) (htr : tr ≤ 16) (hh : h < 7) (hd99 : ∀ a k, hd a = some k → k ≤ 99) (hS : mS I n tr h A jn lt hd bu ho lo fr) (hY : mY I n A jn hd) (hk7 : k < 7) (ht : t < tr) : zMet yX8_explains cX8_explains 4 (some .boolean) rm_X8_explains w [.ref (zad w 82), .int (nI k), .int (nI t)] I J (zpi (fun v I' J' => v = bI (zKs A tr lt hd bu ho lo fr (ern 0 n jn A hd) t k = true) ∧ frH I' I ∧ J' = J)) := by
  refine zMet_of (by decide) (Nat.le_of_ble_eq_true rfl) (fun X C hm hr => ?_)
  refine z_sub (lv' := [(0, .ref (zad w 82)), (1, .int (nI k)), (2, .int (nI t))]) [0, 1, 2] rfl ?_
  obtain ⟨hN, hT, hM, hJn, hLt, hHd, hB, hO, hLo, hF⟩ := id hS
  have hzf : zFar = 1000000 := rfl
  have hbu := (hB t ht).2
  have hho := (hO t ht).2
  have hlo := (hLo t ht).2
  have hfr9 := (hF t ht).2
  have hoft : aHab (nI (bu t)) (lt (bu t)) (nI (fr t)) A ≤ 100 := aHab_le
  have hl2 : aLast 2 A 999 ≤ 999 := aLast_9 (mHeld_ok hM)
  have hl3 : aLast 3 A 999 ≤ 999 := aLast_9 (mHeld_ok hM)
  have hEl := ern_le (m := 0) (n := n) (jn := jn) (A := A) hd99 (bu t)
  have hfe : (∃ o, o < tr ∧ o ≠ t ∧ I 101 o = I 101 t ∧ I 102 o = I 102 t) ↔ ∃ o, o < tr ∧ o ≠ t ∧ bu o = bu t ∧ fr o = fr t := by
    have bn : ∀ t, t < tr → bu t < 2 ^ 31 := fun t ht => by have := (hB t ht).2; omega
    have fn : ∀ t, t < tr → fr t < 2 ^ 31 := fun t ht => by have := (hF t ht).2; omega
    constructor
    · intro ⟨o, h1, h2, h3, h4⟩
      rw [(hB o h1).1, (hB t ht).1] at h3
      rw [(hF o h1).1, (hF t ht).1] at h4
      exact ⟨o, h1, h2, (nI_eq (bn o h1) (bn t ht)).mp h3, (nI_eq (fn o h1) (fn t ht)).mp h4⟩
    · intro ⟨o, h1, h2, h3, h4⟩
      exact ⟨o, h1, h2, by rw [(hB o h1).1, (hB t ht).1, h3], by rw [(hF o h1).1, (hF t ht).1, h4]⟩
  refine z_aload_n C dX8_explains_0 rfl 0 rfl ?_
  refine z_aload_n C dX8_explains_1 rfl 0 rfl ?_
  refine z_getr C ff_X8_99 82 (by decide) sh82 rfl dX8_explains_2 ?_
  refine z_iload_n C dX8_explains_5 rfl 2 rfl ?_
  refine z_iald C 101 (by decide) sh101 t (by omega) (by decide) rfl (v := nI (bu t)) (hB t ht).1 dX8_explains_6 ?_
  refine z_callVi C hm cl_X8_284 cv_X8_earliest 82 (by decide) sh82 ⟨_, _, rfl⟩ [.int (nI (bu t))] rfl (rest := []) rfl (k_X8_earliest w _ _ 0 n A jn hd (bu t) (by omega) hY.1 (fun k hk => hY.2 k hk (bu t) hbu) hd99) ⟨rfl, rfl, Nat.le_of_ble_eq_true rfl, Nat.le_of_ble_eq_true rfl⟩ (Nat.le_of_ble_eq_true rfl) dX8_explains_7 (fun v_1 I_1 J_1 h_1 => ?_)
  obtain ⟨ev_1, ei_1, ej_1⟩ := h_1
  replace ev_1 := ev_1.symm; subst ev_1
  replace ei_1 := ei_1.symm; subst ei_1
  replace ej_1 := ej_1.symm; subst ej_1
  refine z_aload_n C dX8_explains_10 rfl 0 rfl ?_
  refine z_getr C ff_X8_105 82 (by decide) sh82 rfl dX8_explains_11 ?_
  refine z_iload_n C dX8_explains_14 rfl 2 rfl ?_
  refine z_iald C 103 (by decide) sh103 t (by omega) (by decide) rfl (v := nI (ho t)) (hO t ht).1 dX8_explains_15 ?_
  refine z_icmp_gt_n (ern 0 n jn A hd (bu t)) (ho t) (tgt := 23) C rfl rfl (by omega) (by omega) dX8_explains_16 (by decide) (fun c16 => ?_) (fun c16 => ?_)
  · skip
    refine z_iconst C (v := 0) dX8_explains_23 (by decide) ?_
    refine z_istore_n C hm (lv' := [(3, .int 0), (0, .ref (zad w 82)), (1, .int (nI k)), (2, .int (nI t))]) dX8_explains_24 rfl (by decide) rfl ?_
    refine z_iload_n C dX8_explains_25 rfl 2 rfl ?_
    by_cases c26_0 : nI k = 0
    · skip
      refine z_tableIn (tgt := 64) C dX8_explains_26 (by rw [c26_0]; decide) (by rw [c26_0]; decide) (off := 38) (by rw [c26_0]; decide) (by decide) ?_
      refine z_iconst C (v := 1) dX8_explains_64 (by decide) ?_
      refine z_iret C hr (by decide) dX8_explains_65 ?_
      refine ⟨_, rfl, ?_⟩
      have hkk : k = 0 := (nI_eq (b := 0) (by omega) (by omega)).mp c26_0
      exact ⟨(bI_t (by rw [hkk, zKs]; show true = true; exact rfl)).symm, frH_id, rfl⟩
    by_cases c26_1 : nI k = 1
    · skip
      refine z_tableIn (tgt := 66) C dX8_explains_26 (by rw [c26_1]; decide) (by rw [c26_1]; decide) (off := 40) (by rw [c26_1]; decide) (by decide) ?_
      refine z_aload_n C dX8_explains_66 rfl 1 rfl ?_
      refine z_aload_n C dX8_explains_67 rfl 1 rfl ?_
      refine z_getr C ff_X8_99 82 (by decide) sh82 rfl dX8_explains_68 ?_
      refine z_iload_n C dX8_explains_71 rfl 3 rfl ?_
      refine z_iald C 101 (by decide) sh101 t (by omega) (by decide) rfl (v := nI (bu t)) (hB t ht).1 dX8_explains_72 ?_
      refine z_aload_n C dX8_explains_73 rfl 1 rfl ?_
      refine z_getr C ff_X8_102 82 (by decide) sh82 rfl dX8_explains_74 ?_
      refine z_iload_n C dX8_explains_77 rfl 3 rfl ?_
      refine z_iald C 102 (by decide) sh102 t (by omega) (by decide) rfl (v := nI (fr t)) (hF t ht).1 dX8_explains_78 ?_
      refine z_callVi C hm cl_X8_268 cv_X8_habitOf 82 (by decide) sh82 ⟨_, _, rfl⟩ [.int (nI (bu t)), .int (nI (fr t))] rfl (rest := []) rfl (k_X8_habitOf w _ _ h A lt (bu t) (nI (fr t)) (by omega) hh hM hLt) ⟨rfl, rfl, Nat.le_of_ble_eq_true rfl, Nat.le_of_ble_eq_true rfl⟩ (Nat.le_of_ble_eq_true rfl) dX8_explains_79 (fun v_2 I_2 J_2 h_2 => ?_)
      obtain ⟨ev_2, hf_2, eJ_2⟩ := h_2
      replace ev_2 := ev_2.symm; subst ev_2
      replace eJ_2 := eJ_2.symm; subst eJ_2
      refine z_if_le (tgt := 89) C dX8_explains_82 (by decide) (fun c82 => ?_) (fun c82 => ?_)
      · skip
        have hz0 := (nI_le0 (by omega)).mp c82
        refine z_iconst C (v := 0) dX8_explains_89 (by decide) ?_
        refine z_iret C hr (by decide) dX8_explains_90 ?_
        refine ⟨_, rfl, ?_⟩
        have hkk : k = 1 := (nI_eq (b := 1) (by omega) (by omega)).mp c26_1
        exact ⟨(bI_f (by rw [hkk, zKs]; show ¬ (pB _ = true); rw [pB_f (show ¬ 0 < aHab (nI (bu t)) (lt (bu t)) (nI (fr t)) A by omega)]; exact Bool.noConfusion)).symm, hf_2, rfl⟩
      · skip
        have hz0 : 0 < aHab (nI (bu t)) (lt (bu t)) (nI (fr t)) A := Nat.pos_of_ne_zero (fun q => c82 ((nI_le0 (by omega)).mpr q))
        refine z_iconst C (v := 1) dX8_explains_85 (by decide) ?_
        refine z_goto (tgt := 90) C dX8_explains_86 (by decide) ?_
        refine z_iret C hr (by decide) dX8_explains_90 ?_
        refine ⟨_, rfl, ?_⟩
        have hkk : k = 1 := (nI_eq (b := 1) (by omega) (by omega)).mp c26_1
        exact ⟨(bI_t (by rw [hkk, zKs]; show pB _ = true; exact pB_t (show 0 < aHab (nI (bu t)) (lt (bu t)) (nI (fr t)) A by omega))).symm, hf_2, rfl⟩
    by_cases c26_2 : nI k = 2
    · skip
      refine z_tableIn (tgt := 91) C dX8_explains_26 (by rw [c26_2]; decide) (by rw [c26_2]; decide) (off := 65) (by rw [c26_2]; decide) (by decide) ?_
      refine z_aload_n C dX8_explains_91 rfl 1 rfl ?_
      refine z_getr C ff_X8_105 82 (by decide) sh82 rfl dX8_explains_92 ?_
      refine z_iload_n C dX8_explains_95 rfl 3 rfl ?_
      refine z_iald C 103 (by decide) sh103 t (by omega) (by decide) rfl (v := nI (ho t)) (hO t ht).1 dX8_explains_96 ?_
      refine z_aload_n C dX8_explains_97 rfl 1 rfl ?_
      refine z_iconst C (v := 2) dX8_explains_98 (by decide) ?_
      refine z_sipush C (v := 999) dX8_explains_99 (by decide) ?_
      refine z_callVi C hm cl_X8_271 cv_X8_last 82 (by decide) sh82 ⟨_, _, rfl⟩ [.int 2, .int 999] rfl (rest := [.int (nI (ho t))]) rfl (k_X8_last w _ _ h A 2 999 hh hM (by decide) (by decide)) ⟨rfl, rfl, Nat.le_of_ble_eq_true rfl, Nat.le_of_ble_eq_true rfl⟩ (Nat.le_of_ble_eq_true rfl) dX8_explains_102 (fun v_3 I_3 J_3 h_3 => ?_)
      obtain ⟨ev_3, ei_3, ej_3⟩ := h_3
      replace ev_3 := ev_3.symm; subst ev_3
      replace ei_3 := ei_3.symm; subst ei_3
      replace ej_3 := ej_3.symm; subst ej_3
      refine z_icmp_lt_n (ho t) (aLast 2 A 999) (tgt := 112) C rfl rfl (by omega) (by omega) dX8_explains_105 (by decide) (fun c105 => ?_) (fun c105 => ?_)
      · skip
        refine z_iconst C (v := 0) dX8_explains_112 (by decide) ?_
        refine z_iret C hr (by decide) dX8_explains_113 ?_
        refine ⟨_, rfl, ?_⟩
        have hkk : k = 2 := (nI_eq (b := 2) (by omega) (by omega)).mp c26_2
        exact ⟨(bI_f (by rw [hkk, zKs]; show ¬ (pB _ = true); rw [pB_f (show ¬ aLast 2 A 999 ≤ ho t by omega)]; exact Bool.noConfusion)).symm, frH_id, rfl⟩
      · skip
        refine z_iconst C (v := 1) dX8_explains_108 (by decide) ?_
        refine z_goto (tgt := 113) C dX8_explains_109 (by decide) ?_
        refine z_iret C hr (by decide) dX8_explains_113 ?_
        refine ⟨_, rfl, ?_⟩
        have hkk : k = 2 := (nI_eq (b := 2) (by omega) (by omega)).mp c26_2
        exact ⟨(bI_t (by rw [hkk, zKs]; show pB _ = true; exact pB_t (show aLast 2 A 999 ≤ ho t by omega))).symm, frH_id, rfl⟩
    by_cases c26_3 : nI k = 3
    · skip
      refine z_tableIn (tgt := 114) C dX8_explains_26 (by rw [c26_3]; decide) (by rw [c26_3]; decide) (off := 88) (by rw [c26_3]; decide) (by decide) ?_
      refine z_iload_n C dX8_explains_114 rfl 0 rfl ?_
      refine z_iret C hr (by decide) dX8_explains_115 ?_
      refine ⟨_, rfl, ?_⟩
      have hkk : k = 3 := (nI_eq (b := 3) (by omega) (by omega)).mp c26_3
      exact ⟨(bI_f (by rw [hkk, zKs]; show ¬ (pB _ = true); rw [pB_f (show ¬ ern 0 n jn A hd (bu t) ≤ ho t by omega)]; exact Bool.noConfusion)).symm, frH_id, rfl⟩
    by_cases c26_4 : nI k = 4
    · skip
      refine z_tableIn (tgt := 116) C dX8_explains_26 (by rw [c26_4]; decide) (by rw [c26_4]; decide) (off := 90) (by rw [c26_4]; decide) (by decide) ?_
      refine z_aload_n C dX8_explains_116 rfl 1 rfl ?_
      refine z_aload_n C dX8_explains_117 rfl 1 rfl ?_
      refine z_getr C ff_X8_99 82 (by decide) sh82 rfl dX8_explains_118 ?_
      refine z_iload_n C dX8_explains_121 rfl 3 rfl ?_
      refine z_iald C 101 (by decide) sh101 t (by omega) (by decide) rfl (v := nI (bu t)) (hB t ht).1 dX8_explains_122 ?_
      refine z_aload_n C dX8_explains_123 rfl 1 rfl ?_
      refine z_getr C ff_X8_102 82 (by decide) sh82 rfl dX8_explains_124 ?_
      refine z_iload_n C dX8_explains_127 rfl 3 rfl ?_
      refine z_iald C 102 (by decide) sh102 t (by omega) (by decide) rfl (v := nI (fr t)) (hF t ht).1 dX8_explains_128 ?_
      refine z_callVi C hm cl_X8_268 cv_X8_habitOf 82 (by decide) sh82 ⟨_, _, rfl⟩ [.int (nI (bu t)), .int (nI (fr t))] rfl (rest := []) rfl (k_X8_habitOf w _ _ h A lt (bu t) (nI (fr t)) (by omega) hh hM hLt) ⟨rfl, rfl, Nat.le_of_ble_eq_true rfl, Nat.le_of_ble_eq_true rfl⟩ (Nat.le_of_ble_eq_true rfl) dX8_explains_129 (fun v_4 I_4 J_4 h_4 => ?_)
      obtain ⟨ev_4, hf_4, eJ_4⟩ := h_4
      replace ev_4 := ev_4.symm; subst ev_4
      replace eJ_4 := eJ_4.symm; subst eJ_4
      refine z_bipush C (v := 50) dX8_explains_132 (by decide) ?_
      refine z_icmp_lt_n (aHab (nI (bu t)) (lt (bu t)) (nI (fr t)) A) 50 (tgt := 141) C rfl rfl (by omega) (by omega) dX8_explains_134 (by decide) (fun c134 => ?_) (fun c134 => ?_)
      · skip
        refine z_iconst C (v := 0) dX8_explains_141 (by decide) ?_
        refine z_iret C hr (by decide) dX8_explains_142 ?_
        refine ⟨_, rfl, ?_⟩
        have hkk : k = 4 := (nI_eq (b := 4) (by omega) (by omega)).mp c26_4
        exact ⟨(bI_f (by rw [hkk, zKs]; show ¬ (pB _ = true); rw [pB_f (show ¬ 50 ≤ aHab (nI (bu t)) (lt (bu t)) (nI (fr t)) A by omega)]; exact Bool.noConfusion)).symm, hf_4, rfl⟩
      · skip
        refine z_iconst C (v := 1) dX8_explains_137 (by decide) ?_
        refine z_goto (tgt := 142) C dX8_explains_138 (by decide) ?_
        refine z_iret C hr (by decide) dX8_explains_142 ?_
        refine ⟨_, rfl, ?_⟩
        have hkk : k = 4 := (nI_eq (b := 4) (by omega) (by omega)).mp c26_4
        exact ⟨(bI_t (by rw [hkk, zKs]; show pB _ = true; exact pB_t (show 50 ≤ aHab (nI (bu t)) (lt (bu t)) (nI (fr t)) A by omega))).symm, hf_4, rfl⟩
    by_cases c26_5 : nI k = 5
    · skip
      refine z_tableIn (tgt := 143) C dX8_explains_26 (by rw [c26_5]; decide) (by rw [c26_5]; decide) (off := 117) (by rw [c26_5]; decide) (by decide) ?_
      refine z_iload_n C dX8_explains_143 rfl 0 rfl ?_
      refine z_if_eq (tgt := 165) C dX8_explains_144 (by decide) (fun c144 => ?_) (fun c144 => ?_)
      · skip
        refine z_iconst C (v := 0) dX8_explains_165 (by decide) ?_
        refine z_iret C hr (by decide) dX8_explains_166 ?_
        refine ⟨_, rfl, ?_⟩
        have hkk : k = 5 := (nI_eq (b := 5) (by omega) (by omega)).mp c26_5
        exact ⟨(bI_f (by rw [hkk, zKs]; show ¬ ((pB _ && pB _) = true); rw [pB_f (show ¬ ern 0 n jn A hd (bu t) ≤ ho t by omega)]; exact Bool.noConfusion)).symm, frH_id, rfl⟩
      · skip
        exact absurd rfl c144
    refine z_tableOut (tgt := 167) C dX8_explains_26 (by have h0 := lv_neT c26_0 (a := 0) (by decide); have h1 := lv_neT c26_1 (a := 1) (by decide); have h2 := lv_neT c26_2 (a := 2) (by decide); have h3 := lv_neT c26_3 (a := 3) (by decide); have h4 := lv_neT c26_4 (a := 4) (by decide); have h5 := lv_neT c26_5 (a := 5) (by decide); omega) (by decide) ?_
    refine z_iload_n C dX8_explains_167 rfl 0 rfl ?_
    refine z_if_eq (tgt := 200) C dX8_explains_168 (by decide) (fun c168 => ?_) (fun c168 => ?_)
    · skip
      refine z_iconst C (v := 0) dX8_explains_200 (by decide) ?_
      refine z_iret C hr (by decide) dX8_explains_201 ?_
      refine ⟨_, rfl, ?_⟩
      have hkk : k = 6 := by
        have q0 : k ≠ 0 := fun q => c26_0 (by rw [q]; rfl)
        have q1 : k ≠ 1 := fun q => c26_1 (by rw [q]; rfl)
        have q2 : k ≠ 2 := fun q => c26_2 (by rw [q]; rfl)
        have q3 : k ≠ 3 := fun q => c26_3 (by rw [q]; rfl)
        have q4 : k ≠ 4 := fun q => c26_4 (by rw [q]; rfl)
        have q5 : k ≠ 5 := fun q => c26_5 (by rw [q]; rfl)
        omega
      exact ⟨(bI_f (by rw [hkk, zKs]; show ¬ ((pB _ && pB _) = true); rw [pB_f (show ¬ ern 0 n jn A hd (bu t) ≤ ho t by omega)]; exact Bool.noConfusion)).symm, frH_id, rfl⟩
    · skip
      exact absurd rfl c168
  · skip
    refine z_iconst C (v := 1) dX8_explains_19 (by decide) ?_
    refine z_goto (tgt := 24) C dX8_explains_20 (by decide) ?_
    refine z_istore_n C hm (lv' := [(3, .int 1), (0, .ref (zad w 82)), (1, .int (nI k)), (2, .int (nI t))]) dX8_explains_24 rfl (by decide) rfl ?_
    refine z_iload_n C dX8_explains_25 rfl 2 rfl ?_
    by_cases c26_0 : nI k = 0
    · skip
      refine z_tableIn (tgt := 64) C dX8_explains_26 (by rw [c26_0]; decide) (by rw [c26_0]; decide) (off := 38) (by rw [c26_0]; decide) (by decide) ?_
      refine z_iconst C (v := 1) dX8_explains_64 (by decide) ?_
      refine z_iret C hr (by decide) dX8_explains_65 ?_
      refine ⟨_, rfl, ?_⟩
      have hkk : k = 0 := (nI_eq (b := 0) (by omega) (by omega)).mp c26_0
      exact ⟨(bI_t (by rw [hkk, zKs]; show true = true; exact rfl)).symm, frH_id, rfl⟩
    by_cases c26_1 : nI k = 1
    · skip
      refine z_tableIn (tgt := 66) C dX8_explains_26 (by rw [c26_1]; decide) (by rw [c26_1]; decide) (off := 40) (by rw [c26_1]; decide) (by decide) ?_
      refine z_aload_n C dX8_explains_66 rfl 1 rfl ?_
      refine z_aload_n C dX8_explains_67 rfl 1 rfl ?_
      refine z_getr C ff_X8_99 82 (by decide) sh82 rfl dX8_explains_68 ?_
      refine z_iload_n C dX8_explains_71 rfl 3 rfl ?_
      refine z_iald C 101 (by decide) sh101 t (by omega) (by decide) rfl (v := nI (bu t)) (hB t ht).1 dX8_explains_72 ?_
      refine z_aload_n C dX8_explains_73 rfl 1 rfl ?_
      refine z_getr C ff_X8_102 82 (by decide) sh82 rfl dX8_explains_74 ?_
      refine z_iload_n C dX8_explains_77 rfl 3 rfl ?_
      refine z_iald C 102 (by decide) sh102 t (by omega) (by decide) rfl (v := nI (fr t)) (hF t ht).1 dX8_explains_78 ?_
      refine z_callVi C hm cl_X8_268 cv_X8_habitOf 82 (by decide) sh82 ⟨_, _, rfl⟩ [.int (nI (bu t)), .int (nI (fr t))] rfl (rest := []) rfl (k_X8_habitOf w _ _ h A lt (bu t) (nI (fr t)) (by omega) hh hM hLt) ⟨rfl, rfl, Nat.le_of_ble_eq_true rfl, Nat.le_of_ble_eq_true rfl⟩ (Nat.le_of_ble_eq_true rfl) dX8_explains_79 (fun v_5 I_5 J_5 h_5 => ?_)
      obtain ⟨ev_5, hf_5, eJ_5⟩ := h_5
      replace ev_5 := ev_5.symm; subst ev_5
      replace eJ_5 := eJ_5.symm; subst eJ_5
      refine z_if_le (tgt := 89) C dX8_explains_82 (by decide) (fun c82 => ?_) (fun c82 => ?_)
      · skip
        have hz0 := (nI_le0 (by omega)).mp c82
        refine z_iconst C (v := 0) dX8_explains_89 (by decide) ?_
        refine z_iret C hr (by decide) dX8_explains_90 ?_
        refine ⟨_, rfl, ?_⟩
        have hkk : k = 1 := (nI_eq (b := 1) (by omega) (by omega)).mp c26_1
        exact ⟨(bI_f (by rw [hkk, zKs]; show ¬ (pB _ = true); rw [pB_f (show ¬ 0 < aHab (nI (bu t)) (lt (bu t)) (nI (fr t)) A by omega)]; exact Bool.noConfusion)).symm, hf_5, rfl⟩
      · skip
        have hz0 : 0 < aHab (nI (bu t)) (lt (bu t)) (nI (fr t)) A := Nat.pos_of_ne_zero (fun q => c82 ((nI_le0 (by omega)).mpr q))
        refine z_iconst C (v := 1) dX8_explains_85 (by decide) ?_
        refine z_goto (tgt := 90) C dX8_explains_86 (by decide) ?_
        refine z_iret C hr (by decide) dX8_explains_90 ?_
        refine ⟨_, rfl, ?_⟩
        have hkk : k = 1 := (nI_eq (b := 1) (by omega) (by omega)).mp c26_1
        exact ⟨(bI_t (by rw [hkk, zKs]; show pB _ = true; exact pB_t (show 0 < aHab (nI (bu t)) (lt (bu t)) (nI (fr t)) A by omega))).symm, hf_5, rfl⟩
    by_cases c26_2 : nI k = 2
    · skip
      refine z_tableIn (tgt := 91) C dX8_explains_26 (by rw [c26_2]; decide) (by rw [c26_2]; decide) (off := 65) (by rw [c26_2]; decide) (by decide) ?_
      refine z_aload_n C dX8_explains_91 rfl 1 rfl ?_
      refine z_getr C ff_X8_105 82 (by decide) sh82 rfl dX8_explains_92 ?_
      refine z_iload_n C dX8_explains_95 rfl 3 rfl ?_
      refine z_iald C 103 (by decide) sh103 t (by omega) (by decide) rfl (v := nI (ho t)) (hO t ht).1 dX8_explains_96 ?_
      refine z_aload_n C dX8_explains_97 rfl 1 rfl ?_
      refine z_iconst C (v := 2) dX8_explains_98 (by decide) ?_
      refine z_sipush C (v := 999) dX8_explains_99 (by decide) ?_
      refine z_callVi C hm cl_X8_271 cv_X8_last 82 (by decide) sh82 ⟨_, _, rfl⟩ [.int 2, .int 999] rfl (rest := [.int (nI (ho t))]) rfl (k_X8_last w _ _ h A 2 999 hh hM (by decide) (by decide)) ⟨rfl, rfl, Nat.le_of_ble_eq_true rfl, Nat.le_of_ble_eq_true rfl⟩ (Nat.le_of_ble_eq_true rfl) dX8_explains_102 (fun v_6 I_6 J_6 h_6 => ?_)
      obtain ⟨ev_6, ei_6, ej_6⟩ := h_6
      replace ev_6 := ev_6.symm; subst ev_6
      replace ei_6 := ei_6.symm; subst ei_6
      replace ej_6 := ej_6.symm; subst ej_6
      refine z_icmp_lt_n (ho t) (aLast 2 A 999) (tgt := 112) C rfl rfl (by omega) (by omega) dX8_explains_105 (by decide) (fun c105 => ?_) (fun c105 => ?_)
      · skip
        refine z_iconst C (v := 0) dX8_explains_112 (by decide) ?_
        refine z_iret C hr (by decide) dX8_explains_113 ?_
        refine ⟨_, rfl, ?_⟩
        have hkk : k = 2 := (nI_eq (b := 2) (by omega) (by omega)).mp c26_2
        exact ⟨(bI_f (by rw [hkk, zKs]; show ¬ (pB _ = true); rw [pB_f (show ¬ aLast 2 A 999 ≤ ho t by omega)]; exact Bool.noConfusion)).symm, frH_id, rfl⟩
      · skip
        refine z_iconst C (v := 1) dX8_explains_108 (by decide) ?_
        refine z_goto (tgt := 113) C dX8_explains_109 (by decide) ?_
        refine z_iret C hr (by decide) dX8_explains_113 ?_
        refine ⟨_, rfl, ?_⟩
        have hkk : k = 2 := (nI_eq (b := 2) (by omega) (by omega)).mp c26_2
        exact ⟨(bI_t (by rw [hkk, zKs]; show pB _ = true; exact pB_t (show aLast 2 A 999 ≤ ho t by omega))).symm, frH_id, rfl⟩
    by_cases c26_3 : nI k = 3
    · skip
      refine z_tableIn (tgt := 114) C dX8_explains_26 (by rw [c26_3]; decide) (by rw [c26_3]; decide) (off := 88) (by rw [c26_3]; decide) (by decide) ?_
      refine z_iload_n C dX8_explains_114 rfl 0 rfl ?_
      refine z_iret C hr (by decide) dX8_explains_115 ?_
      refine ⟨_, rfl, ?_⟩
      have hkk : k = 3 := (nI_eq (b := 3) (by omega) (by omega)).mp c26_3
      exact ⟨(bI_t (by rw [hkk, zKs]; show pB _ = true; exact pB_t c16)).symm, frH_id, rfl⟩
    by_cases c26_4 : nI k = 4
    · skip
      refine z_tableIn (tgt := 116) C dX8_explains_26 (by rw [c26_4]; decide) (by rw [c26_4]; decide) (off := 90) (by rw [c26_4]; decide) (by decide) ?_
      refine z_aload_n C dX8_explains_116 rfl 1 rfl ?_
      refine z_aload_n C dX8_explains_117 rfl 1 rfl ?_
      refine z_getr C ff_X8_99 82 (by decide) sh82 rfl dX8_explains_118 ?_
      refine z_iload_n C dX8_explains_121 rfl 3 rfl ?_
      refine z_iald C 101 (by decide) sh101 t (by omega) (by decide) rfl (v := nI (bu t)) (hB t ht).1 dX8_explains_122 ?_
      refine z_aload_n C dX8_explains_123 rfl 1 rfl ?_
      refine z_getr C ff_X8_102 82 (by decide) sh82 rfl dX8_explains_124 ?_
      refine z_iload_n C dX8_explains_127 rfl 3 rfl ?_
      refine z_iald C 102 (by decide) sh102 t (by omega) (by decide) rfl (v := nI (fr t)) (hF t ht).1 dX8_explains_128 ?_
      refine z_callVi C hm cl_X8_268 cv_X8_habitOf 82 (by decide) sh82 ⟨_, _, rfl⟩ [.int (nI (bu t)), .int (nI (fr t))] rfl (rest := []) rfl (k_X8_habitOf w _ _ h A lt (bu t) (nI (fr t)) (by omega) hh hM hLt) ⟨rfl, rfl, Nat.le_of_ble_eq_true rfl, Nat.le_of_ble_eq_true rfl⟩ (Nat.le_of_ble_eq_true rfl) dX8_explains_129 (fun v_7 I_7 J_7 h_7 => ?_)
      obtain ⟨ev_7, hf_7, eJ_7⟩ := h_7
      replace ev_7 := ev_7.symm; subst ev_7
      replace eJ_7 := eJ_7.symm; subst eJ_7
      refine z_bipush C (v := 50) dX8_explains_132 (by decide) ?_
      refine z_icmp_lt_n (aHab (nI (bu t)) (lt (bu t)) (nI (fr t)) A) 50 (tgt := 141) C rfl rfl (by omega) (by omega) dX8_explains_134 (by decide) (fun c134 => ?_) (fun c134 => ?_)
      · skip
        refine z_iconst C (v := 0) dX8_explains_141 (by decide) ?_
        refine z_iret C hr (by decide) dX8_explains_142 ?_
        refine ⟨_, rfl, ?_⟩
        have hkk : k = 4 := (nI_eq (b := 4) (by omega) (by omega)).mp c26_4
        exact ⟨(bI_f (by rw [hkk, zKs]; show ¬ (pB _ = true); rw [pB_f (show ¬ 50 ≤ aHab (nI (bu t)) (lt (bu t)) (nI (fr t)) A by omega)]; exact Bool.noConfusion)).symm, hf_7, rfl⟩
      · skip
        refine z_iconst C (v := 1) dX8_explains_137 (by decide) ?_
        refine z_goto (tgt := 142) C dX8_explains_138 (by decide) ?_
        refine z_iret C hr (by decide) dX8_explains_142 ?_
        refine ⟨_, rfl, ?_⟩
        have hkk : k = 4 := (nI_eq (b := 4) (by omega) (by omega)).mp c26_4
        exact ⟨(bI_t (by rw [hkk, zKs]; show pB _ = true; exact pB_t (show 50 ≤ aHab (nI (bu t)) (lt (bu t)) (nI (fr t)) A by omega))).symm, hf_7, rfl⟩
    by_cases c26_5 : nI k = 5
    · skip
      refine z_tableIn (tgt := 143) C dX8_explains_26 (by rw [c26_5]; decide) (by rw [c26_5]; decide) (off := 117) (by rw [c26_5]; decide) (by decide) ?_
      refine z_iload_n C dX8_explains_143 rfl 0 rfl ?_
      refine z_if_eq (tgt := 165) C dX8_explains_144 (by decide) (fun c144 => ?_) (fun c144 => ?_)
      · skip
        exact absurd c144 (by decide)
      · skip
        refine z_aload_n C dX8_explains_147 rfl 1 rfl ?_
        refine z_getr C ff_X8_20 82 (by decide) sh82 rfl dX8_explains_148 ?_
        refine z_aload_n C dX8_explains_151 rfl 1 rfl ?_
        refine z_getr C ff_X8_99 82 (by decide) sh82 rfl dX8_explains_152 ?_
        refine z_iload_n C dX8_explains_155 rfl 3 rfl ?_
        refine z_iald C 101 (by decide) sh101 t (by omega) (by decide) rfl (v := nI (bu t)) (hB t ht).1 dX8_explains_156 ?_
        refine z_iald C 85 (by decide) sh85 (bu t) (by omega) (by decide) rfl (v := oM (hd (bu t))) (hHd (bu t) hbu) dX8_explains_157 ?_
        refine z_if_ge (tgt := 165) C dX8_explains_158 (by decide) (fun c158 => ?_) (fun c158 => ?_)
        · skip
          refine z_iconst C (v := 0) dX8_explains_165 (by decide) ?_
          refine z_iret C hr (by decide) dX8_explains_166 ?_
          refine ⟨_, rfl, ?_⟩
          have hkk : k = 5 := (nI_eq (b := 5) (by omega) (by omega)).mp c26_5
          exact ⟨(bI_f (by rw [hkk, zKs]; show ¬ ((pB _ && pB _) = true); rw [pB_t c16, pB_f (fun q => absurd ((oM_neg (fun k q => hd99 _ k q)).mpr q) (Int32.not_lt.mpr c158))]; exact Bool.noConfusion)).symm, frH_id, rfl⟩
        · skip
          refine z_iconst C (v := 1) dX8_explains_161 (by decide) ?_
          refine z_goto (tgt := 166) C dX8_explains_162 (by decide) ?_
          refine z_iret C hr (by decide) dX8_explains_166 ?_
          refine ⟨_, rfl, ?_⟩
          have hkk : k = 5 := (nI_eq (b := 5) (by omega) (by omega)).mp c26_5
          exact ⟨(bI_t (by rw [hkk, zKs]; show (pB _ && pB _) = true; exact by rw [pB_t c16, pB_t ((oM_neg (fun k q => hd99 _ k q)).mp (Int32.not_le.mp c158))]; rfl)).symm, frH_id, rfl⟩
    refine z_tableOut (tgt := 167) C dX8_explains_26 (by have h0 := lv_neT c26_0 (a := 0) (by decide); have h1 := lv_neT c26_1 (a := 1) (by decide); have h2 := lv_neT c26_2 (a := 2) (by decide); have h3 := lv_neT c26_3 (a := 3) (by decide); have h4 := lv_neT c26_4 (a := 4) (by decide); have h5 := lv_neT c26_5 (a := 5) (by decide); omega) (by decide) ?_
    refine z_iload_n C dX8_explains_167 rfl 0 rfl ?_
    refine z_if_eq (tgt := 200) C dX8_explains_168 (by decide) (fun c168 => ?_) (fun c168 => ?_)
    · skip
      exact absurd c168 (by decide)
    · skip
      refine z_aload_n C dX8_explains_171 rfl 1 rfl ?_
      refine z_getr C ff_X8_108 82 (by decide) sh82 rfl dX8_explains_172 ?_
      refine z_iload_n C dX8_explains_175 rfl 3 rfl ?_
      refine z_iald C 104 (by decide) sh104 t (by omega) (by decide) rfl (v := nI (lo t)) (hLo t ht).1 dX8_explains_176 ?_
      refine z_aload_n C dX8_explains_177 rfl 1 rfl ?_
      refine z_iconst C (v := 3) dX8_explains_178 (by decide) ?_
      refine z_sipush C (v := 999) dX8_explains_179 (by decide) ?_
      refine z_callVi C hm cl_X8_271 cv_X8_last 82 (by decide) sh82 ⟨_, _, rfl⟩ [.int 3, .int 999] rfl (rest := [.int (nI (lo t))]) rfl (k_X8_last w _ _ h A 3 999 hh hM (by decide) (by decide)) ⟨rfl, rfl, Nat.le_of_ble_eq_true rfl, Nat.le_of_ble_eq_true rfl⟩ (Nat.le_of_ble_eq_true rfl) dX8_explains_182 (fun v_8 I_8 J_8 h_8 => ?_)
      obtain ⟨ev_8, ei_8, ej_8⟩ := h_8
      replace ev_8 := ev_8.symm; subst ev_8
      replace ei_8 := ei_8.symm; subst ei_8
      replace ej_8 := ej_8.symm; subst ej_8
      refine z_icmp_ge_n (lo t) (aLast 3 A 999) (tgt := 200) C rfl rfl (by omega) (by omega) dX8_explains_185 (by decide) (fun c185 => ?_) (fun c185 => ?_)
      · skip
        refine z_iconst C (v := 0) dX8_explains_200 (by decide) ?_
        refine z_iret C hr (by decide) dX8_explains_201 ?_
        refine ⟨_, rfl, ?_⟩
        have hkk : k = 6 := by
          have q0 : k ≠ 0 := fun q => c26_0 (by rw [q]; rfl)
          have q1 : k ≠ 1 := fun q => c26_1 (by rw [q]; rfl)
          have q2 : k ≠ 2 := fun q => c26_2 (by rw [q]; rfl)
          have q3 : k ≠ 3 := fun q => c26_3 (by rw [q]; rfl)
          have q4 : k ≠ 4 := fun q => c26_4 (by rw [q]; rfl)
          have q5 : k ≠ 5 := fun q => c26_5 (by rw [q]; rfl)
          omega
        exact ⟨(bI_f (by rw [hkk, zKs]; show ¬ ((pB _ && pB _) = true); rw [pB_t c16, pB_f (fun q => by have := q.1; omega)]; exact Bool.noConfusion)).symm, frH_id, rfl⟩
      · skip
        refine z_aload_n C dX8_explains_188 rfl 1 rfl ?_
        refine z_iload_n C dX8_explains_189 rfl 3 rfl ?_
        refine z_callVi C hm cl_X8_296 cv_X8_hasOther 82 (by decide) sh82 ⟨_, _, rfl⟩ [.int (nI t)] rfl (rest := []) rfl (k_X8_hasOther w _ _ tr t htr hT ht) ⟨rfl, rfl, Nat.le_of_ble_eq_true rfl, Nat.le_of_ble_eq_true rfl⟩ (Nat.le_of_ble_eq_true rfl) dX8_explains_190 (fun v_9 I_9 J_9 h_9 => ?_)
        obtain ⟨ev_9, ei_9, ej_9⟩ := h_9
        replace ev_9 := ev_9.symm; subst ev_9
        replace ei_9 := ei_9.symm; subst ei_9
        replace ej_9 := ej_9.symm; subst ej_9
        refine z_ifeq_b (tgt := 200) C dX8_explains_193 (by decide) (fun c193 => ?_) (fun c193 => ?_)
        · skip
          refine z_iconst C (v := 0) dX8_explains_200 (by decide) ?_
          refine z_iret C hr (by decide) dX8_explains_201 ?_
          refine ⟨_, rfl, ?_⟩
          have hkk : k = 6 := by
            have q0 : k ≠ 0 := fun q => c26_0 (by rw [q]; rfl)
            have q1 : k ≠ 1 := fun q => c26_1 (by rw [q]; rfl)
            have q2 : k ≠ 2 := fun q => c26_2 (by rw [q]; rfl)
            have q3 : k ≠ 3 := fun q => c26_3 (by rw [q]; rfl)
            have q4 : k ≠ 4 := fun q => c26_4 (by rw [q]; rfl)
            have q5 : k ≠ 5 := fun q => c26_5 (by rw [q]; rfl)
            omega
          exact ⟨(bI_f (by rw [hkk, zKs]; show ¬ ((pB _ && pB _) = true); rw [pB_t c16, pB_f (fun q => c193 (hfe.mpr q.2))]; exact Bool.noConfusion)).symm, frH_id, rfl⟩
        · skip
          refine z_iconst C (v := 1) dX8_explains_196 (by decide) ?_
          refine z_goto (tgt := 201) C dX8_explains_197 (by decide) ?_
          refine z_iret C hr (by decide) dX8_explains_201 ?_
          refine ⟨_, rfl, ?_⟩
          have hkk : k = 6 := by
            have q0 : k ≠ 0 := fun q => c26_0 (by rw [q]; rfl)
            have q1 : k ≠ 1 := fun q => c26_1 (by rw [q]; rfl)
            have q2 : k ≠ 2 := fun q => c26_2 (by rw [q]; rfl)
            have q3 : k ≠ 3 := fun q => c26_3 (by rw [q]; rfl)
            have q4 : k ≠ 4 := fun q => c26_4 (by rw [q]; rfl)
            have q5 : k ≠ 5 := fun q => c26_5 (by rw [q]; rfl)
            omega
          exact ⟨(bI_t (by rw [hkk, zKs]; show (pB _ && pB _) = true; exact by rw [pB_t c16, pB_t ⟨by omega, hfe.mp c193⟩]; rfl)).symm, frH_id, rfl⟩
abbrev rm_X8_allOf : Room := { frames := 7, cells := 0, slots := 0, locals := 273 }
set_option maxRecDepth 100000 in
set_option maxHeartbeats 4000000 in
theorem k_X8_allOf (w : zW) (I : zI) (J : zJ) (n tr h : Nat) (A : List zCla) (jn lt : Nat → Int32) (hd : Nat → Option Nat) (bu ho lo fr : Nat → Nat) (t : Nat) (hn : n ≤ 8) (htr : tr ≤ 16) (hh : h < 7) (hd99 : ∀ a k, hd a = some k → k ≤ 99) (hS : mS I n tr h A jn lt hd bu ho lo fr) (hY : mY I n A jn hd) (ht : t < tr) : zMet yX8_allOf cX8_allOf 4 (some .int) rm_X8_allOf w [.ref (zad w 82), .int (nI t)] I J (zpi (fun v I' J' => v = nI (zset (zKs A tr lt hd bu ho lo fr (ern 0 n jn A hd) t) 7) ∧ frH I' I ∧ J' = J)) := by
  refine zMet_of (by decide) (Nat.le_of_ble_eq_true rfl) (fun X C hm hr => ?_)
  refine z_sub (lv' := [(0, .ref (zad w 82)), (1, .int (nI t))]) [0, 1] rfl ?_
  refine z_iconst C (v := 0) dX8_allOf_0 (by decide) ?_
  refine z_istore_n C hm (lv' := [(2, .int 0), (0, .ref (zad w 82)), (1, .int (nI t))]) dX8_allOf_1 rfl (by decide) rfl ?_
  refine z_iconst C (v := 0) dX8_allOf_2 (by decide) ?_
  refine z_istore_n C hm (lv' := [(3, .int 0), (2, .int 0), (0, .ref (zad w 82)), (1, .int (nI t))]) dX8_allOf_3 rfl (by decide) rfl ?_
  have L4 : ∀ (d : Nat) (k : Nat) (K : zI) (v4_2 : Int32) (v4_3 : Int32) (I4 : zI), (7 - k) < d → (k ≤ 7) → (frH K I) → v4_2 = nI (zset (zKs A tr lt hd bu ho lo fr (ern 0 n jn A hd) t) k) → v4_3 = nI k → I4 = K → Z X w I4 J 4 [(0, .ref (zad w 82)), (1, .int (nI t)), (2, .int v4_2), (3, .int v4_3)] [] := by
    intro d
    induction d with
    | zero => intro k K v4_2 v4_3 I4 hd; exact absurd hd (Nat.not_lt_zero _)
    | succ d ih4 => 
      intro k K v4_2 v4_3 I4 hd4 hk hKf e_v4_2 e_v4_3 e_I4
      replace e_v4_2 := e_v4_2.symm; subst e_v4_2
      replace e_v4_3 := e_v4_3.symm; subst e_v4_3
      replace e_I4 := e_I4.symm; subst e_I4
      refine z_iload_n C dX8_allOf_4 rfl 3 rfl ?_
      refine z_bipush C (v := 7) dX8_allOf_5 (by decide) ?_
      refine z_icmp_ge_n k 7 (tgt := 35) C rfl rfl (by omega) (by omega) dX8_allOf_7 (by decide) (fun c7 => ?_) (fun c7 => ?_)
      · skip
        have hk7 : k = 7 := by omega
        refine z_iload_n C dX8_allOf_35 rfl 2 rfl ?_
        refine z_iret C hr rfl dX8_allOf_36 ?_
        refine ⟨_, rfl, ?_⟩
        exact ⟨by rw [hk7], hKf, rfl⟩
      · skip
        refine z_iload_n C dX8_allOf_10 rfl 2 rfl ?_
        refine z_aload_n C dX8_allOf_11 rfl 0 rfl ?_
        refine z_iload_n C dX8_allOf_12 rfl 3 rfl ?_
        refine z_iload_n C dX8_allOf_13 rfl 1 rfl ?_
        refine z_callVi C hm cl_X8_299 cv_X8_explains 82 (by decide) sh82 ⟨_, _, rfl⟩ [.int (nI k), .int (nI t)] rfl (rest := [.int (nI (zset (zKs A tr lt hd bu ho lo fr (ern 0 n jn A hd) t) k))]) rfl (k_X8_explains w _ _ n tr h A jn lt hd bu ho lo fr k t hn htr hh hd99 (mS_f (frM_h hKf) hS) (mY_f hKf hY) (by omega) ht) ⟨rfl, rfl, Nat.le_of_ble_eq_true rfl, Nat.le_of_ble_eq_true rfl⟩ (Nat.le_of_ble_eq_true rfl) dX8_allOf_14 (fun v_1 I_1 J_1 h_1 => ?_)
        obtain ⟨ev_1, hf_1, eJ_1⟩ := h_1
        replace ev_1 := ev_1.symm; subst ev_1
        replace eJ_1 := eJ_1.symm; subst eJ_1
        refine z_ifeq_b (tgt := 26) C dX8_allOf_17 (by decide) (fun c17 => ?_) (fun c17 => ?_)
        · skip
          refine z_iconst C (v := 0) dX8_allOf_26 (by decide) ?_
          refine z_ior C dX8_allOf_27 ?_
          refine z_istore_n C hm (lv' := [(2, .int ((nI (zset (zKs A tr lt hd bu ho lo fr (ern 0 n jn A hd) t) k)) ||| 0)), (0, .ref (zad w 82)), (1, .int (nI t)), (3, .int (nI k))]) dX8_allOf_28 rfl (by decide) rfl ?_
          refine z_iinc C hm 3 (v := nI (k + 1)) (lv' := [(3, .int (nI (k + 1))), (2, .int ((nI (zset (zKs A tr lt hd bu ho lo fr (ern 0 n jn A hd) t) k)) ||| 0)), (0, .ref (zad w 82)), (1, .int (nI t))]) dX8_allOf_29 rfl (nI_add k 1) (by decide) rfl ?_
          refine z_goto (tgt := 4) C dX8_allOf_32 (by decide) ?_
          exact z_sub [2, 3, 1, 0] rfl (ih4  (k + 1) _ _ _ _ (by omega) (by omega) (frH_tr hf_1 hKf) (by rw [zset, if_neg c17, Nat.add_zero]; exact or_0 _) rfl rfl)
        · skip
          refine z_iconst C (v := 1) dX8_allOf_20 (by decide) ?_
          refine z_iload_n C dX8_allOf_21 rfl 3 rfl ?_
          refine z_ishl C dX8_allOf_22 ?_
          refine z_goto (tgt := 27) C dX8_allOf_23 (by decide) ?_
          refine z_ior C dX8_allOf_27 ?_
          refine z_istore_n C hm (lv' := [(2, .int ((nI (zset (zKs A tr lt hd bu ho lo fr (ern 0 n jn A hd) t) k)) ||| (1 <<< ((nI k) &&& 31)))), (0, .ref (zad w 82)), (1, .int (nI t)), (3, .int (nI k))]) dX8_allOf_28 rfl (by decide) rfl ?_
          refine z_iinc C hm 3 (v := nI (k + 1)) (lv' := [(3, .int (nI (k + 1))), (2, .int ((nI (zset (zKs A tr lt hd bu ho lo fr (ern 0 n jn A hd) t) k)) ||| (1 <<< ((nI k) &&& 31)))), (0, .ref (zad w 82)), (1, .int (nI t))]) dX8_allOf_29 rfl (nI_add k 1) (by decide) rfl ?_
          refine z_goto (tgt := 4) C dX8_allOf_32 (by decide) ?_
          exact z_sub [2, 3, 1, 0] rfl (ih4  (k + 1) _ _ _ _ (by omega) (by omega) (frH_tr hf_1 hKf) (by rw [zset, if_pos c17]; exact or_bit (zset_lt k) (by omega)) rfl rfl)
  exact z_sub [2, 3, 1, 0] rfl (L4 _ 0 I _ _ _ (Nat.lt_succ_self _) (by decide) frH_id rfl rfl rfl)
theorem mY_s {I : zI} {n : Nat} {A : List zCla} {jn : Nat → Int32} {hd : Nat → Option Nat} {R : Nat → Int32} (h1 : I 82 25 = nI (aSteps A)) (h2 : ∀ k, k ≤ aSteps A → ∀ b, b < n → R (8 * k + b) = nI (hD 0 n (zGt jn A) (zT0 hd) k b)) : mY (zup I 97 R) n A jn hd := ⟨by rw [zup_n (by decide)]; exact h1, by rw [zup_s]; exact h2⟩
abbrev rm_X8_of : Room := { frames := 8, cells := 0, slots := 0, locals := 296 }
set_option maxRecDepth 100000 in
set_option maxHeartbeats 4000000 in
theorem k_X8_of (w : zW) (I : zI) (J : zJ) (n tr h : Nat) (A : List zCla) (jn lt : Nat → Int32) (hd : Nat → Option Nat) (bu ho lo fr : Nat → Nat) (x : Int32) (wh : Int32) (hn : n ≤ 8) (htr : tr ≤ 16) (hh : h < 7) (hd99 : ∀ a k, hd a = some k → k ≤ 99) (hS : mS I n tr h A jn lt hd bu ho lo fr) (hDg : ∀ a, a < 8 → jn (a * 8 + a) = 0) : zMet yX8_of cX8_of 3 (some .int) rm_X8_of w [.ref (zad w 82), .int x, .int wh] I J (zpi (fun v I' J' => v = cif (zin x tr ∧ zin wh 6) (zOf wh (I 100 (zn x)) (I 101 (zn x)) (I 102 (zn x)) (I 103 (zn x)) (I 104 (zn x)) (nI (zset (zKs A tr lt hd bu ho lo fr (ern 0 n jn A hd) (zn x)) 7))) (-1) ∧ J' = J ∧ frM I' I)) := by
  refine zMet_of (by decide) (Nat.le_of_ble_eq_true rfl) (fun X C hm hr => ?_)
  refine z_sub (lv' := [(0, .ref (zad w 82)), (1, .int x), (2, .int wh)]) [0, 1, 2] rfl ?_
  obtain ⟨hN, hT, hM, hJn, hLt, hHd, hB, hO, hLo, hF⟩ := id hS
  refine z_aload_n C dX8_of_0 rfl 0 rfl ?_
  refine z_iload_n C dX8_of_1 rfl 1 rfl ?_
  refine z_callVi C hm cl_X8_302 cv_X8_isTrade 82 (by decide) sh82 ⟨_, _, rfl⟩ [.int x] rfl (rest := []) rfl (k_X8_isTrade w _ _ tr x hT htr) ⟨rfl, rfl, Nat.le_of_ble_eq_true rfl, Nat.le_of_ble_eq_true rfl⟩ (Nat.le_of_ble_eq_true rfl) dX8_of_2 (fun v_1 I_1 J_1 h_1 => ?_)
  obtain ⟨ev_1, ei_1, ej_1⟩ := h_1
  replace ev_1 := ev_1.symm; subst ev_1
  replace ei_1 := ei_1.symm; subst ei_1
  replace ej_1 := ej_1.symm; subst ej_1
  refine z_ifeq_b (tgt := 18) C dX8_of_5 (by decide) (fun c5 => ?_) (fun c5 => ?_)
  · skip
    refine z_iconst C (v := -1) dX8_of_18 (by decide) ?_
    refine z_iret C hr rfl dX8_of_19 ?_
    refine ⟨_, rfl, ?_⟩
    exact ⟨by rw [cif_f (fun q => c5 q.1)], rfl, frM_id⟩
  · skip
    obtain ⟨t, ht, rfl⟩ := c5
    refine z_aload_n C dX8_of_8 rfl 0 rfl ?_
    refine z_iload_n C dX8_of_9 rfl 2 rfl ?_
    refine z_iconst C (v := 0) dX8_of_10 (by decide) ?_
    refine z_iconst C (v := 5) dX8_of_11 (by decide) ?_
    refine z_callVi C hm cl_X8_189 cv_X8_in 82 (by decide) sh82 ⟨_, _, rfl⟩ [.int wh, .int 0, .int 5] rfl (rest := []) rfl (k_X8_in w _ _ wh (0) (5)) ⟨rfl, rfl, Nat.le_of_ble_eq_true rfl, Nat.le_of_ble_eq_true rfl⟩ (Nat.le_of_ble_eq_true rfl) dX8_of_12 (fun v_2 I_2 J_2 h_2 => ?_)
    obtain ⟨ev_2, ei_2, ej_2⟩ := h_2
    replace ei_2 := ei_2.symm; subst ei_2
    replace ej_2 := ej_2.symm; subst ej_2
    replace ev_2 := ev_2.trans (bI_c (in_z (m := 5) (by decide))); subst ev_2
    refine z_ifne_b (tgt := 20) C dX8_of_15 (by decide) (fun c15 => ?_) (fun c15 => ?_)
    · skip
      refine z_iload_n C dX8_of_20 rfl 2 rfl ?_
      by_cases c21_0 : wh = 0
      · skip
        refine z_tableIn (tgt := 56) C dX8_of_21 (by rw [c21_0]; decide) (by rw [c21_0]; decide) (off := 35) (by rw [c21_0]; decide) (by decide) ?_
        refine z_aload_n C dX8_of_56 rfl 0 rfl ?_
        refine z_getr C ff_X8_96 82 (by decide) sh82 rfl dX8_of_57 ?_
        refine z_iload_n C dX8_of_60 rfl 1 rfl ?_
        refine z_iald C 100 (by decide) sh100 t (by omega) (by decide) rfl (v := I 100 t) rfl dX8_of_61 ?_
        refine z_iret C hr rfl dX8_of_62 ?_
        refine ⟨_, rfl, ?_⟩
        exact ⟨by rw [cif_t ⟨⟨t, ht, rfl⟩, c15⟩, zn_n (by omega)]; unfold zOf; rw [if_pos c21_0], rfl, frM_id⟩
      by_cases c21_1 : wh = 1
      · skip
        refine z_tableIn (tgt := 63) C dX8_of_21 (by rw [c21_1]; decide) (by rw [c21_1]; decide) (off := 42) (by rw [c21_1]; decide) (by decide) ?_
        refine z_aload_n C dX8_of_63 rfl 0 rfl ?_
        refine z_getr C ff_X8_99 82 (by decide) sh82 rfl dX8_of_64 ?_
        refine z_iload_n C dX8_of_67 rfl 1 rfl ?_
        refine z_iald C 101 (by decide) sh101 t (by omega) (by decide) rfl (v := I 101 t) rfl dX8_of_68 ?_
        refine z_iret C hr rfl dX8_of_69 ?_
        refine ⟨_, rfl, ?_⟩
        exact ⟨by rw [cif_t ⟨⟨t, ht, rfl⟩, c15⟩, zn_n (by omega)]; unfold zOf; rw [if_neg c21_0, if_pos c21_1], rfl, frM_id⟩
      by_cases c21_2 : wh = 2
      · skip
        refine z_tableIn (tgt := 70) C dX8_of_21 (by rw [c21_2]; decide) (by rw [c21_2]; decide) (off := 49) (by rw [c21_2]; decide) (by decide) ?_
        refine z_aload_n C dX8_of_70 rfl 0 rfl ?_
        refine z_getr C ff_X8_102 82 (by decide) sh82 rfl dX8_of_71 ?_
        refine z_iload_n C dX8_of_74 rfl 1 rfl ?_
        refine z_iald C 102 (by decide) sh102 t (by omega) (by decide) rfl (v := I 102 t) rfl dX8_of_75 ?_
        refine z_iret C hr rfl dX8_of_76 ?_
        refine ⟨_, rfl, ?_⟩
        exact ⟨by rw [cif_t ⟨⟨t, ht, rfl⟩, c15⟩, zn_n (by omega)]; unfold zOf; rw [if_neg c21_0, if_neg c21_1, if_pos c21_2], rfl, frM_id⟩
      by_cases c21_3 : wh = 3
      · skip
        refine z_tableIn (tgt := 77) C dX8_of_21 (by rw [c21_3]; decide) (by rw [c21_3]; decide) (off := 56) (by rw [c21_3]; decide) (by decide) ?_
        refine z_aload_n C dX8_of_77 rfl 0 rfl ?_
        refine z_getr C ff_X8_105 82 (by decide) sh82 rfl dX8_of_78 ?_
        refine z_iload_n C dX8_of_81 rfl 1 rfl ?_
        refine z_iald C 103 (by decide) sh103 t (by omega) (by decide) rfl (v := I 103 t) rfl dX8_of_82 ?_
        refine z_iret C hr rfl dX8_of_83 ?_
        refine ⟨_, rfl, ?_⟩
        exact ⟨by rw [cif_t ⟨⟨t, ht, rfl⟩, c15⟩, zn_n (by omega)]; unfold zOf; rw [if_neg c21_0, if_neg c21_1, if_neg c21_2, if_pos c21_3], rfl, frM_id⟩
      by_cases c21_4 : wh = 4
      · skip
        refine z_tableIn (tgt := 84) C dX8_of_21 (by rw [c21_4]; decide) (by rw [c21_4]; decide) (off := 63) (by rw [c21_4]; decide) (by decide) ?_
        refine z_aload_n C dX8_of_84 rfl 0 rfl ?_
        refine z_getr C ff_X8_108 82 (by decide) sh82 rfl dX8_of_85 ?_
        refine z_iload_n C dX8_of_88 rfl 1 rfl ?_
        refine z_iald C 104 (by decide) sh104 t (by omega) (by decide) rfl (v := I 104 t) rfl dX8_of_89 ?_
        refine z_iret C hr rfl dX8_of_90 ?_
        refine ⟨_, rfl, ?_⟩
        exact ⟨by rw [cif_t ⟨⟨t, ht, rfl⟩, c15⟩, zn_n (by omega)]; unfold zOf; rw [if_neg c21_0, if_neg c21_1, if_neg c21_2, if_neg c21_3, if_pos c21_4], rfl, frM_id⟩
      refine z_tableOut (tgt := 91) C dX8_of_21 (by have h0 := lv_neT c21_0 (a := 0) (by decide); have h1 := lv_neT c21_1 (a := 1) (by decide); have h2 := lv_neT c21_2 (a := 2) (by decide); have h3 := lv_neT c21_3 (a := 3) (by decide); have h4 := lv_neT c21_4 (a := 4) (by decide); omega) (by decide) ?_
      have c21_e : wh = 5 := by
        obtain ⟨z, z1, z2⟩ := c15
        rw [z2]
        have q0 : z ≠ 0 := fun q => c21_0 (by rw [z2, q]; rfl)
        have q1 : z ≠ 1 := fun q => c21_1 (by rw [z2, q]; rfl)
        have q2 : z ≠ 2 := fun q => c21_2 (by rw [z2, q]; rfl)
        have q3 : z ≠ 3 := fun q => c21_3 (by rw [z2, q]; rfl)
        have q4 : z ≠ 4 := fun q => c21_4 (by rw [z2, q]; rfl)
        rw [show z = 5 by omega]; rfl
      refine z_aload_n C dX8_of_91 rfl 0 rfl ?_
      refine z_callVv C hm cl_X8_278 cv_X8_layHours 82 (by decide) sh82 ⟨_, _, rfl⟩ [] rfl (rest := []) rfl (k_X8_layHours w _ _ n h A jn  hN hn hh hM hJn hDg) ⟨rfl, rfl, Nat.le_of_ble_eq_true rfl, Nat.le_of_ble_eq_true rfl⟩ (Nat.le_of_ble_eq_true rfl) dX8_of_92 (fun I_3 J_3 h_3 => ?_)
      obtain ⟨hz_3, eJ_3⟩ := h_3
      replace eJ_3 := eJ_3.symm; subst eJ_3
      obtain ⟨h82_3, hfr_3, hH_3⟩ := id hz_3
      have hN_3 : I_3 82 0 = nI n := by rw [h82_3, upd_n (by decide)]; exact hN
      have hS_3 : I_3 82 25 = nI (aSteps A) := by rw [h82_3]; exact upd_s
      have hHd_3 : ∀ a, a < n → I_3 85 a = oM (hd a) := fun a ha => by rw [hfr_3 85 (by decide) (by decide) (by decide) (by decide)]; exact hHd a ha
      refine z_aload_n C dX8_of_95 rfl 0 rfl ?_
      refine z_iconst C (v := 0) dX8_of_96 (by decide) ?_
      refine z_callVv C hm cl_X8_281 cv_X8_spread 82 (by decide) sh82 ⟨_, _, rfl⟩ [.int 0] rfl (rest := []) rfl (k_X8_spread w _ _ n (aSteps A) A jn hd 0 (by decide) (by exact hN_3) hn (by exact hS_3) (aSteps_le A) (by exact hH_3) (mHeld_ok hM) (by exact hHd_3) hd99) ⟨rfl, rfl, Nat.le_of_ble_eq_true rfl, Nat.le_of_ble_eq_true rfl⟩ (Nat.le_of_ble_eq_true rfl) dX8_of_97 (fun I_4 J_4 h_4 => ?_)
      obtain ⟨⟨R_4, eI_4, hR_4⟩, eJ_4⟩ := h_4
      replace eI_4 := eI_4.symm; subst eI_4
      replace eJ_4 := eJ_4.symm; subst eJ_4
      refine z_aload_n C dX8_of_100 rfl 0 rfl ?_
      refine z_iload_n C dX8_of_101 rfl 1 rfl ?_
      refine z_callVi C hm cl_X8_305 cv_X8_allOf 82 (by decide) sh82 ⟨_, _, rfl⟩ [.int (nI t)] rfl (rest := []) rfl (k_X8_allOf w _ _ n tr h A jn lt hd bu ho lo fr t hn htr hh hd99 (mS_f (frM_z (by decide) (frM_l hz_3)) hS) (mY_s hS_3 hR_4) ht) ⟨rfl, rfl, Nat.le_of_ble_eq_true rfl, Nat.le_of_ble_eq_true rfl⟩ (Nat.le_of_ble_eq_true rfl) dX8_of_102 (fun v_5 I_5 J_5 h_5 => ?_)
      obtain ⟨ev_5, hf_5, eJ_5⟩ := h_5
      replace ev_5 := ev_5.symm; subst ev_5
      replace eJ_5 := eJ_5.symm; subst eJ_5
      refine z_iret C hr rfl dX8_of_105 ?_
      refine ⟨_, rfl, ?_⟩
      exact ⟨by rw [cif_t ⟨⟨t, ht, rfl⟩, c15⟩, zn_n (by omega)]; unfold zOf; rw [if_neg c21_0, if_neg c21_1, if_neg c21_2, if_neg c21_3, if_neg c21_4, if_pos c21_e], rfl, frM_tr (frM_h hf_5) (frM_z (by decide) (frM_l hz_3))⟩
    · skip
      refine z_iconst C (v := -1) dX8_of_18 (by decide) ?_
      refine z_iret C hr rfl dX8_of_19 ?_
      refine ⟨_, rfl, ?_⟩
      exact ⟨by rw [cif_f (fun q => c15 q.2)], rfl, frM_id⟩
abbrev rm_X8_sure : Room := { frames := 8, cells := 0, slots := 0, locals := 296 }
set_option maxRecDepth 100000 in
set_option maxHeartbeats 4000000 in
theorem k_X8_sure (w : zW) (I : zI) (J : zJ) (n tr h : Nat) (A : List zCla) (jn lt : Nat → Int32) (hd : Nat → Option Nat) (bu ho lo fr : Nat → Nat) (kd : Nat → Nat) (wh : Int32) (hn : n ≤ 8) (htr : tr ≤ 16) (hh : h < 7) (hd99 : ∀ a k, hd a = some k → k ≤ 99) (hS : mS I n tr h A jn lt hd bu ho lo fr) (hDg : ∀ a, a < 8 → jn (a * 8 + a) = 0) (hKd : ∀ t, t < tr → I 100 t = nI (kd t) ∧ kd t < 7) : zMet yX8_sure cX8_sure 6 (some .int) rm_X8_sure w [.ref (zad w 82), .int wh] I J (zpi (fun v I' J' => v = cif (zin wh 2) (nI (zset (fun t => pB (pcif (wh = 0) (zb (zset (zKs A tr lt hd bu ho lo fr (ern 0 n jn A hd) t) 7) 3 = true ∧ zb (zset (zKs A tr lt hd bu ho lo fr (ern 0 n jn A hd) t) 7) 1 = false ∧ zb (zset (zKs A tr lt hd bu ho lo fr (ern 0 n jn A hd) t) 7) 2 = false) (zb (zset (zKs A tr lt hd bu ho lo fr (ern 0 n jn A hd) t) 7) (kd t) = false))) tr)) (-1) ∧ J' = J ∧ frM I' I)) := by
  refine zMet_of (by decide) (Nat.le_of_ble_eq_true rfl) (fun X C hm hr => ?_)
  refine z_sub (lv' := [(0, .ref (zad w 82)), (1, .int wh)]) [0, 1] rfl ?_
  obtain ⟨hN, hT, hM, hJn, hLt, hHd, hB, hO, hLo, hF⟩ := id hS
  refine z_aload_n C dX8_sure_0 rfl 0 rfl ?_
  refine z_iload_n C dX8_sure_1 rfl 1 rfl ?_
  refine z_iconst C (v := 0) dX8_sure_2 (by decide) ?_
  refine z_iconst C (v := 1) dX8_sure_3 (by decide) ?_
  refine z_callVi C hm cl_X8_189 cv_X8_in 82 (by decide) sh82 ⟨_, _, rfl⟩ [.int wh, .int 0, .int 1] rfl (rest := []) rfl (k_X8_in w _ _ wh (0) (1)) ⟨rfl, rfl, Nat.le_of_ble_eq_true rfl, Nat.le_of_ble_eq_true rfl⟩ (Nat.le_of_ble_eq_true rfl) dX8_sure_4 (fun v_1 I_1 J_1 h_1 => ?_)
  obtain ⟨ev_1, ei_1, ej_1⟩ := h_1
  replace ei_1 := ei_1.symm; subst ei_1
  replace ej_1 := ej_1.symm; subst ej_1
  replace ev_1 := ev_1.trans (bI_c (in_z (m := 1) (by decide))); subst ev_1
  refine z_ifne_b (tgt := 12) C dX8_sure_7 (by decide) (fun c7 => ?_) (fun c7 => ?_)
  · skip
    refine z_aload_n C dX8_sure_12 rfl 0 rfl ?_
    refine z_callVv C hm cl_X8_278 cv_X8_layHours 82 (by decide) sh82 ⟨_, _, rfl⟩ [] rfl (rest := []) rfl (k_X8_layHours w _ _ n h A jn  hN hn hh hM hJn hDg) ⟨rfl, rfl, Nat.le_of_ble_eq_true rfl, Nat.le_of_ble_eq_true rfl⟩ (Nat.le_of_ble_eq_true rfl) dX8_sure_13 (fun I_2 J_2 h_2 => ?_)
    obtain ⟨hz_2, eJ_2⟩ := h_2
    replace eJ_2 := eJ_2.symm; subst eJ_2
    obtain ⟨h82_2, hfr_2, hH_2⟩ := id hz_2
    have hN_2 : I_2 82 0 = nI n := by rw [h82_2, upd_n (by decide)]; exact hN
    have hS_2 : I_2 82 25 = nI (aSteps A) := by rw [h82_2]; exact upd_s
    have hHd_2 : ∀ a, a < n → I_2 85 a = oM (hd a) := fun a ha => by rw [hfr_2 85 (by decide) (by decide) (by decide) (by decide)]; exact hHd a ha
    refine z_aload_n C dX8_sure_16 rfl 0 rfl ?_
    refine z_iconst C (v := 0) dX8_sure_17 (by decide) ?_
    refine z_callVv C hm cl_X8_281 cv_X8_spread 82 (by decide) sh82 ⟨_, _, rfl⟩ [.int 0] rfl (rest := []) rfl (k_X8_spread w _ _ n (aSteps A) A jn hd 0 (by decide) (by exact hN_2) hn (by exact hS_2) (aSteps_le A) (by exact hH_2) (mHeld_ok hM) (by exact hHd_2) hd99) ⟨rfl, rfl, Nat.le_of_ble_eq_true rfl, Nat.le_of_ble_eq_true rfl⟩ (Nat.le_of_ble_eq_true rfl) dX8_sure_18 (fun I_3 J_3 h_3 => ?_)
    obtain ⟨⟨R_3, eI_3, hR_3⟩, eJ_3⟩ := h_3
    replace eI_3 := eI_3.symm; subst eI_3
    replace eJ_3 := eJ_3.symm; subst eJ_3
    refine z_iconst C (v := 0) dX8_sure_21 (by decide) ?_
    refine z_istore_n C hm (lv' := [(2, .int 0), (0, .ref (zad w 82)), (1, .int wh)]) dX8_sure_22 rfl (by decide) rfl ?_
    have hLf : frM (zup I_2 97 R_3) I := (frM_z (by decide) (frM_l hz_2))
    have hY0 : mY (zup I_2 97 R_3) n A jn hd := mY_s hS_2 hR_3
    have hT0 : (zup I_2 97 R_3) 82 27 = nI tr := (mS_f hLf hS).2.1
    refine z_iconst C (v := 0) dX8_sure_23 (by decide) ?_
    refine z_istore_n C hm (lv' := [(3, .int 0), (2, .int 0), (0, .ref (zad w 82)), (1, .int wh)]) dX8_sure_24 rfl (by decide) rfl ?_
    have L25 : ∀ (d : Nat) (t : Nat) (K : zI) (v25_2 : Int32) (v25_3 : Int32) (I25 : zI), (tr - t) < d → (t ≤ tr) → (frH K (zup I_2 97 R_3)) → v25_2 = nI (zset (fun t => pB (pcif (wh = 0) (zb (zset (zKs A tr lt hd bu ho lo fr (ern 0 n jn A hd) t) 7) 3 = true ∧ zb (zset (zKs A tr lt hd bu ho lo fr (ern 0 n jn A hd) t) 7) 1 = false ∧ zb (zset (zKs A tr lt hd bu ho lo fr (ern 0 n jn A hd) t) 7) 2 = false) (zb (zset (zKs A tr lt hd bu ho lo fr (ern 0 n jn A hd) t) 7) (kd t) = false))) t) → v25_3 = nI t → I25 = K → Z X w I25 J 25 [(0, .ref (zad w 82)), (1, .int wh), (2, .int v25_2), (3, .int v25_3)] [] := by
      intro d
      induction d with
      | zero => intro t K v25_2 v25_3 I25 hd; exact absurd hd (Nat.not_lt_zero _)
      | succ d ih25 => 
        intro t K v25_2 v25_3 I25 hd25 ht hKf e_v25_2 e_v25_3 e_I25
        replace e_v25_2 := e_v25_2.symm; subst e_v25_2
        replace e_v25_3 := e_v25_3.symm; subst e_v25_3
        replace e_I25 := e_I25.symm; subst e_I25
        refine z_iload_n C dX8_sure_25 rfl 3 rfl ?_
        refine z_aload_n C dX8_sure_26 rfl 0 rfl ?_
        refine z_geti C ff_X8_93 82 (by decide) sh82 rfl (v := nI tr) (by rw [hKf 82 (by decide) (by decide)]; exact hT0) dX8_sure_27 ?_
        refine z_icmp_ge_n t tr (tgt := 125) C rfl rfl (by omega) (by omega) dX8_sure_30 (by decide) (fun c30 => ?_) (fun c30 => ?_)
        · skip
          have hte : t = tr := by omega
          refine z_iload_n C dX8_sure_125 rfl 2 rfl ?_
          refine z_iret C hr rfl dX8_sure_126 ?_
          refine ⟨_, rfl, ?_⟩
          exact ⟨by rw [cif_t c7, hte], rfl, frM_tr (frM_h hKf) hLf⟩
        · skip
          have hz7 := fun P => zset_lt (P := P) 7
          have hkd7 := (hKd t (by omega)).2
          refine z_aload_n C dX8_sure_33 rfl 0 rfl ?_
          refine z_iload_n C dX8_sure_34 rfl 3 rfl ?_
          refine z_callVi C hm cl_X8_305 cv_X8_allOf 82 (by decide) sh82 ⟨_, _, rfl⟩ [.int (nI t)] rfl (rest := []) rfl (k_X8_allOf w _ _ n tr h A jn lt hd bu ho lo fr t hn htr hh hd99 (mS_f (frM_tr (frM_h hKf) hLf) hS) (mY_f hKf hY0) (by omega)) ⟨rfl, rfl, Nat.le_of_ble_eq_true rfl, Nat.le_of_ble_eq_true rfl⟩ (Nat.le_of_ble_eq_true rfl) dX8_sure_35 (fun v_4 I_4 J_4 h_4 => ?_)
          obtain ⟨ev_4, hf_4, eJ_4⟩ := h_4
          replace ev_4 := ev_4.symm; subst ev_4
          replace eJ_4 := eJ_4.symm; subst eJ_4
          refine z_istore C hm (lv' := [(4, .int (nI (zset (zKs A tr lt hd bu ho lo fr (ern 0 n jn A hd) t) 7))), (0, .ref (zad w 82)), (1, .int wh), (2, .int (nI (zset (fun t => pB (pcif (wh = 0) (zb (zset (zKs A tr lt hd bu ho lo fr (ern 0 n jn A hd) t) 7) 3 = true ∧ zb (zset (zKs A tr lt hd bu ho lo fr (ern 0 n jn A hd) t) 7) 1 = false ∧ zb (zset (zKs A tr lt hd bu ho lo fr (ern 0 n jn A hd) t) 7) 2 = false) (zb (zset (zKs A tr lt hd bu ho lo fr (ern 0 n jn A hd) t) 7) (kd t) = false))) t))), (3, .int (nI t))]) dX8_sure_38 (by decide) rfl ?_
          refine z_iload_n C dX8_sure_40 rfl 2 rfl ?_
          refine z_if_ne (tgt := 82) C dX8_sure_41 (by decide) (fun c41 => ?_) (fun c41 => ?_)
          · skip
            refine z_aload_n C dX8_sure_82 rfl 1 rfl ?_
            refine z_iload C dX8_sure_83 0 rfl ?_
            refine z_aload_n C dX8_sure_85 rfl 1 rfl ?_
            refine z_getr C ff_X8_96 82 (by decide) sh82 rfl dX8_sure_86 ?_
            refine z_iload_n C dX8_sure_89 rfl 4 rfl ?_
            refine z_iald C 100 (by decide) sh100 t (by omega) (by decide) rfl (v := nI (kd t)) (by rw [hf_4 100 (by decide) (by decide), hKf 100 (by decide) (by decide), hLf.1 100 (by decide) (by decide)]; exact (hKd t (by omega)).1) dX8_sure_90 ?_
            refine z_callVi C hm cl_X8_275 cv_X8_has 82 (by decide) sh82 ⟨_, _, rfl⟩ [.int (nI (zset (zKs A tr lt hd bu ho lo fr (ern 0 n jn A hd) t) 7)), .int (nI (kd t))] rfl (rest := []) rfl (k_X8_has w _ _  (zset (zKs A tr lt hd bu ho lo fr (ern 0 n jn A hd) t) 7) (kd t) (by have := hz7 (zKs A tr lt hd bu ho lo fr (ern 0 n jn A hd) t); omega) (by omega)) ⟨rfl, rfl, Nat.le_of_ble_eq_true rfl, Nat.le_of_ble_eq_true rfl⟩ (Nat.le_of_ble_eq_true rfl) dX8_sure_91 (fun v_5 I_5 J_5 h_5 => ?_)
            obtain ⟨ev_5, ei_5, ej_5⟩ := h_5
            replace ev_5 := ev_5.symm; subst ev_5
            replace ei_5 := ei_5.symm; subst ei_5
            replace ej_5 := ej_5.symm; subst ej_5
            refine z_ifne_b (tgt := 101) C dX8_sure_94 (by decide) (fun c94 => ?_) (fun c94 => ?_)
            · skip
              refine z_iconst C (v := 0) dX8_sure_101 (by decide) ?_
              refine z_istore C hm (lv' := [(5, .int 0), (4, .int (nI (zset (zKs A tr lt hd bu ho lo fr (ern 0 n jn A hd) t) 7))), (0, .ref (zad w 82)), (1, .int wh), (2, .int (nI (zset (fun t => pB (pcif (wh = 0) (zb (zset (zKs A tr lt hd bu ho lo fr (ern 0 n jn A hd) t) 7) 3 = true ∧ zb (zset (zKs A tr lt hd bu ho lo fr (ern 0 n jn A hd) t) 7) 1 = false ∧ zb (zset (zKs A tr lt hd bu ho lo fr (ern 0 n jn A hd) t) 7) 2 = false) (zb (zset (zKs A tr lt hd bu ho lo fr (ern 0 n jn A hd) t) 7) (kd t) = false))) t))), (3, .int (nI t))]) dX8_sure_102 (by decide) rfl ?_
              refine z_iload_n C dX8_sure_104 rfl 4 rfl ?_
              refine z_iload C dX8_sure_105 0 rfl ?_
              refine z_if_eq (tgt := 116) C dX8_sure_107 (by decide) (fun c107 => ?_) (fun c107 => ?_)
              · skip
                refine z_iconst C (v := 0) dX8_sure_116 (by decide) ?_
                refine z_ior C dX8_sure_117 ?_
                refine z_istore_n C hm (lv' := [(2, .int ((nI (zset (fun t => pB (pcif (wh = 0) (zb (zset (zKs A tr lt hd bu ho lo fr (ern 0 n jn A hd) t) 7) 3 = true ∧ zb (zset (zKs A tr lt hd bu ho lo fr (ern 0 n jn A hd) t) 7) 1 = false ∧ zb (zset (zKs A tr lt hd bu ho lo fr (ern 0 n jn A hd) t) 7) 2 = false) (zb (zset (zKs A tr lt hd bu ho lo fr (ern 0 n jn A hd) t) 7) (kd t) = false))) t)) ||| 0)), (5, .int 0), (4, .int (nI (zset (zKs A tr lt hd bu ho lo fr (ern 0 n jn A hd) t) 7))), (0, .ref (zad w 82)), (1, .int wh), (3, .int (nI t))]) dX8_sure_118 rfl (by decide) rfl ?_
                refine z_iinc C hm 5 (v := nI (t + 1)) (lv' := [(3, .int (nI (t + 1))), (2, .int ((nI (zset (fun t => pB (pcif (wh = 0) (zb (zset (zKs A tr lt hd bu ho lo fr (ern 0 n jn A hd) t) 7) 3 = true ∧ zb (zset (zKs A tr lt hd bu ho lo fr (ern 0 n jn A hd) t) 7) 1 = false ∧ zb (zset (zKs A tr lt hd bu ho lo fr (ern 0 n jn A hd) t) 7) 2 = false) (zb (zset (zKs A tr lt hd bu ho lo fr (ern 0 n jn A hd) t) 7) (kd t) = false))) t)) ||| 0)), (5, .int 0), (4, .int (nI (zset (zKs A tr lt hd bu ho lo fr (ern 0 n jn A hd) t) 7))), (0, .ref (zad w 82)), (1, .int wh)]) dX8_sure_119 rfl (nI_add t 1) (by decide) rfl ?_
                refine z_goto (tgt := 25) C dX8_sure_122 (by decide) ?_
                exact z_sub [4, 5, 1, 0] rfl (ih25  (t + 1) _ _ _ _ (by omega) (by omega) (frH_tr hf_4 hKf) (by rw [zset, if_neg (fun q0 => by have q := pB_i.mp q0; rw [pcif_f c41, c94] at q; cases q), Nat.add_zero]; exact or_0 _) rfl rfl)
              · skip
                exact absurd rfl c107
            · skip
              refine z_iconst C (v := 1) dX8_sure_97 (by decide) ?_
              refine z_goto (tgt := 102) C dX8_sure_98 (by decide) ?_
              refine z_istore C hm (lv' := [(5, .int 1), (4, .int (nI (zset (zKs A tr lt hd bu ho lo fr (ern 0 n jn A hd) t) 7))), (0, .ref (zad w 82)), (1, .int wh), (2, .int (nI (zset (fun t => pB (pcif (wh = 0) (zb (zset (zKs A tr lt hd bu ho lo fr (ern 0 n jn A hd) t) 7) 3 = true ∧ zb (zset (zKs A tr lt hd bu ho lo fr (ern 0 n jn A hd) t) 7) 1 = false ∧ zb (zset (zKs A tr lt hd bu ho lo fr (ern 0 n jn A hd) t) 7) 2 = false) (zb (zset (zKs A tr lt hd bu ho lo fr (ern 0 n jn A hd) t) 7) (kd t) = false))) t))), (3, .int (nI t))]) dX8_sure_102 (by decide) rfl ?_
              refine z_iload_n C dX8_sure_104 rfl 4 rfl ?_
              refine z_iload C dX8_sure_105 0 rfl ?_
              refine z_if_eq (tgt := 116) C dX8_sure_107 (by decide) (fun c107 => ?_) (fun c107 => ?_)
              · skip
                exact absurd c107 (by decide)
              · skip
                refine z_iconst C (v := 1) dX8_sure_110 (by decide) ?_
                refine z_iload_n C dX8_sure_111 rfl 5 rfl ?_
                refine z_ishl C dX8_sure_112 ?_
                refine z_goto (tgt := 117) C dX8_sure_113 (by decide) ?_
                refine z_ior C dX8_sure_117 ?_
                refine z_istore_n C hm (lv' := [(2, .int ((nI (zset (fun t => pB (pcif (wh = 0) (zb (zset (zKs A tr lt hd bu ho lo fr (ern 0 n jn A hd) t) 7) 3 = true ∧ zb (zset (zKs A tr lt hd bu ho lo fr (ern 0 n jn A hd) t) 7) 1 = false ∧ zb (zset (zKs A tr lt hd bu ho lo fr (ern 0 n jn A hd) t) 7) 2 = false) (zb (zset (zKs A tr lt hd bu ho lo fr (ern 0 n jn A hd) t) 7) (kd t) = false))) t)) ||| (1 <<< ((nI t) &&& 31)))), (5, .int 1), (4, .int (nI (zset (zKs A tr lt hd bu ho lo fr (ern 0 n jn A hd) t) 7))), (0, .ref (zad w 82)), (1, .int wh), (3, .int (nI t))]) dX8_sure_118 rfl (by decide) rfl ?_
                refine z_iinc C hm 5 (v := nI (t + 1)) (lv' := [(3, .int (nI (t + 1))), (2, .int ((nI (zset (fun t => pB (pcif (wh = 0) (zb (zset (zKs A tr lt hd bu ho lo fr (ern 0 n jn A hd) t) 7) 3 = true ∧ zb (zset (zKs A tr lt hd bu ho lo fr (ern 0 n jn A hd) t) 7) 1 = false ∧ zb (zset (zKs A tr lt hd bu ho lo fr (ern 0 n jn A hd) t) 7) 2 = false) (zb (zset (zKs A tr lt hd bu ho lo fr (ern 0 n jn A hd) t) 7) (kd t) = false))) t)) ||| (1 <<< ((nI t) &&& 31)))), (5, .int 1), (4, .int (nI (zset (zKs A tr lt hd bu ho lo fr (ern 0 n jn A hd) t) 7))), (0, .ref (zad w 82)), (1, .int wh)]) dX8_sure_119 rfl (nI_add t 1) (by decide) rfl ?_
                refine z_goto (tgt := 25) C dX8_sure_122 (by decide) ?_
                exact z_sub [4, 5, 1, 0] rfl (ih25  (t + 1) _ _ _ _ (by omega) (by omega) (frH_tr hf_4 hKf) (by rw [zset, if_pos (pB_t (by rw [pcif_f c41]; exact eq_false_of_ne_true c94))]; exact or_bit (zset_lt t) (by omega)) rfl rfl)
          · skip
            refine z_aload_n C dX8_sure_44 rfl 1 rfl ?_
            refine z_iload C dX8_sure_45 0 rfl ?_
            refine z_iconst C (v := 3) dX8_sure_47 (by decide) ?_
            refine z_callVi C hm cl_X8_275 cv_X8_has 82 (by decide) sh82 ⟨_, _, rfl⟩ [.int (nI (zset (zKs A tr lt hd bu ho lo fr (ern 0 n jn A hd) t) 7)), .int 3] rfl (rest := []) rfl (k_X8_has w _ _  (zset (zKs A tr lt hd bu ho lo fr (ern 0 n jn A hd) t) 7) 3 (by have := hz7 (zKs A tr lt hd bu ho lo fr (ern 0 n jn A hd) t); omega) (by decide)) ⟨rfl, rfl, Nat.le_of_ble_eq_true rfl, Nat.le_of_ble_eq_true rfl⟩ (Nat.le_of_ble_eq_true rfl) dX8_sure_48 (fun v_6 I_6 J_6 h_6 => ?_)
            obtain ⟨ev_6, ei_6, ej_6⟩ := h_6
            replace ev_6 := ev_6.symm; subst ev_6
            replace ei_6 := ei_6.symm; subst ei_6
            replace ej_6 := ej_6.symm; subst ej_6
            refine z_ifeq_b (tgt := 78) C dX8_sure_51 (by decide) (fun c51 => ?_) (fun c51 => ?_)
            · skip
              refine z_iconst C (v := 0) dX8_sure_78 (by decide) ?_
              refine z_goto (tgt := 102) C dX8_sure_79 (by decide) ?_
              refine z_istore C hm (lv' := [(5, .int 0), (4, .int (nI (zset (zKs A tr lt hd bu ho lo fr (ern 0 n jn A hd) t) 7))), (0, .ref (zad w 82)), (1, .int wh), (2, .int (nI (zset (fun t => pB (pcif (wh = 0) (zb (zset (zKs A tr lt hd bu ho lo fr (ern 0 n jn A hd) t) 7) 3 = true ∧ zb (zset (zKs A tr lt hd bu ho lo fr (ern 0 n jn A hd) t) 7) 1 = false ∧ zb (zset (zKs A tr lt hd bu ho lo fr (ern 0 n jn A hd) t) 7) 2 = false) (zb (zset (zKs A tr lt hd bu ho lo fr (ern 0 n jn A hd) t) 7) (kd t) = false))) t))), (3, .int (nI t))]) dX8_sure_102 (by decide) rfl ?_
              refine z_iload_n C dX8_sure_104 rfl 4 rfl ?_
              refine z_iload C dX8_sure_105 0 rfl ?_
              refine z_if_eq (tgt := 116) C dX8_sure_107 (by decide) (fun c107 => ?_) (fun c107 => ?_)
              · skip
                refine z_iconst C (v := 0) dX8_sure_116 (by decide) ?_
                refine z_ior C dX8_sure_117 ?_
                refine z_istore_n C hm (lv' := [(2, .int ((nI (zset (fun t => pB (pcif (wh = 0) (zb (zset (zKs A tr lt hd bu ho lo fr (ern 0 n jn A hd) t) 7) 3 = true ∧ zb (zset (zKs A tr lt hd bu ho lo fr (ern 0 n jn A hd) t) 7) 1 = false ∧ zb (zset (zKs A tr lt hd bu ho lo fr (ern 0 n jn A hd) t) 7) 2 = false) (zb (zset (zKs A tr lt hd bu ho lo fr (ern 0 n jn A hd) t) 7) (kd t) = false))) t)) ||| 0)), (5, .int 0), (4, .int (nI (zset (zKs A tr lt hd bu ho lo fr (ern 0 n jn A hd) t) 7))), (0, .ref (zad w 82)), (1, .int wh), (3, .int (nI t))]) dX8_sure_118 rfl (by decide) rfl ?_
                refine z_iinc C hm 5 (v := nI (t + 1)) (lv' := [(3, .int (nI (t + 1))), (2, .int ((nI (zset (fun t => pB (pcif (wh = 0) (zb (zset (zKs A tr lt hd bu ho lo fr (ern 0 n jn A hd) t) 7) 3 = true ∧ zb (zset (zKs A tr lt hd bu ho lo fr (ern 0 n jn A hd) t) 7) 1 = false ∧ zb (zset (zKs A tr lt hd bu ho lo fr (ern 0 n jn A hd) t) 7) 2 = false) (zb (zset (zKs A tr lt hd bu ho lo fr (ern 0 n jn A hd) t) 7) (kd t) = false))) t)) ||| 0)), (5, .int 0), (4, .int (nI (zset (zKs A tr lt hd bu ho lo fr (ern 0 n jn A hd) t) 7))), (0, .ref (zad w 82)), (1, .int wh)]) dX8_sure_119 rfl (nI_add t 1) (by decide) rfl ?_
                refine z_goto (tgt := 25) C dX8_sure_122 (by decide) ?_
                exact z_sub [4, 5, 1, 0] rfl (ih25  (t + 1) _ _ _ _ (by omega) (by omega) (frH_tr hf_4 hKf) (by rw [zset, if_neg (fun q0 => by have q := pB_i.mp q0; rw [pcif_t c41] at q; exact c51 q.1), Nat.add_zero]; exact or_0 _) rfl rfl)
              · skip
                exact absurd rfl c107
            · skip
              refine z_aload_n C dX8_sure_54 rfl 1 rfl ?_
              refine z_iload C dX8_sure_55 0 rfl ?_
              refine z_iconst C (v := 1) dX8_sure_57 (by decide) ?_
              refine z_callVi C hm cl_X8_275 cv_X8_has 82 (by decide) sh82 ⟨_, _, rfl⟩ [.int (nI (zset (zKs A tr lt hd bu ho lo fr (ern 0 n jn A hd) t) 7)), .int 1] rfl (rest := []) rfl (k_X8_has w _ _  (zset (zKs A tr lt hd bu ho lo fr (ern 0 n jn A hd) t) 7) 1 (by have := hz7 (zKs A tr lt hd bu ho lo fr (ern 0 n jn A hd) t); omega) (by decide)) ⟨rfl, rfl, Nat.le_of_ble_eq_true rfl, Nat.le_of_ble_eq_true rfl⟩ (Nat.le_of_ble_eq_true rfl) dX8_sure_58 (fun v_7 I_7 J_7 h_7 => ?_)
              obtain ⟨ev_7, ei_7, ej_7⟩ := h_7
              replace ev_7 := ev_7.symm; subst ev_7
              replace ei_7 := ei_7.symm; subst ei_7
              replace ej_7 := ej_7.symm; subst ej_7
              refine z_ifne_b (tgt := 78) C dX8_sure_61 (by decide) (fun c61 => ?_) (fun c61 => ?_)
              · skip
                refine z_iconst C (v := 0) dX8_sure_78 (by decide) ?_
                refine z_goto (tgt := 102) C dX8_sure_79 (by decide) ?_
                refine z_istore C hm (lv' := [(5, .int 0), (4, .int (nI (zset (zKs A tr lt hd bu ho lo fr (ern 0 n jn A hd) t) 7))), (0, .ref (zad w 82)), (1, .int wh), (2, .int (nI (zset (fun t => pB (pcif (wh = 0) (zb (zset (zKs A tr lt hd bu ho lo fr (ern 0 n jn A hd) t) 7) 3 = true ∧ zb (zset (zKs A tr lt hd bu ho lo fr (ern 0 n jn A hd) t) 7) 1 = false ∧ zb (zset (zKs A tr lt hd bu ho lo fr (ern 0 n jn A hd) t) 7) 2 = false) (zb (zset (zKs A tr lt hd bu ho lo fr (ern 0 n jn A hd) t) 7) (kd t) = false))) t))), (3, .int (nI t))]) dX8_sure_102 (by decide) rfl ?_
                refine z_iload_n C dX8_sure_104 rfl 4 rfl ?_
                refine z_iload C dX8_sure_105 0 rfl ?_
                refine z_if_eq (tgt := 116) C dX8_sure_107 (by decide) (fun c107 => ?_) (fun c107 => ?_)
                · skip
                  refine z_iconst C (v := 0) dX8_sure_116 (by decide) ?_
                  refine z_ior C dX8_sure_117 ?_
                  refine z_istore_n C hm (lv' := [(2, .int ((nI (zset (fun t => pB (pcif (wh = 0) (zb (zset (zKs A tr lt hd bu ho lo fr (ern 0 n jn A hd) t) 7) 3 = true ∧ zb (zset (zKs A tr lt hd bu ho lo fr (ern 0 n jn A hd) t) 7) 1 = false ∧ zb (zset (zKs A tr lt hd bu ho lo fr (ern 0 n jn A hd) t) 7) 2 = false) (zb (zset (zKs A tr lt hd bu ho lo fr (ern 0 n jn A hd) t) 7) (kd t) = false))) t)) ||| 0)), (5, .int 0), (4, .int (nI (zset (zKs A tr lt hd bu ho lo fr (ern 0 n jn A hd) t) 7))), (0, .ref (zad w 82)), (1, .int wh), (3, .int (nI t))]) dX8_sure_118 rfl (by decide) rfl ?_
                  refine z_iinc C hm 5 (v := nI (t + 1)) (lv' := [(3, .int (nI (t + 1))), (2, .int ((nI (zset (fun t => pB (pcif (wh = 0) (zb (zset (zKs A tr lt hd bu ho lo fr (ern 0 n jn A hd) t) 7) 3 = true ∧ zb (zset (zKs A tr lt hd bu ho lo fr (ern 0 n jn A hd) t) 7) 1 = false ∧ zb (zset (zKs A tr lt hd bu ho lo fr (ern 0 n jn A hd) t) 7) 2 = false) (zb (zset (zKs A tr lt hd bu ho lo fr (ern 0 n jn A hd) t) 7) (kd t) = false))) t)) ||| 0)), (5, .int 0), (4, .int (nI (zset (zKs A tr lt hd bu ho lo fr (ern 0 n jn A hd) t) 7))), (0, .ref (zad w 82)), (1, .int wh)]) dX8_sure_119 rfl (nI_add t 1) (by decide) rfl ?_
                  refine z_goto (tgt := 25) C dX8_sure_122 (by decide) ?_
                  exact z_sub [4, 5, 1, 0] rfl (ih25  (t + 1) _ _ _ _ (by omega) (by omega) (frH_tr hf_4 hKf) (by rw [zset, if_neg (fun q0 => by have q := pB_i.mp q0; rw [pcif_t c41] at q; exact (by have := q.2.1; rw [c61] at this; cases this)), Nat.add_zero]; exact or_0 _) rfl rfl)
                · skip
                  exact absurd rfl c107
              · skip
                refine z_aload_n C dX8_sure_64 rfl 1 rfl ?_
                refine z_iload C dX8_sure_65 0 rfl ?_
                refine z_iconst C (v := 2) dX8_sure_67 (by decide) ?_
                refine z_callVi C hm cl_X8_275 cv_X8_has 82 (by decide) sh82 ⟨_, _, rfl⟩ [.int (nI (zset (zKs A tr lt hd bu ho lo fr (ern 0 n jn A hd) t) 7)), .int 2] rfl (rest := []) rfl (k_X8_has w _ _  (zset (zKs A tr lt hd bu ho lo fr (ern 0 n jn A hd) t) 7) 2 (by have := hz7 (zKs A tr lt hd bu ho lo fr (ern 0 n jn A hd) t); omega) (by decide)) ⟨rfl, rfl, Nat.le_of_ble_eq_true rfl, Nat.le_of_ble_eq_true rfl⟩ (Nat.le_of_ble_eq_true rfl) dX8_sure_68 (fun v_8 I_8 J_8 h_8 => ?_)
                obtain ⟨ev_8, ei_8, ej_8⟩ := h_8
                replace ev_8 := ev_8.symm; subst ev_8
                replace ei_8 := ei_8.symm; subst ei_8
                replace ej_8 := ej_8.symm; subst ej_8
                refine z_ifne_b (tgt := 78) C dX8_sure_71 (by decide) (fun c71 => ?_) (fun c71 => ?_)
                · skip
                  refine z_iconst C (v := 0) dX8_sure_78 (by decide) ?_
                  refine z_goto (tgt := 102) C dX8_sure_79 (by decide) ?_
                  refine z_istore C hm (lv' := [(5, .int 0), (4, .int (nI (zset (zKs A tr lt hd bu ho lo fr (ern 0 n jn A hd) t) 7))), (0, .ref (zad w 82)), (1, .int wh), (2, .int (nI (zset (fun t => pB (pcif (wh = 0) (zb (zset (zKs A tr lt hd bu ho lo fr (ern 0 n jn A hd) t) 7) 3 = true ∧ zb (zset (zKs A tr lt hd bu ho lo fr (ern 0 n jn A hd) t) 7) 1 = false ∧ zb (zset (zKs A tr lt hd bu ho lo fr (ern 0 n jn A hd) t) 7) 2 = false) (zb (zset (zKs A tr lt hd bu ho lo fr (ern 0 n jn A hd) t) 7) (kd t) = false))) t))), (3, .int (nI t))]) dX8_sure_102 (by decide) rfl ?_
                  refine z_iload_n C dX8_sure_104 rfl 4 rfl ?_
                  refine z_iload C dX8_sure_105 0 rfl ?_
                  refine z_if_eq (tgt := 116) C dX8_sure_107 (by decide) (fun c107 => ?_) (fun c107 => ?_)
                  · skip
                    refine z_iconst C (v := 0) dX8_sure_116 (by decide) ?_
                    refine z_ior C dX8_sure_117 ?_
                    refine z_istore_n C hm (lv' := [(2, .int ((nI (zset (fun t => pB (pcif (wh = 0) (zb (zset (zKs A tr lt hd bu ho lo fr (ern 0 n jn A hd) t) 7) 3 = true ∧ zb (zset (zKs A tr lt hd bu ho lo fr (ern 0 n jn A hd) t) 7) 1 = false ∧ zb (zset (zKs A tr lt hd bu ho lo fr (ern 0 n jn A hd) t) 7) 2 = false) (zb (zset (zKs A tr lt hd bu ho lo fr (ern 0 n jn A hd) t) 7) (kd t) = false))) t)) ||| 0)), (5, .int 0), (4, .int (nI (zset (zKs A tr lt hd bu ho lo fr (ern 0 n jn A hd) t) 7))), (0, .ref (zad w 82)), (1, .int wh), (3, .int (nI t))]) dX8_sure_118 rfl (by decide) rfl ?_
                    refine z_iinc C hm 5 (v := nI (t + 1)) (lv' := [(3, .int (nI (t + 1))), (2, .int ((nI (zset (fun t => pB (pcif (wh = 0) (zb (zset (zKs A tr lt hd bu ho lo fr (ern 0 n jn A hd) t) 7) 3 = true ∧ zb (zset (zKs A tr lt hd bu ho lo fr (ern 0 n jn A hd) t) 7) 1 = false ∧ zb (zset (zKs A tr lt hd bu ho lo fr (ern 0 n jn A hd) t) 7) 2 = false) (zb (zset (zKs A tr lt hd bu ho lo fr (ern 0 n jn A hd) t) 7) (kd t) = false))) t)) ||| 0)), (5, .int 0), (4, .int (nI (zset (zKs A tr lt hd bu ho lo fr (ern 0 n jn A hd) t) 7))), (0, .ref (zad w 82)), (1, .int wh)]) dX8_sure_119 rfl (nI_add t 1) (by decide) rfl ?_
                    refine z_goto (tgt := 25) C dX8_sure_122 (by decide) ?_
                    exact z_sub [4, 5, 1, 0] rfl (ih25  (t + 1) _ _ _ _ (by omega) (by omega) (frH_tr hf_4 hKf) (by rw [zset, if_neg (fun q0 => by have q := pB_i.mp q0; rw [pcif_t c41] at q; exact (by have := q.2.2; rw [c71] at this; cases this)), Nat.add_zero]; exact or_0 _) rfl rfl)
                  · skip
                    exact absurd rfl c107
                · skip
                  refine z_iconst C (v := 1) dX8_sure_74 (by decide) ?_
                  refine z_goto (tgt := 102) C dX8_sure_75 (by decide) ?_
                  refine z_istore C hm (lv' := [(5, .int 1), (4, .int (nI (zset (zKs A tr lt hd bu ho lo fr (ern 0 n jn A hd) t) 7))), (0, .ref (zad w 82)), (1, .int wh), (2, .int (nI (zset (fun t => pB (pcif (wh = 0) (zb (zset (zKs A tr lt hd bu ho lo fr (ern 0 n jn A hd) t) 7) 3 = true ∧ zb (zset (zKs A tr lt hd bu ho lo fr (ern 0 n jn A hd) t) 7) 1 = false ∧ zb (zset (zKs A tr lt hd bu ho lo fr (ern 0 n jn A hd) t) 7) 2 = false) (zb (zset (zKs A tr lt hd bu ho lo fr (ern 0 n jn A hd) t) 7) (kd t) = false))) t))), (3, .int (nI t))]) dX8_sure_102 (by decide) rfl ?_
                  refine z_iload_n C dX8_sure_104 rfl 4 rfl ?_
                  refine z_iload C dX8_sure_105 0 rfl ?_
                  refine z_if_eq (tgt := 116) C dX8_sure_107 (by decide) (fun c107 => ?_) (fun c107 => ?_)
                  · skip
                    exact absurd c107 (by decide)
                  · skip
                    refine z_iconst C (v := 1) dX8_sure_110 (by decide) ?_
                    refine z_iload_n C dX8_sure_111 rfl 5 rfl ?_
                    refine z_ishl C dX8_sure_112 ?_
                    refine z_goto (tgt := 117) C dX8_sure_113 (by decide) ?_
                    refine z_ior C dX8_sure_117 ?_
                    refine z_istore_n C hm (lv' := [(2, .int ((nI (zset (fun t => pB (pcif (wh = 0) (zb (zset (zKs A tr lt hd bu ho lo fr (ern 0 n jn A hd) t) 7) 3 = true ∧ zb (zset (zKs A tr lt hd bu ho lo fr (ern 0 n jn A hd) t) 7) 1 = false ∧ zb (zset (zKs A tr lt hd bu ho lo fr (ern 0 n jn A hd) t) 7) 2 = false) (zb (zset (zKs A tr lt hd bu ho lo fr (ern 0 n jn A hd) t) 7) (kd t) = false))) t)) ||| (1 <<< ((nI t) &&& 31)))), (5, .int 1), (4, .int (nI (zset (zKs A tr lt hd bu ho lo fr (ern 0 n jn A hd) t) 7))), (0, .ref (zad w 82)), (1, .int wh), (3, .int (nI t))]) dX8_sure_118 rfl (by decide) rfl ?_
                    refine z_iinc C hm 5 (v := nI (t + 1)) (lv' := [(3, .int (nI (t + 1))), (2, .int ((nI (zset (fun t => pB (pcif (wh = 0) (zb (zset (zKs A tr lt hd bu ho lo fr (ern 0 n jn A hd) t) 7) 3 = true ∧ zb (zset (zKs A tr lt hd bu ho lo fr (ern 0 n jn A hd) t) 7) 1 = false ∧ zb (zset (zKs A tr lt hd bu ho lo fr (ern 0 n jn A hd) t) 7) 2 = false) (zb (zset (zKs A tr lt hd bu ho lo fr (ern 0 n jn A hd) t) 7) (kd t) = false))) t)) ||| (1 <<< ((nI t) &&& 31)))), (5, .int 1), (4, .int (nI (zset (zKs A tr lt hd bu ho lo fr (ern 0 n jn A hd) t) 7))), (0, .ref (zad w 82)), (1, .int wh)]) dX8_sure_119 rfl (nI_add t 1) (by decide) rfl ?_
                    refine z_goto (tgt := 25) C dX8_sure_122 (by decide) ?_
                    exact z_sub [4, 5, 1, 0] rfl (ih25  (t + 1) _ _ _ _ (by omega) (by omega) (frH_tr hf_4 hKf) (by rw [zset, if_pos (pB_t (by rw [pcif_t c41]; exact ⟨c51, eq_false_of_ne_true c61, eq_false_of_ne_true c71⟩))]; exact or_bit (zset_lt t) (by omega)) rfl rfl)
    exact z_sub [2, 3, 1, 0] rfl (L25 _ 0 _ _ _ _ (Nat.lt_succ_self _) (Nat.zero_le _) frH_id rfl rfl rfl)
  · skip
    refine z_iconst C (v := -1) dX8_sure_10 (by decide) ?_
    refine z_iret C hr rfl dX8_sure_11 ?_
    refine ⟨_, rfl, ?_⟩
    exact ⟨by rw [cif_f c7], rfl, frM_id⟩
