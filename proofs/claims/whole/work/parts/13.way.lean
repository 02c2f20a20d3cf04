/-! looking back along the ways -/
def lbI (G : Nat → Nat → Nat) (L : Nat → Nat) (a : Nat) : Nat → Nat
  | 0 => zFar
  | b + 1 => min (lbI G L a b) (G a b + L b)
def lbk (G : Nat → Nat → Nat) (n goal : Nat) : Nat → Nat → Nat
  | 0, c => if c = goal then 0 else zFar
  | u + 1, a => lbI G (lbk G n goal u) a n
theorem lbI_le {G : Nat → Nat → Nat} {L : Nat → Nat} {a : Nat} : ∀ b, lbI G L a b ≤ zFar
  | 0 => Nat.le_refl _
  | b + 1 => Nat.le_trans (Nat.min_le_left _ _) (lbI_le b)
theorem lbk_le {G : Nat → Nat → Nat} {n goal : Nat} : ∀ u c, lbk G n goal u c ≤ zFar
  | 0, c => by rw [lbk]; split <;> simp [zFar]
  | u + 1, c => lbI_le n
/-- the first of the last n - b names whose way goes on as it must; 0 without one -/
def wnx (G : Nat → Nat → Nat) (L : Nat → Nat) (at0 due n : Nat) : Nat → Nat
  | 0 => 0
  | b + 1 => if G at0 (n - (b + 1)) + L (n - (b + 1)) = due then n - (b + 1) else wnx G L at0 due n b
def wlk (G : Nat → Nat → Nat) (n goal used start : Nat) : Nat → Nat
  | 0 => start
  | s + 1 => wnx G (lbk G n goal (used - (s + 1))) (wlk G n goal used start s) (lbk G n goal (used - s) (wlk G n goal used start s)) n n
theorem mn_n {a b : Nat} (ha : a < 2 ^ 31) (hb : b < 2 ^ 31) : (if nI b < nI a then nI b else nI a) = nI (min a b) := by
  by_cases q : b < a
  · rw [if_pos ((nI_ltI hb ha).mpr q), Nat.min_eq_right (by omega)]
  · rw [if_neg (fun z => q ((nI_ltI hb ha).mp z)), Nat.min_eq_left (by omega)]
theorem wnx_lt {G : Nat → Nat → Nat} {L : Nat → Nat} {at0 due n : Nat} (hn : 0 < n) : ∀ b, b ≤ n → wnx G L at0 due n b < n
  | 0, _ => hn
  | b + 1, h => by
    rw [wnx]; split
    · omega
    · exact wnx_lt hn b (by omega)
theorem wlk_lt {G : Nat → Nat → Nat} {n goal used start : Nat} (hs : start < n) : ∀ s, wlk G n goal used start s < n
  | 0 => hs
  | s + 1 => wnx_lt (by omega) n (Nat.le_refl _)
abbrev rm_X3_take : Room := { frames := 8, cells := 0, slots := 0, locals := 303 }
set_option maxRecDepth 100000 in
set_option maxHeartbeats 4000000 in
theorem k_X3_take (w : zW) (I : zI) (J : zJ) (h : Nat) (A : List zCla) (hd : Nat → Option Nat) (n : Nat) (hn : n ≤ 8) (hh : h < 7) (hH : I 5 2 = nI h) (hL : cLaw I h A) (hd7 : ∀ a, a < n → I 7 a = oI (hd a)) (hd99 : ∀ a k, hd a = some k → k ≤ 99) : zMet yX3_take cX3_take 6 none rm_X3_take w [.ref (zad w 23), .ref (zad w 5), .int (nI n)] I J (zpv (fun I' J' => J' = J ∧ ∃ H Gr, I' = zup (zup (zup I 23 (upd (upd (I 23) 6 (nI n)) 7 (nI (aSteps A)))) 25 H) 24 Gr ∧ (∀ a, a < n → H a = nI (oF (hd a))) ∧ ∀ a b, a < n → b < n → Gr (a * 8 + b) = nI (oF (aGo (I 6) A a b)))) := by
  refine zMet_of (by decide) (Nat.le_of_ble_eq_true rfl) (fun X C hm hr => ?_)
  refine z_sub (lv' := [(0, .ref (zad w 23)), (1, .ref (zad w 5)), (2, .int (nI n))]) [0, 1, 2] rfl ?_
  refine z_aload_n C dX3_take_0 rfl 0 rfl ?_
  refine z_iload_n C dX3_take_1 rfl 2 rfl ?_
  refine z_puti C ff_X3_30 23 (by decide) sh23 rfl rfl rfl dX3_take_2 ?_
  refine z_I (I' := zup I 23 (upd (I 23) 6 (nI n))) rfl ?_
  refine z_aload_n C dX3_take_5 rfl 0 rfl ?_
  refine z_aload_n C dX3_take_6 rfl 1 rfl ?_
  refine z_geth C ff_X3_34 5 (by decide) sh5 rfl (q := 47 + 5 * h) (zhd_h hH hh) dX3_take_7 ?_
  refine z_callVi C hm cl_X3_40 cv_X1_mostSteps (47 + 5 * h) (shLn0 hh) (shL0 hh) ⟨_, _, rfl⟩ [] rfl (rest := [.ref (zad w 23)]) rfl (k_X1_mostSteps w _ _ h A  hh (cLaw_z (Or.inl (by decide)) hh hL)) ⟨rfl, rfl, Nat.le_of_ble_eq_true rfl, Nat.le_of_ble_eq_true rfl⟩ (Nat.le_of_ble_eq_true rfl) dX3_take_10 (fun v_1 I_1 J_1 h_1 => ?_)
  obtain ⟨ev_1, ei_1, ej_1⟩ := h_1
  replace ev_1 := ev_1.symm; subst ev_1
  replace ei_1 := ei_1.symm; subst ei_1
  replace ej_1 := ej_1.symm; subst ej_1
  refine z_puti C ff_X3_46 23 (by decide) sh23 rfl rfl rfl dX3_take_13 ?_
  refine z_I (I' := zup I 23 (upd (upd (I 23) 6 (nI n)) 7 (nI (aSteps A)))) (by rw [zup_s, zup_up]) ?_
  refine z_iconst C (v := 0) dX3_take_16 (by decide) ?_
  refine z_istore_n C hm (lv' := [(3, .int 0), (0, .ref (zad w 23)), (1, .ref (zad w 5)), (2, .int (nI n))]) dX3_take_17 rfl (by decide) rfl ?_
  have L18 : ∀ (d : Nat) (a : Nat) (H Gr : Nat → Int32) (v18_3 : Int32) (I18 : zI), (n - a) < d → (a ≤ n) → (∀ c, c < a → H c = nI (oF (hd c))) → (∀ c e, c < a → e < n → Gr (c * 8 + e) = nI (oF (aGo (I 6) A c e))) → v18_3 = nI a → I18 = zup (zup (zup I 23 (upd (upd (I 23) 6 (nI n)) 7 (nI (aSteps A)))) 25 H) 24 Gr → Z X w I18 J 18 [(0, .ref (zad w 23)), (1, .ref (zad w 5)), (2, .int (nI n)), (3, .int v18_3)] [] := by
    intro d
    induction d with
    | zero => intro a H Gr v18_3 I18 hd; exact absurd hd (Nat.not_lt_zero _)
    | succ d ih18 => 
      intro a H Gr v18_3 I18 hd18 ha hHr hGr e_v18_3 e_I18
      replace e_v18_3 := e_v18_3.symm; subst e_v18_3
      replace e_I18 := e_I18.symm; subst e_I18
      refine z_iload_n C dX3_take_18 rfl 3 rfl ?_
      refine z_iload_n C dX3_take_19 rfl 2 rfl ?_
      refine z_icmp_ge_n a n (tgt := 103) C rfl rfl (by omega) (by omega) dX3_take_20 (by decide) (fun c20 => ?_) (fun c20 => ?_)
      · skip
        have han : a = n := by omega
        refine z_vret C hr dX3_take_103 ?_
        refine ⟨rfl, ?_⟩
        subst han; exact ⟨rfl, H, Gr, rfl, hHr, hGr⟩
      · skip
        refine z_aload_n C dX3_take_23 rfl 0 rfl ?_
        refine z_getr C ff_X3_15 23 (by decide) sh23 rfl dX3_take_24 ?_
        refine z_iload_n C dX3_take_27 rfl 3 rfl ?_
        refine z_aload_n C dX3_take_28 rfl 1 rfl ?_
        refine z_getr C ff_X3_49 5 (by decide) sh5 rfl dX3_take_29 ?_
        refine z_iload_n C dX3_take_32 rfl 3 rfl ?_
        refine z_iald C 7 (by decide) sh7 a (by omega) (by decide) rfl (v := oI (hd a)) (by first | exact (hd7 a (by omega)) | (simp [zup, zupJ, upd, vp_updL]; exact (hd7 a (by omega)))) dX3_take_33 ?_
        refine z_if_ge (tgt := 42) C dX3_take_34 (by decide) (fun c34 => ?_) (fun c34 => ?_)
        · skip
          obtain ⟨kk, hkk⟩ := oI_t c34
          have hv34 : oI (hd a) = nI (oF (hd a)) := by rw [hkk]; rfl
          refine z_aload_n C dX3_take_42 rfl 1 rfl ?_
          refine z_getr C ff_X3_49 5 (by decide) sh5 rfl dX3_take_43 ?_
          refine z_iload_n C dX3_take_46 rfl 3 rfl ?_
          refine z_iald C 7 (by decide) sh7 a (by omega) (by decide) rfl (v := oI (hd a)) (by first | exact (hd7 a (by omega)) | (simp [zup, zupJ, upd, vp_updL]; exact (hd7 a (by omega)))) dX3_take_47 ?_
          refine z_iast C 25 (by decide) sh25 a (by omega) (by decide) rfl dX3_take_48 ?_
          refine z_I (I' := zup (zup (zup I 23 (upd (upd (I 23) 6 (nI n)) 7 (nI (aSteps A)))) 25 (upd H a (oI (hd a)))) 24 Gr) (by funext zk; simp only [zup]; split <;> simp_all [zup]) ?_
          refine z_iconst C (v := 0) dX3_take_49 (by decide) ?_
          refine z_istore C hm (lv' := [(4, .int 0), (0, .ref (zad w 23)), (1, .ref (zad w 5)), (2, .int (nI n)), (3, .int (nI a))]) dX3_take_50 (by decide) rfl ?_
          have L52 : ∀ (d : Nat) (b : Nat) (Gr2 : Nat → Int32) (v52_4 : Int32) (I52 : zI), (n - b) < d → (b ≤ n) → (∀ c e, c < a → e < n → Gr2 (c * 8 + e) = nI (oF (aGo (I 6) A c e))) → (∀ e, e < b → Gr2 (a * 8 + e) = nI (oF (aGo (I 6) A a e))) → v52_4 = nI b → I52 = zup (zup (zup I 23 (upd (upd (I 23) 6 (nI n)) 7 (nI (aSteps A)))) 25 (upd H a (oI (hd a)))) 24 Gr2 → Z X w I52 J 52 [(0, .ref (zad w 23)), (1, .ref (zad w 5)), (2, .int (nI n)), (3, .int (nI a)), (4, .int v52_4)] [] := by
            intro d
            induction d with
            | zero => intro b Gr2 v52_4 I52 hd; exact absurd hd (Nat.not_lt_zero _)
            | succ d ih52 => 
              intro b Gr2 v52_4 I52 hd52 hb hG2 hG3 e_v52_4 e_I52
              replace e_v52_4 := e_v52_4.symm; subst e_v52_4
              replace e_I52 := e_I52.symm; subst e_I52
              refine z_iload C dX3_take_52 4 rfl ?_
              refine z_iload_n C dX3_take_54 rfl 2 rfl ?_
              refine z_icmp_ge_n b n (tgt := 97) C rfl rfl (by omega) (by omega) dX3_take_55 (by decide) (fun c55 => ?_) (fun c55 => ?_)
              · skip
                have hbn : b = n := by omega
                refine z_iinc C hm 3 (v := nI (a + 1)) (lv' := [(3, .int (nI (a + 1))), (0, .ref (zad w 23)), (1, .ref (zad w 5)), (2, .int (nI n)), (4, .int (nI b))]) dX3_take_97 rfl (nI_add a 1) (by decide) rfl ?_
                refine z_goto (tgt := 18) C dX3_take_100 (by decide) ?_
                exact z_sub [1, 2, 3, 0] rfl (ih18  (a + 1) (upd H a (oI (hd a))) Gr2 _ _ (by omega) (by omega) (lt_s (fun c hc => by rw [upd_n (by omega)]; exact hHr c hc) (by rw [upd_s]; exact hv34)) (fun c e hc he => by
                    by_cases q : c = a
                    · subst q; exact hG3 e (by omega)
                    · exact hG2 c e (by omega) he) rfl rfl)
              · skip
                refine z_aload_n C dX3_take_58 rfl 1 rfl ?_
                refine z_iload_n C dX3_take_59 rfl 3 rfl ?_
                refine z_iload C dX3_take_60 4 rfl ?_
                refine z_callVi C hm cl_X3_51 cv_X6_hoursBetween 5 (by decide) sh5 ⟨_, _, rfl⟩ [.int (nI a), .int (nI b)] rfl (rest := []) rfl (k_X6_hoursBetween w _ _ h A a b (by omega) (by omega) hh (by exact hH) (cLaw_z (Or.inl (by decide)) hh (cLaw_z (Or.inl (by decide)) hh (cLaw_z (Or.inl (by decide)) hh hL)))) ⟨rfl, rfl, Nat.le_of_ble_eq_true rfl, Nat.le_of_ble_eq_true rfl⟩ (Nat.le_of_ble_eq_true rfl) dX3_take_62 (fun v_2 I_2 J_2 h_2 => ?_)
                obtain ⟨ev_2, ei_2, ej_2⟩ := h_2
                replace ev_2 := ev_2.symm; subst ev_2
                replace ei_2 := ei_2.symm; subst ei_2
                replace ej_2 := ej_2.symm; subst ej_2
                refine z_istore C hm (lv' := [(5, .int (oI (aGo (I 6) A a b))), (0, .ref (zad w 23)), (1, .ref (zad w 5)), (2, .int (nI n)), (3, .int (nI a)), (4, .int (nI b))]) dX3_take_65 (by decide) rfl ?_
                refine z_aload_n C dX3_take_67 rfl 1 rfl ?_
                refine z_getr C ff_X3_9 23 (by decide) sh23 rfl dX3_take_68 ?_
                refine z_iload_n C dX3_take_71 rfl 4 rfl ?_
                refine z_bipush C (v := 8) dX3_take_72 (by decide) ?_
                refine z_imul C dX3_take_74 ?_
                refine z_ti (y := nI (a * 8)) (pk_mul a 8) ?_
                refine z_iload C dX3_take_75 5 rfl ?_
                refine z_iadd C dX3_take_77 ?_
                refine z_ti (y := nI (a * 8 + b)) (nI_add (a * 8) b) ?_
                refine z_iload C dX3_take_78 0 rfl ?_
                refine z_if_ge (tgt := 88) C dX3_take_80 (by decide) (fun c80 => ?_) (fun c80 => ?_)
                · skip
                  obtain ⟨k2, hk2⟩ := oI_t c80
                  have hv80 : oI (aGo (I 6) A a b) = nI (oF (aGo (I 6) A a b)) := by
                    have hk3 : aGo (I 6) A a b = some k2 := hk2
                    rw [hk3]; rfl
                  refine z_iload C dX3_take_88 0 rfl ?_
                  refine z_iast C 24 (by decide) sh24 (a * 8 + b) (by omega) (by decide) rfl dX3_take_90 ?_
                  refine z_I (I' := zup (zup (zup I 23 (upd (upd (I 23) 6 (nI n)) 7 (nI (aSteps A)))) 25 (upd H a (oI (hd a)))) 24 (upd Gr2 (a * 8 + b) (oI (aGo (I 6) A a b)))) (by rw [zup_s, zup_up]) ?_
                  refine z_iinc C hm 5 (v := nI (b + 1)) (lv' := [(4, .int (nI (b + 1))), (5, .int (oI (aGo (I 6) A a b))), (0, .ref (zad w 23)), (1, .ref (zad w 5)), (2, .int (nI n)), (3, .int (nI a))]) dX3_take_91 rfl (nI_add b 1) (by decide) rfl ?_
                  refine z_goto (tgt := 52) C dX3_take_94 (by decide) ?_
                  exact z_sub [2, 3, 4, 5, 0] rfl (ih52  (b + 1) (upd Gr2 (a * 8 + b) (oI (aGo (I 6) A a b))) _ _ (by omega) (by omega) (fun c e hc he => by rw [upd_n (by omega)]; exact hG2 c e hc he) (lt_s (fun e he => by rw [upd_n (by omega)]; exact hG3 e he) (by rw [upd_s]; exact hv80)) rfl rfl)
                · skip
                  have hn2 : aGo (I 6) A a b = none := oI_f (aGo_le hL.1) c80
                  have hv80 : (1000000 : Int32) = nI (oF (aGo (I 6) A a b)) := by rw [hn2]; rfl
                  refine z_ldc C (v := 1000000) kc_X3_50 dX3_take_83 ?_
                  refine z_goto (tgt := 90) C dX3_take_85 (by decide) ?_
                  refine z_iast C 24 (by decide) sh24 (a * 8 + b) (by omega) (by decide) rfl dX3_take_90 ?_
                  refine z_I (I' := zup (zup (zup I 23 (upd (upd (I 23) 6 (nI n)) 7 (nI (aSteps A)))) 25 (upd H a (oI (hd a)))) 24 (upd Gr2 (a * 8 + b) 1000000)) (by rw [zup_s, zup_up]) ?_
                  refine z_iinc C hm 5 (v := nI (b + 1)) (lv' := [(4, .int (nI (b + 1))), (5, .int (oI (aGo (I 6) A a b))), (0, .ref (zad w 23)), (1, .ref (zad w 5)), (2, .int (nI n)), (3, .int (nI a))]) dX3_take_91 rfl (nI_add b 1) (by decide) rfl ?_
                  refine z_goto (tgt := 52) C dX3_take_94 (by decide) ?_
                  exact z_sub [2, 3, 4, 5, 0] rfl (ih52  (b + 1) (upd Gr2 (a * 8 + b) (1000000)) _ _ (by omega) (by omega) (fun c e hc he => by rw [upd_n (by omega)]; exact hG2 c e hc he) (lt_s (fun e he => by rw [upd_n (by omega)]; exact hG3 e he) (by rw [upd_s]; exact hv80)) rfl rfl)
          exact z_sub [1, 2, 3, 4, 0] rfl (L52 _ 0 Gr _ _ (Nat.lt_succ_self _) (by omega) hGr (fun _ h0 => absurd h0 (Nat.not_lt_zero _)) rfl (by funext zk; by_cases h24 : zk = 24 <;> simp [zup, h24]))
        · skip
          have hnn := oI_f (fun k q => (by have := hd99 a k q; omega)) c34
          have hv34 : (1000000 : Int32) = nI (oF (hd a)) := by rw [hnn]; rfl
          refine z_ldc C (v := 1000000) kc_X3_50 dX3_take_37 ?_
          refine z_goto (tgt := 48) C dX3_take_39 (by decide) ?_
          refine z_iast C 25 (by decide) sh25 a (by omega) (by decide) rfl dX3_take_48 ?_
          refine z_I (I' := zup (zup (zup I 23 (upd (upd (I 23) 6 (nI n)) 7 (nI (aSteps A)))) 25 (upd H a 1000000)) 24 Gr) (by funext zk; simp only [zup]; split <;> simp_all [zup]) ?_
          refine z_iconst C (v := 0) dX3_take_49 (by decide) ?_
          refine z_istore C hm (lv' := [(4, .int 0), (0, .ref (zad w 23)), (1, .ref (zad w 5)), (2, .int (nI n)), (3, .int (nI a))]) dX3_take_50 (by decide) rfl ?_
          have L52 : ∀ (d : Nat) (b : Nat) (Gr2 : Nat → Int32) (v52_4 : Int32) (I52 : zI), (n - b) < d → (b ≤ n) → (∀ c e, c < a → e < n → Gr2 (c * 8 + e) = nI (oF (aGo (I 6) A c e))) → (∀ e, e < b → Gr2 (a * 8 + e) = nI (oF (aGo (I 6) A a e))) → v52_4 = nI b → I52 = zup (zup (zup I 23 (upd (upd (I 23) 6 (nI n)) 7 (nI (aSteps A)))) 25 (upd H a 1000000)) 24 Gr2 → Z X w I52 J 52 [(0, .ref (zad w 23)), (1, .ref (zad w 5)), (2, .int (nI n)), (3, .int (nI a)), (4, .int v52_4)] [] := by
            intro d
            induction d with
            | zero => intro b Gr2 v52_4 I52 hd; exact absurd hd (Nat.not_lt_zero _)
            | succ d ih52 => 
              intro b Gr2 v52_4 I52 hd52 hb hG2 hG3 e_v52_4 e_I52
              replace e_v52_4 := e_v52_4.symm; subst e_v52_4
              replace e_I52 := e_I52.symm; subst e_I52
              refine z_iload C dX3_take_52 4 rfl ?_
              refine z_iload_n C dX3_take_54 rfl 2 rfl ?_
              refine z_icmp_ge_n b n (tgt := 97) C rfl rfl (by omega) (by omega) dX3_take_55 (by decide) (fun c55 => ?_) (fun c55 => ?_)
              · skip
                have hbn : b = n := by omega
                refine z_iinc C hm 3 (v := nI (a + 1)) (lv' := [(3, .int (nI (a + 1))), (0, .ref (zad w 23)), (1, .ref (zad w 5)), (2, .int (nI n)), (4, .int (nI b))]) dX3_take_97 rfl (nI_add a 1) (by decide) rfl ?_
                refine z_goto (tgt := 18) C dX3_take_100 (by decide) ?_
                exact z_sub [1, 2, 3, 0] rfl (ih18  (a + 1) (upd H a (1000000)) Gr2 _ _ (by omega) (by omega) (lt_s (fun c hc => by rw [upd_n (by omega)]; exact hHr c hc) (by rw [upd_s]; exact hv34)) (fun c e hc he => by
                    by_cases q : c = a
                    · subst q; exact hG3 e (by omega)
                    · exact hG2 c e (by omega) he) rfl rfl)
              · skip
                refine z_aload_n C dX3_take_58 rfl 1 rfl ?_
                refine z_iload_n C dX3_take_59 rfl 3 rfl ?_
                refine z_iload C dX3_take_60 4 rfl ?_
                refine z_callVi C hm cl_X3_51 cv_X6_hoursBetween 5 (by decide) sh5 ⟨_, _, rfl⟩ [.int (nI a), .int (nI b)] rfl (rest := []) rfl (k_X6_hoursBetween w _ _ h A a b (by omega) (by omega) hh (by exact hH) (cLaw_z (Or.inl (by decide)) hh (cLaw_z (Or.inl (by decide)) hh (cLaw_z (Or.inl (by decide)) hh hL)))) ⟨rfl, rfl, Nat.le_of_ble_eq_true rfl, Nat.le_of_ble_eq_true rfl⟩ (Nat.le_of_ble_eq_true rfl) dX3_take_62 (fun v_3 I_3 J_3 h_3 => ?_)
                obtain ⟨ev_3, ei_3, ej_3⟩ := h_3
                replace ev_3 := ev_3.symm; subst ev_3
                replace ei_3 := ei_3.symm; subst ei_3
                replace ej_3 := ej_3.symm; subst ej_3
                refine z_istore C hm (lv' := [(5, .int (oI (aGo (I 6) A a b))), (0, .ref (zad w 23)), (1, .ref (zad w 5)), (2, .int (nI n)), (3, .int (nI a)), (4, .int (nI b))]) dX3_take_65 (by decide) rfl ?_
                refine z_aload_n C dX3_take_67 rfl 1 rfl ?_
                refine z_getr C ff_X3_9 23 (by decide) sh23 rfl dX3_take_68 ?_
                refine z_iload_n C dX3_take_71 rfl 4 rfl ?_
                refine z_bipush C (v := 8) dX3_take_72 (by decide) ?_
                refine z_imul C dX3_take_74 ?_
                refine z_ti (y := nI (a * 8)) (pk_mul a 8) ?_
                refine z_iload C dX3_take_75 5 rfl ?_
                refine z_iadd C dX3_take_77 ?_
                refine z_ti (y := nI (a * 8 + b)) (nI_add (a * 8) b) ?_
                refine z_iload C dX3_take_78 0 rfl ?_
                refine z_if_ge (tgt := 88) C dX3_take_80 (by decide) (fun c80 => ?_) (fun c80 => ?_)
                · skip
                  obtain ⟨k2, hk2⟩ := oI_t c80
                  have hv80 : oI (aGo (I 6) A a b) = nI (oF (aGo (I 6) A a b)) := by
                    have hk3 : aGo (I 6) A a b = some k2 := hk2
                    rw [hk3]; rfl
                  refine z_iload C dX3_take_88 0 rfl ?_
                  refine z_iast C 24 (by decide) sh24 (a * 8 + b) (by omega) (by decide) rfl dX3_take_90 ?_
                  refine z_I (I' := zup (zup (zup I 23 (upd (upd (I 23) 6 (nI n)) 7 (nI (aSteps A)))) 25 (upd H a 1000000)) 24 (upd Gr2 (a * 8 + b) (oI (aGo (I 6) A a b)))) (by rw [zup_s, zup_up]) ?_
                  refine z_iinc C hm 5 (v := nI (b + 1)) (lv' := [(4, .int (nI (b + 1))), (5, .int (oI (aGo (I 6) A a b))), (0, .ref (zad w 23)), (1, .ref (zad w 5)), (2, .int (nI n)), (3, .int (nI a))]) dX3_take_91 rfl (nI_add b 1) (by decide) rfl ?_
                  refine z_goto (tgt := 52) C dX3_take_94 (by decide) ?_
                  exact z_sub [2, 3, 4, 5, 0] rfl (ih52  (b + 1) (upd Gr2 (a * 8 + b) (oI (aGo (I 6) A a b))) _ _ (by omega) (by omega) (fun c e hc he => by rw [upd_n (by omega)]; exact hG2 c e hc he) (lt_s (fun e he => by rw [upd_n (by omega)]; exact hG3 e he) (by rw [upd_s]; exact hv80)) rfl rfl)
                · skip
                  have hn2 : aGo (I 6) A a b = none := oI_f (aGo_le hL.1) c80
                  have hv80 : (1000000 : Int32) = nI (oF (aGo (I 6) A a b)) := by rw [hn2]; rfl
                  refine z_ldc C (v := 1000000) kc_X3_50 dX3_take_83 ?_
                  refine z_goto (tgt := 90) C dX3_take_85 (by decide) ?_
                  refine z_iast C 24 (by decide) sh24 (a * 8 + b) (by omega) (by decide) rfl dX3_take_90 ?_
                  refine z_I (I' := zup (zup (zup I 23 (upd (upd (I 23) 6 (nI n)) 7 (nI (aSteps A)))) 25 (upd H a 1000000)) 24 (upd Gr2 (a * 8 + b) 1000000)) (by rw [zup_s, zup_up]) ?_
                  refine z_iinc C hm 5 (v := nI (b + 1)) (lv' := [(4, .int (nI (b + 1))), (5, .int (oI (aGo (I 6) A a b))), (0, .ref (zad w 23)), (1, .ref (zad w 5)), (2, .int (nI n)), (3, .int (nI a))]) dX3_take_91 rfl (nI_add b 1) (by decide) rfl ?_
                  refine z_goto (tgt := 52) C dX3_take_94 (by decide) ?_
                  exact z_sub [2, 3, 4, 5, 0] rfl (ih52  (b + 1) (upd Gr2 (a * 8 + b) (1000000)) _ _ (by omega) (by omega) (fun c e hc he => by rw [upd_n (by omega)]; exact hG2 c e hc he) (lt_s (fun e he => by rw [upd_n (by omega)]; exact hG3 e he) (by rw [upd_s]; exact hv80)) rfl rfl)
          exact z_sub [1, 2, 3, 4, 0] rfl (L52 _ 0 Gr _ _ (Nat.lt_succ_self _) (by omega) hGr (fun _ h0 => absurd h0 (Nat.not_lt_zero _)) rfl (by funext zk; by_cases h24 : zk = 24 <;> simp [zup, h24]))
  exact z_sub [1, 2, 3, 0] rfl (L18 _ 0 (I 25) (I 24) _ _ (Nat.lt_succ_self _) (by omega) (fun _ h0 => absurd h0 (Nat.not_lt_zero _)) (fun _ _ h0 => absurd h0 (Nat.not_lt_zero _)) rfl (by funext zk; by_cases h25 : zk = 25 <;> by_cases h24 : zk = 24 <;> simp [zup, h25, h24]))
abbrev rm_X3_lookBack : Room := { frames := 5, cells := 0, slots := 0, locals := 223 }
set_option maxRecDepth 100000 in
set_option maxHeartbeats 4000000 in
theorem k_X3_lookBack (w : zW) (I : zI) (J : zJ) (n st : Nat) (G : Nat → Nat → Nat) (go : Nat) (hn : n ≤ 8) (hN : I 23 6 = nI n) (hS : I 23 7 = nI st) (hst9 : st ≤ 9) (hG : ∀ a b, a < n → b < n → I 24 (a * 8 + b) = nI (G a b)) (hGf : ∀ a b, a < n → b < n → G a b ≤ zFar) (hgo : go < n) : zMet yX3_lookBack cX3_lookBack 7 none rm_X3_lookBack w [.ref (zad w 23), .int (nI go)] I J (zpv (fun I' J' => J' = J ∧ ∃ R, I' = zup I 28 R ∧ ∀ u c, u ≤ st → c < n → R (u * 8 + c) = nI (lbk G n go u c))) := by
  refine zMet_of (by decide) (Nat.le_of_ble_eq_true rfl) (fun X C hm hr => ?_)
  refine z_sub (lv' := [(0, .ref (zad w 23)), (1, .int (nI go))]) [0, 1] rfl ?_
  have hzf : zFar = 1000000 := rfl
  refine z_aload_n C dX3_lookBack_0 rfl 0 rfl ?_
  refine z_getr C ff_X3_24 23 (by decide) sh23 rfl dX3_lookBack_1 ?_
  refine z_ldc C (v := 1000000) kc_X3_50 dX3_lookBack_4 ?_
  refine z_callSv C hm cl_X3_80 cs_J7_fill_53178 [.ref (zad w 28), .int 1000000] rfl (rest := []) rfl (k_J7_fill_53178 w _ _ 28 80 _ (1000000) (by decide) sh28 (by decide)) ⟨rfl, rfl, Nat.le_of_ble_eq_true rfl, Nat.le_of_ble_eq_true rfl⟩ (Nat.le_of_ble_eq_true rfl) dX3_lookBack_6 (fun I_1 J_1 h_1 => ?_)
  obtain ⟨ei_1, ej_1⟩ := h_1
  replace ei_1 := ei_1.symm; subst ei_1
  replace ej_1 := ej_1.symm; subst ej_1
  refine z_aload_n C dX3_lookBack_9 rfl 0 rfl ?_
  refine z_getr C ff_X3_24 23 (by decide) sh23 rfl dX3_lookBack_10 ?_
  refine z_iload_n C dX3_lookBack_13 rfl 1 rfl ?_
  refine z_iconst C (v := 0) dX3_lookBack_14 (by decide) ?_
  refine z_iast C 28 (by decide) sh28 go (by omega) (by decide) rfl dX3_lookBack_15 ?_
  refine z_I (I' := zup I 28 (upd (zfill (1000000) (I 28) 80) go 0)) (by rw [zup_s, zup_up]) ?_
  refine z_iconst C (v := 1) dX3_lookBack_16 (by decide) ?_
  refine z_istore_n C hm (lv' := [(2, .int 1), (0, .ref (zad w 23)), (1, .int (nI go))]) dX3_lookBack_17 rfl (by decide) rfl ?_
  have L18 : ∀ (d : Nat) (u : Nat) (R : Nat → Int32) (v18_2 : Int32) (I18 : zI), (st - u) < d → (u ≤ st) → (∀ v c, v ≤ u → c < n → R (v * 8 + c) = nI (lbk G n go v c)) → v18_2 = nI (u + 1) → I18 = zup I 28 R → Z X w I18 J 18 [(0, .ref (zad w 23)), (1, .int (nI go)), (2, .int v18_2)] [] := by
    intro d
    induction d with
    | zero => intro u R v18_2 I18 hd; exact absurd hd (Nat.not_lt_zero _)
    | succ d ih18 => 
      intro u R v18_2 I18 hd18 hu hR e_v18_2 e_I18
      replace e_v18_2 := e_v18_2.symm; subst e_v18_2
      replace e_I18 := e_I18.symm; subst e_I18
      refine z_iload_n C dX3_lookBack_18 rfl 2 rfl ?_
      refine z_aload_n C dX3_lookBack_19 rfl 0 rfl ?_
      refine z_geti C ff_X3_46 23 (by decide) sh23 rfl (v := nI st) (by first | exact hS | (simp [zup, zupJ, upd, vp_updL]; exact hS)) dX3_lookBack_20 ?_
      refine z_icmp_gt_n (u + 1) st (tgt := 121) C rfl rfl (by omega) (by omega) dX3_lookBack_23 (by decide) (fun c23 => ?_) (fun c23 => ?_)
      · skip
        have hus : u = st := by omega
        refine z_vret C hr dX3_lookBack_121 ?_
        refine ⟨rfl, ?_⟩
        subst hus; exact ⟨rfl, R, rfl, hR⟩
      · skip
        refine z_iconst C (v := 0) dX3_lookBack_26 (by decide) ?_
        refine z_istore_n C hm (lv' := [(3, .int 0), (0, .ref (zad w 23)), (1, .int (nI go)), (2, .int (nI (u + 1)))]) dX3_lookBack_27 rfl (by decide) rfl ?_
        have L28 : ∀ (d : Nat) (a : Nat) (R2 : Nat → Int32) (v28_3 : Int32) (I28 : zI), (n - a) < d → (a ≤ n) → (∀ v c, v ≤ u → c < n → R2 (v * 8 + c) = nI (lbk G n go v c)) → (∀ c, c < a → R2 ((u + 1) * 8 + c) = nI (lbk G n go (u + 1) c)) → v28_3 = nI a → I28 = zup I 28 R2 → Z X w I28 J 28 [(0, .ref (zad w 23)), (1, .int (nI go)), (2, .int (nI (u + 1))), (3, .int v28_3)] [] := by
          intro d
          induction d with
          | zero => intro a R2 v28_3 I28 hd; exact absurd hd (Nat.not_lt_zero _)
          | succ d ih28 => 
            intro a R2 v28_3 I28 hd28 ha hR2 hR3 e_v28_3 e_I28
            replace e_v28_3 := e_v28_3.symm; subst e_v28_3
            replace e_I28 := e_I28.symm; subst e_I28
            refine z_iload_n C dX3_lookBack_28 rfl 3 rfl ?_
            refine z_aload_n C dX3_lookBack_29 rfl 0 rfl ?_
            refine z_geti C ff_X3_30 23 (by decide) sh23 rfl (v := nI n) (by first | exact hN | (simp [zup, zupJ, upd, vp_updL]; exact hN)) dX3_lookBack_30 ?_
            refine z_icmp_ge_n a n (tgt := 115) C rfl rfl (by omega) (by omega) dX3_lookBack_33 (by decide) (fun c33 => ?_) (fun c33 => ?_)
            · skip
              have han : a = n := by omega
              refine z_iinc C hm 2 (v := nI (u + 1 + 1)) (lv' := [(2, .int (nI (u + 1 + 1))), (0, .ref (zad w 23)), (1, .int (nI go)), (3, .int (nI a))]) dX3_lookBack_115 rfl (nI_add (u + 1) 1) (by decide) rfl ?_
              refine z_goto (tgt := 18) C dX3_lookBack_118 (by decide) ?_
              exact z_sub [1, 2, 0] rfl (ih18  (u + 1) R2 _ _ (by omega) (by omega) (fun v c hv hc => by
                  by_cases q : v = u + 1
                  · subst q; exact hR3 c (by omega)
                  · exact hR2 v c (by omega) hc) rfl rfl)
            · skip
              refine z_ldc C (v := 1000000) kc_X3_50 dX3_lookBack_36 ?_
              refine z_istore C hm (lv' := [(4, .int 1000000), (0, .ref (zad w 23)), (1, .int (nI go)), (2, .int (nI (u + 1))), (3, .int (nI a))]) dX3_lookBack_38 (by decide) rfl ?_
              refine z_iconst C (v := 0) dX3_lookBack_40 (by decide) ?_
              refine z_istore C hm (lv' := [(5, .int 0), (4, .int 1000000), (0, .ref (zad w 23)), (1, .int (nI go)), (2, .int (nI (u + 1))), (3, .int (nI a))]) dX3_lookBack_41 (by decide) rfl ?_
              have L43 : ∀ (d : Nat) (b : Nat) (v43_4 : Int32) (v43_5 : Int32), (n - b) < d → (b ≤ n) → v43_4 = nI (lbI G (lbk G n go u) a b) → v43_5 = nI b → Z X w (zup I 28 R2) J 43 [(0, .ref (zad w 23)), (1, .int (nI go)), (2, .int (nI (u + 1))), (3, .int (nI a)), (4, .int v43_4), (5, .int v43_5)] [] := by
                intro d
                induction d with
                | zero => intro b v43_4 v43_5 hd; exact absurd hd (Nat.not_lt_zero _)
                | succ d ih43 => 
                  intro b v43_4 v43_5 hd43 hb e_v43_4 e_v43_5
                  replace e_v43_4 := e_v43_4.symm; subst e_v43_4
                  replace e_v43_5 := e_v43_5.symm; subst e_v43_5
                  refine z_iload C dX3_lookBack_43 5 rfl ?_
                  refine z_aload_n C dX3_lookBack_45 rfl 0 rfl ?_
                  refine z_geti C ff_X3_30 23 (by decide) sh23 rfl (v := nI n) (by first | exact hN | (simp [zup, zupJ, upd, vp_updL]; exact hN)) dX3_lookBack_46 ?_
                  refine z_icmp_ge_n b n (tgt := 96) C rfl rfl (by omega) (by omega) dX3_lookBack_49 (by decide) (fun c49 => ?_) (fun c49 => ?_)
                  · skip
                    have hbn : b = n := by omega
                    refine z_aload_n C dX3_lookBack_96 rfl 0 rfl ?_
                    refine z_getr C ff_X3_24 23 (by decide) sh23 rfl dX3_lookBack_97 ?_
                    refine z_iload_n C dX3_lookBack_100 rfl 2 rfl ?_
                    refine z_bipush C (v := 8) dX3_lookBack_101 (by decide) ?_
                    refine z_imul C dX3_lookBack_103 ?_
                    refine z_ti (y := nI ((u + 1) * 8)) (pk_mul (u + 1) 8) ?_
                    refine z_iload_n C dX3_lookBack_104 rfl 3 rfl ?_
                    refine z_iadd C dX3_lookBack_105 ?_
                    refine z_ti (y := nI ((u + 1) * 8 + a)) (nI_add ((u + 1) * 8) a) ?_
                    refine z_iload C dX3_lookBack_106 4 rfl ?_
                    refine z_iast C 28 (by decide) sh28 ((u + 1) * 8 + a) (by omega) (by decide) rfl dX3_lookBack_108 ?_
                    refine z_I (I' := zup I 28 (upd R2 ((u + 1) * 8 + a) (nI (lbI G (lbk G n go u) a b)))) (by rw [zup_s, zup_up]) ?_
                    refine z_iinc C hm 3 (v := nI (a + 1)) (lv' := [(3, .int (nI (a + 1))), (0, .ref (zad w 23)), (1, .int (nI go)), (2, .int (nI (u + 1))), (4, .int (nI (lbI G (lbk G n go u) a b))), (5, .int (nI b))]) dX3_lookBack_109 rfl (nI_add a 1) (by decide) rfl ?_
                    refine z_goto (tgt := 28) C dX3_lookBack_112 (by decide) ?_
                    exact z_sub [1, 2, 3, 0] rfl (ih28  (a + 1) (upd R2 ((u + 1) * 8 + a) (nI (lbI G (lbk G n go u) a n))) _ _ (by omega) (by omega) (fun v c hv hc => by rw [upd_n (by omega)]; exact hR2 v c hv hc) (lt_s (fun c hc => by rw [upd_n (by omega)]; exact hR3 c hc) (by rw [upd_s]; rfl)) rfl (by rw [hbn]))
                  · skip
                    refine z_aload_n C dX3_lookBack_52 rfl 0 rfl ?_
                    refine z_getr C ff_X3_24 23 (by decide) sh23 rfl dX3_lookBack_53 ?_
                    refine z_iload_n C dX3_lookBack_56 rfl 2 rfl ?_
                    refine z_iconst C (v := 1) dX3_lookBack_57 (by decide) ?_
                    refine z_isub C dX3_lookBack_58 ?_
                    refine z_ti (y := nI u) (pk_sub (a := u + 1) (b := 1) (by omega)) ?_
                    refine z_bipush C (v := 8) dX3_lookBack_59 (by decide) ?_
                    refine z_imul C dX3_lookBack_61 ?_
                    refine z_ti (y := nI (u * 8)) (pk_mul u 8) ?_
                    refine z_iload C dX3_lookBack_62 5 rfl ?_
                    refine z_iadd C dX3_lookBack_64 ?_
                    refine z_ti (y := nI (u * 8 + b)) (nI_add (u * 8) b) ?_
                    refine z_iald C 28 (by decide) sh28 (u * 8 + b) (by omega) (by decide) rfl (v := nI (lbk G n go u b)) (by first | exact (hR2 u b (Nat.le_refl _) (by omega)) | (simp [zup, zupJ, upd, vp_updL]; exact (hR2 u b (Nat.le_refl _) (by omega)))) dX3_lookBack_65 ?_
                    refine z_istore C hm (lv' := [(6, .int (nI (lbk G n go u b))), (0, .ref (zad w 23)), (1, .int (nI go)), (2, .int (nI (u + 1))), (3, .int (nI a)), (4, .int (nI (lbI G (lbk G n go u) a b))), (5, .int (nI b))]) dX3_lookBack_66 (by decide) rfl ?_
                    refine z_iload C dX3_lookBack_68 5 rfl ?_
                    refine z_aload_n C dX3_lookBack_70 rfl 1 rfl ?_
                    refine z_getr C ff_X3_9 23 (by decide) sh23 rfl dX3_lookBack_71 ?_
                    refine z_iload_n C dX3_lookBack_74 rfl 4 rfl ?_
                    refine z_bipush C (v := 8) dX3_lookBack_75 (by decide) ?_
                    refine z_imul C dX3_lookBack_77 ?_
                    refine z_ti (y := nI (a * 8)) (pk_mul a 8) ?_
                    refine z_iload C dX3_lookBack_78 6 rfl ?_
                    refine z_iadd C dX3_lookBack_80 ?_
                    refine z_ti (y := nI (a * 8 + b)) (nI_add (a * 8) b) ?_
                    refine z_iald C 24 (by decide) sh24 (a * 8 + b) (by omega) (by decide) rfl (v := nI (G a b)) (by first | exact (hG a b (by omega) (by omega)) | (simp [zup, zupJ, upd, vp_updL]; exact (hG a b (by omega) (by omega)))) dX3_lookBack_81 ?_
                    refine z_iload C dX3_lookBack_82 0 rfl ?_
                    refine z_iadd C dX3_lookBack_84 ?_
                    refine z_ti (y := nI ((G a b) + (lbk G n go u b))) (nI_add (G a b) (lbk G n go u b)) ?_
                    refine z_min C hm ml_X3_86 st_min in_math co_min (Nat.le_of_ble_eq_true rfl) (Nat.le_of_ble_eq_true rfl) dX3_lookBack_85 ?_
                    refine z_ti (y := nI (min (lbI G (lbk G n go u) a b) (G a b + lbk G n go u b))) (mn_n (by have := lbI_le (G := G) (L := lbk G n go u) (a := a) b; omega) (by have := hGf a b (by omega) (by omega); have := lbk_le (G := G) (n := n) (goal := go) u b; omega)) ?_
                    refine z_istore C hm (lv' := [(4, .int (nI (min (lbI G (lbk G n go u) a b) (G a b + lbk G n go u b)))), (6, .int (nI (lbk G n go u b))), (0, .ref (zad w 23)), (1, .int (nI go)), (2, .int (nI (u + 1))), (3, .int (nI a)), (5, .int (nI b))]) dX3_lookBack_88 (by decide) rfl ?_
                    refine z_iinc C hm 6 (v := nI (b + 1)) (lv' := [(5, .int (nI (b + 1))), (4, .int (nI (min (lbI G (lbk G n go u) a b) (G a b + lbk G n go u b)))), (6, .int (nI (lbk G n go u b))), (0, .ref (zad w 23)), (1, .int (nI go)), (2, .int (nI (u + 1))), (3, .int (nI a))]) dX3_lookBack_90 rfl (nI_add b 1) (by decide) rfl ?_
                    refine z_goto (tgt := 43) C dX3_lookBack_93 (by decide) ?_
                    exact z_sub [3, 4, 5, 6, 1, 0] rfl (ih43  (b + 1) _ _ (by omega) (by omega) rfl rfl)
              exact z_sub [2, 3, 4, 5, 1, 0] rfl (L43 _ 0 _ _ (Nat.lt_succ_self _) (by omega) rfl rfl)
        exact z_sub [1, 2, 3, 0] rfl (L28 _ 0 R _ _ (Nat.lt_succ_self _) (by omega) hR (fun _ h0 => absurd h0 (Nat.not_lt_zero _)) rfl rfl)
  exact z_sub [1, 2, 0] rfl (L18 _ 0 (upd (zfill 1000000 (I 28) 80) go 0) _ _ (Nat.lt_succ_self _) (by omega) (fun v c hv hc => by
      have hv0 : v = 0 := by omega
      subst hv0
      rw [Nat.zero_mul, Nat.zero_add, lbk]
      by_cases q : c = go
      · rw [if_pos q, q, upd_s]; rfl
      · rw [if_neg q, upd_n q]; simp only [zfill]; rw [if_pos (by omega)]; rfl) rfl rfl)
abbrev rm_X3_walk : Room := { frames := 4, cells := 0, slots := 0, locals := 200 }
set_option maxRecDepth 100000 in
set_option maxHeartbeats 4000000 in
theorem k_X3_walk (w : zW) (I : zI) (J : zJ) (n st go : Nat) (G : Nat → Nat → Nat) (sa : Nat) (us : Nat) (hn : n ≤ 8) (hN : I 23 6 = nI n) (hS : I 23 7 = nI st) (hst9 : st ≤ 9) (hG : ∀ a b, a < n → b < n → I 24 (a * 8 + b) = nI (G a b)) (hGf : ∀ a b, a < n → b < n → G a b ≤ zFar) (hsa : sa < n) (hus : us ≤ st) (hR : ∀ u c, u ≤ st → c < n → I 28 (u * 8 + c) = nI (lbk G n go u c)) : zMet yX3_walk cX3_walk 8 none rm_X3_walk w [.ref (zad w 23), .int (nI sa), .int (nI us)] I J (zpv (fun I' J' => J' = J ∧ ∃ R, I' = zup I 29 R ∧ ∀ s, s ≤ us → R s = nI (wlk G n go us sa s))) := by
  refine zMet_of (by decide) (Nat.le_of_ble_eq_true rfl) (fun X C hm hr => ?_)
  refine z_sub (lv' := [(0, .ref (zad w 23)), (1, .int (nI sa)), (2, .int (nI us))]) [0, 1, 2] rfl ?_
  have hzf : zFar = 1000000 := rfl
  refine z_iload_n C dX3_walk_0 rfl 1 rfl ?_
  refine z_istore_n C hm (lv' := [(3, .int (nI sa)), (0, .ref (zad w 23)), (1, .int (nI sa)), (2, .int (nI us))]) dX3_walk_1 rfl (by decide) rfl ?_
  refine z_aload_n C dX3_walk_2 rfl 1 rfl ?_
  refine z_getr C ff_X3_27 23 (by decide) sh23 rfl dX3_walk_3 ?_
  refine z_iconst C (v := 0) dX3_walk_6 (by decide) ?_
  refine z_iload_n C dX3_walk_7 rfl 2 rfl ?_
  refine z_iast C 29 (by decide) sh29 0 (by omega) (by decide) rfl dX3_walk_8 ?_
  refine z_I (I' := zup I 29 (upd (I 29) 0 (nI sa))) rfl ?_
  refine z_iconst C (v := 1) dX3_walk_9 (by decide) ?_
  refine z_istore C hm (lv' := [(4, .int 1), (3, .int (nI sa)), (0, .ref (zad w 23)), (1, .int (nI sa)), (2, .int (nI us))]) dX3_walk_10 (by decide) rfl ?_
  have L12 : ∀ (d : Nat) (s : Nat) (R : Nat → Int32) (v12_3 : Int32) (v12_4 : Int32) (I12 : zI), (us - s) < d → (s ≤ us) → (∀ q, q ≤ s → R q = nI (wlk G n go us sa q)) → v12_3 = nI (wlk G n go us sa s) → v12_4 = nI (s + 1) → I12 = zup I 29 R → Z X w I12 J 12 [(0, .ref (zad w 23)), (1, .int (nI sa)), (2, .int (nI us)), (3, .int v12_3), (4, .int v12_4)] [] := by
    intro d
    induction d with
    | zero => intro s R v12_3 v12_4 I12 hd; exact absurd hd (Nat.not_lt_zero _)
    | succ d ih12 => 
      intro s R v12_3 v12_4 I12 hd12 hs hW e_v12_3 e_v12_4 e_I12
      replace e_v12_3 := e_v12_3.symm; subst e_v12_3
      replace e_v12_4 := e_v12_4.symm; subst e_v12_4
      replace e_I12 := e_I12.symm; subst e_I12
      refine z_iload C dX3_walk_12 4 rfl ?_
      refine z_iload_n C dX3_walk_14 rfl 2 rfl ?_
      refine z_icmp_gt_n (s + 1) us (tgt := 113) C rfl rfl (by omega) (by omega) dX3_walk_15 (by decide) (fun c15 => ?_) (fun c15 => ?_)
      · skip
        have hsu : s = us := by omega
        refine z_vret C hr dX3_walk_113 ?_
        refine ⟨rfl, ?_⟩
        subst hsu; exact ⟨rfl, R, rfl, hW⟩
      · skip
        refine z_aload_n C dX3_walk_18 rfl 0 rfl ?_
        refine z_getr C ff_X3_24 23 (by decide) sh23 rfl dX3_walk_19 ?_
        refine z_iload_n C dX3_walk_22 rfl 2 rfl ?_
        refine z_iload C dX3_walk_23 4 rfl ?_
        refine z_isub C dX3_walk_25 ?_
        refine z_ti (y := nI (us - (s + 1))) (pk_sub (by omega)) ?_
        refine z_iconst C (v := 1) dX3_walk_26 (by decide) ?_
        refine z_iadd C dX3_walk_27 ?_
        refine z_ti (y := nI ((us - (s + 1)) + 1)) (nI_add (us - (s + 1)) 1) ?_
        refine z_ti (y := nI (us - s)) (by congr 1; omega) ?_
        refine z_bipush C (v := 8) dX3_walk_28 (by decide) ?_
        refine z_imul C dX3_walk_30 ?_
        refine z_ti (y := nI ((us - s) * 8)) (pk_mul (us - s) 8) ?_
        refine z_iload_n C dX3_walk_31 rfl 3 rfl ?_
        refine z_iadd C dX3_walk_32 ?_
        refine z_ti (y := nI (((us - s) * 8) + (wlk G n go us sa s))) (nI_add ((us - s) * 8) (wlk G n go us sa s)) ?_
        refine z_iald C 28 (by decide) sh28 (((us - s) * 8) + (wlk G n go us sa s)) (by have := wlk_lt (G := G) (goal := go) (used := us) hsa s; omega) (by decide) rfl (v := nI (lbk G n go (us - s) (wlk G n go us sa s))) (by first | exact (hR (us - s) _ (by omega) (wlk_lt hsa s)) | (simp [zup, zupJ, upd, vp_updL]; exact (hR (us - s) _ (by omega) (wlk_lt hsa s)))) dX3_walk_33 ?_
        refine z_istore C hm (lv' := [(5, .int (nI (lbk G n go (us - s) (wlk G n go us sa s)))), (0, .ref (zad w 23)), (1, .int (nI sa)), (2, .int (nI us)), (3, .int (nI (wlk G n go us sa s))), (4, .int (nI (s + 1)))]) dX3_walk_34 (by decide) rfl ?_
        refine z_iconst C (v := 0) dX3_walk_36 (by decide) ?_
        refine z_istore C hm (lv' := [(6, .int 0), (5, .int (nI (lbk G n go (us - s) (wlk G n go us sa s)))), (0, .ref (zad w 23)), (1, .int (nI sa)), (2, .int (nI us)), (3, .int (nI (wlk G n go us sa s))), (4, .int (nI (s + 1)))]) dX3_walk_37 (by decide) rfl ?_
        refine z_aload_n C dX3_walk_39 rfl 2 rfl ?_
        refine z_geti C ff_X3_30 23 (by decide) sh23 rfl (v := nI n) (by first | exact hN | (simp [zup, zupJ, upd, vp_updL]; exact hN)) dX3_walk_40 ?_
        refine z_iconst C (v := 1) dX3_walk_43 (by decide) ?_
        refine z_isub C dX3_walk_44 ?_
        refine z_ti (y := nI n - 1) rfl ?_
        have hn1 : nI n - 1 = nI (n - 0) + Int32.ofInt (-1) := by
          rw [Nat.sub_zero]
          obtain ⟨k, hk⟩ : ∃ k, n = k + 1 := ⟨n - 1, by omega⟩
          rw [hk, nI_pred, pm1]
        refine z_istore C hm (lv' := [(7, .int (nI n - 1)), (6, .int 0), (5, .int (nI (lbk G n go (us - s) (wlk G n go us sa s)))), (0, .ref (zad w 23)), (1, .int (nI sa)), (2, .int (nI us)), (3, .int (nI (wlk G n go us sa s))), (4, .int (nI (s + 1)))]) dX3_walk_45 (by decide) rfl ?_
        have L47 : ∀ (d : Nat) (b : Nat) (v47_6 : Int32) (v47_7 : Int32), (n - b) < d → (b ≤ n) → v47_6 = nI (wnx G (lbk G n go (us - (s + 1))) (wlk G n go us sa s) (lbk G n go (us - s) (wlk G n go us sa s)) n b) → v47_7 = nI (n - b) + Int32.ofInt (-1) → Z X w (zup I 29 R) J 47 [(0, .ref (zad w 23)), (1, .int (nI sa)), (2, .int (nI us)), (3, .int (nI (wlk G n go us sa s))), (4, .int (nI (s + 1))), (5, .int (nI (lbk G n go (us - s) (wlk G n go us sa s)))), (6, .int v47_6), (7, .int v47_7)] [] := by
          intro d
          induction d with
          | zero => intro b v47_6 v47_7 hd; exact absurd hd (Nat.not_lt_zero _)
          | succ d ih47 => 
            intro b v47_6 v47_7 hd47 hb e_v47_6 e_v47_7
            replace e_v47_6 := e_v47_6.symm; subst e_v47_6
            replace e_v47_7 := e_v47_7.symm; subst e_v47_7
            refine z_iload C dX3_walk_47 7 rfl ?_
            refine z_if_lt (tgt := 95) C dX3_walk_49 (by decide) (fun c49 => ?_) (fun c49 => ?_)
            · skip
              have hbn : b = n := by
                rcases Nat.lt_or_ge b n with q | q
                · exact absurd c49 (by rw [show n - b = (n - (b + 1)) + 1 by omega, pm1]; exact nI_pos (by omega))
                · omega
              refine z_aload_n C dX3_walk_95 rfl 0 rfl ?_
              refine z_getr C ff_X3_27 23 (by decide) sh23 rfl dX3_walk_96 ?_
              refine z_iload C dX3_walk_99 4 rfl ?_
              refine z_iload C dX3_walk_101 6 rfl ?_
              refine z_iast C 29 (by decide) sh29 (s + 1) (by omega) (by decide) rfl dX3_walk_103 ?_
              refine z_I (I' := zup I 29 (upd R (s + 1) (nI (wnx G (lbk G n go (us - (s + 1))) (wlk G n go us sa s) (lbk G n go (us - s) (wlk G n go us sa s)) n b)))) (by rw [zup_s, zup_up]) ?_
              refine z_iload C dX3_walk_104 6 rfl ?_
              refine z_istore_n C hm (lv' := [(3, .int (nI (wnx G (lbk G n go (us - (s + 1))) (wlk G n go us sa s) (lbk G n go (us - s) (wlk G n go us sa s)) n b))), (0, .ref (zad w 23)), (1, .int (nI sa)), (2, .int (nI us)), (4, .int (nI (s + 1))), (5, .int (nI (lbk G n go (us - s) (wlk G n go us sa s)))), (6, .int (nI (wnx G (lbk G n go (us - (s + 1))) (wlk G n go us sa s) (lbk G n go (us - s) (wlk G n go us sa s)) n b))), (7, .int (nI (n - b) + Int32.ofInt (-1)))]) dX3_walk_106 rfl (by decide) rfl ?_
              refine z_iinc C hm 4 (v := nI (s + 1 + 1)) (lv' := [(4, .int (nI (s + 1 + 1))), (3, .int (nI (wnx G (lbk G n go (us - (s + 1))) (wlk G n go us sa s) (lbk G n go (us - s) (wlk G n go us sa s)) n b))), (0, .ref (zad w 23)), (1, .int (nI sa)), (2, .int (nI us)), (5, .int (nI (lbk G n go (us - s) (wlk G n go us sa s)))), (6, .int (nI (wnx G (lbk G n go (us - (s + 1))) (wlk G n go us sa s) (lbk G n go (us - s) (wlk G n go us sa s)) n b))), (7, .int (nI (n - b) + Int32.ofInt (-1)))]) dX3_walk_107 rfl (nI_add (s + 1) 1) (by decide) rfl ?_
              refine z_goto (tgt := 12) C dX3_walk_110 (by decide) ?_
              exact z_sub [2, 3, 4, 1, 0] rfl (ih12  (s + 1) (upd R (s + 1) (nI (wnx G (lbk G n go (us - (s + 1))) (wlk G n go us sa s) (lbk G n go (us - s) (wlk G n go us sa s)) n n))) _ _ _ (by omega) (by omega) (fun q hq => by
                  by_cases z : q = s + 1
                  · subst z; rw [upd_s]; rfl
                  · rw [upd_n z]; exact hW q (by omega)) (by rw [hbn]; rfl) rfl (by rw [hbn]))
            · skip
              have hbl : b < n := by
                rcases Nat.lt_or_ge b n with q | q
                · exact q
                · exact absurd (by rw [show n - b = 0 by omega]; exact pm1_0) c49
              rw [show nI (n - b) + Int32.ofInt (-1) = nI (n - (b + 1)) from by rw [show n - b = (n - (b + 1)) + 1 by omega, pm1]]
              refine z_aload_n C dX3_walk_52 rfl 0 rfl ?_
              refine z_getr C ff_X3_9 23 (by decide) sh23 rfl dX3_walk_53 ?_
              refine z_iload_n C dX3_walk_56 rfl 3 rfl ?_
              refine z_bipush C (v := 8) dX3_walk_57 (by decide) ?_
              refine z_imul C dX3_walk_59 ?_
              refine z_ti (y := nI ((wlk G n go us sa s) * 8)) (pk_mul (wlk G n go us sa s) 8) ?_
              refine z_iload C dX3_walk_60 7 rfl ?_
              refine z_iadd C dX3_walk_62 ?_
              refine z_ti (y := nI ((wlk G n go us sa s) * 8 + (n - (b + 1)))) (nI_add ((wlk G n go us sa s) * 8) (n - (b + 1))) ?_
              refine z_iald C 24 (by decide) sh24 ((wlk G n go us sa s) * 8 + (n - (b + 1))) (by have := wlk_lt (G := G) (goal := go) (used := us) hsa s; omega) (by decide) rfl (v := nI (G (wlk G n go us sa s) (n - (b + 1)))) (by first | exact (hG _ _ (wlk_lt hsa s) (by omega)) | (simp [zup, zupJ, upd, vp_updL]; exact (hG _ _ (wlk_lt hsa s) (by omega)))) dX3_walk_63 ?_
              refine z_aload_n C dX3_walk_64 rfl 0 rfl ?_
              refine z_getr C ff_X3_24 23 (by decide) sh23 rfl dX3_walk_65 ?_
              refine z_iload_n C dX3_walk_68 rfl 2 rfl ?_
              refine z_iload C dX3_walk_69 4 rfl ?_
              refine z_isub C dX3_walk_71 ?_
              refine z_ti (y := nI (us - (s + 1))) (pk_sub (by omega)) ?_
              refine z_bipush C (v := 8) dX3_walk_72 (by decide) ?_
              refine z_imul C dX3_walk_74 ?_
              refine z_ti (y := nI ((us - (s + 1)) * 8)) (pk_mul (us - (s + 1)) 8) ?_
              refine z_iload C dX3_walk_75 7 rfl ?_
              refine z_iadd C dX3_walk_77 ?_
              refine z_ti (y := nI (((us - (s + 1)) * 8) + (n - (b + 1)))) (nI_add ((us - (s + 1)) * 8) (n - (b + 1))) ?_
              refine z_iald C 28 (by decide) sh28 (((us - (s + 1)) * 8) + (n - (b + 1))) (by omega) (by decide) rfl (v := nI (lbk G n go (us - (s + 1)) (n - (b + 1)))) (by first | exact (hR _ _ (by omega) (by omega)) | (simp [zup, zupJ, upd, vp_updL]; exact (hR _ _ (by omega) (by omega)))) dX3_walk_78 ?_
              refine z_iadd C dX3_walk_79 ?_
              refine z_ti (y := nI ((G (wlk G n go us sa s) (n - (b + 1))) + (lbk G n go (us - (s + 1)) (n - (b + 1))))) (nI_add (G (wlk G n go us sa s) (n - (b + 1))) (lbk G n go (us - (s + 1)) (n - (b + 1)))) ?_
              refine z_iload C dX3_walk_80 5 rfl ?_
              refine z_icmp_ne_n ((G (wlk G n go us sa s) (n - (b + 1))) + (lbk G n go (us - (s + 1)) (n - (b + 1)))) (lbk G n go (us - s) (wlk G n go us sa s)) (tgt := 89) C rfl rfl (by have := hGf (wlk G n go us sa s) (n - (b + 1)) (wlk_lt hsa s) (by omega); have := lbk_le (G := G) (n := n) (goal := go) (us - (s + 1)) (n - (b + 1)); omega) (by have := lbk_le (G := G) (n := n) (goal := go) (us - s) (wlk G n go us sa s); omega) dX3_walk_82 (by decide) (fun c82 => ?_) (fun c82 => ?_)
              · skip
                refine z_iinc C hm 7 (v := (nI (n - (b + 1))) + Int32.ofInt (-1)) (lv' := [(7, .int ((nI (n - (b + 1))) + Int32.ofInt (-1))), (0, .ref (zad w 23)), (1, .int (nI sa)), (2, .int (nI us)), (3, .int (nI (wlk G n go us sa s))), (4, .int (nI (s + 1))), (5, .int (nI (lbk G n go (us - s) (wlk G n go us sa s)))), (6, .int (nI (wnx G (lbk G n go (us - (s + 1))) (wlk G n go us sa s) (lbk G n go (us - s) (wlk G n go us sa s)) n b)))]) dX3_walk_89 rfl rfl (by decide) rfl ?_
                refine z_goto (tgt := 47) C dX3_walk_92 (by decide) ?_
                exact z_sub [1, 2, 3, 4, 5, 6, 7, 0] rfl (ih47  (b + 1) _ _ (by omega) (by omega) (by rw [wnx, if_neg c82]) rfl)
              · skip
                refine z_iload C dX3_walk_85 7 rfl ?_
                refine z_istore C hm (lv' := [(6, .int (nI (n - (b + 1)))), (0, .ref (zad w 23)), (1, .int (nI sa)), (2, .int (nI us)), (3, .int (nI (wlk G n go us sa s))), (4, .int (nI (s + 1))), (5, .int (nI (lbk G n go (us - s) (wlk G n go us sa s)))), (7, .int (nI (n - (b + 1))))]) dX3_walk_87 (by decide) rfl ?_
                refine z_iinc C hm 7 (v := (nI (n - (b + 1))) + Int32.ofInt (-1)) (lv' := [(7, .int ((nI (n - (b + 1))) + Int32.ofInt (-1))), (6, .int (nI (n - (b + 1)))), (0, .ref (zad w 23)), (1, .int (nI sa)), (2, .int (nI us)), (3, .int (nI (wlk G n go us sa s))), (4, .int (nI (s + 1))), (5, .int (nI (lbk G n go (us - s) (wlk G n go us sa s))))]) dX3_walk_89 rfl rfl (by decide) rfl ?_
                refine z_goto (tgt := 47) C dX3_walk_92 (by decide) ?_
                exact z_sub [2, 3, 4, 5, 6, 7, 1, 0] rfl (ih47  (b + 1) _ _ (by omega) (by omega) (by rw [wnx, if_pos c82]) rfl)
        exact z_sub [3, 4, 5, 6, 7, 2, 1, 0] rfl (L47 _ 0 _ _ (Nat.lt_succ_self _) (by omega) rfl hn1)
  exact z_sub [2, 3, 4, 1, 0] rfl (L12 _ 0 (upd (I 29) 0 (nI sa)) _ _ _ (Nat.lt_succ_self _) (by omega) (fun q hq => by
      have hq0 : q = 0 := by omega
      subst hq0; rw [upd_s]; rfl) rfl rfl rfl)
