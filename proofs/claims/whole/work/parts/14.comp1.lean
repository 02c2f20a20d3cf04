/-! what the component's own calls answer -/
def zn (x : Int32) : Nat := x.toNatClampNeg
theorem zn_n {k : Nat} (h : k < 2 ^ 31) : zn (nI k) = k := nI_clamp h
noncomputable def zGt (jn : Nat → Int32) (A : List zCla) : Nat → Nat → Nat := fun a b => oF (aGo jn A a b)
def zT0 (hd : Nat → Option Nat) : Nat → Nat := fun a => oF (hd a)
/-- the least hour of a name, with some silent -/
noncomputable def ern (m n : Nat) (jn : Nat → Int32) (A : List zCla) (hd : Nat → Option Nat) (a : Nat) : Nat := hsq m n (zGt jn A) (zT0 hd) (aSteps A) a
theorem ern_le {m n : Nat} {jn : Nat → Int32} {A : List zCla} {hd : Nat → Option Nat} (h : ∀ a k, hd a = some k → k ≤ 99) (a : Nat) : ern m n jn A hd a ≤ zFar := Nat.le_trans (hsq_le _) (oF_le (fun k q => by have := h a k q; omega))
theorem zGt_le {jn : Nat → Int32} {A : List zCla} (hA : aOk A) (a b : Nat) : zGt jn A a b ≤ zFar := oF_le (aGo_le hA)
theorem zT0_le {hd : Nat → Option Nat} (h : ∀ a k, hd a = some k → k ≤ 99) (a : Nat) : zT0 hd a ≤ zFar := oF_le (fun k q => by have := h a k q; omega)
theorem aSteps_le (A : List zCla) : aSteps A ≤ 9 := Nat.min_le_right _ _
noncomputable def aKn (E : Nat) : Int32 := cif (E < zFar) (nI E) (-5)
/-- all but the rows of the spread stay -/
def frS (I' I : zI) : Prop := ∀ k, (k < 23 ∨ 29 < k) → I' k = I k
theorem frS_id {I : zI} : frS I I := fun _ _ => rfl
noncomputable def pB (p : Prop) : Bool := @decide p (Classical.propDecidable p)
theorem pB_t {p : Prop} (h : p) : pB p = true := @decide_eq_true _ (Classical.propDecidable p) h
theorem pB_f {p : Prop} (h : ¬ p) : pB p = false := @decide_eq_false _ (Classical.propDecidable p) h
theorem pB_i {p : Prop} : pB p = true ↔ p := ⟨fun h => Classical.byContradiction fun q => (by rw [pB_f q] at h; exact Bool.noConfusion h), pB_t⟩
def exA1 (b1 : Bool) : Int32 := if b1 then 1 ||| 2 else 1
def exA2 (b1 b4 : Bool) : Int32 := if b4 then exA1 b1 ||| 16 else exA1 b1
def exA3 (b1 b4 b2 : Bool) : Int32 := if b2 then exA2 b1 b4 ||| 4 else exA2 b1 b4
def exA5 (b1 b4 b2 b5 : Bool) : Int32 := if b5 then exA3 b1 b4 b2 ||| 8 ||| 32 else exA3 b1 b4 b2 ||| 8
def exV (b1 b2 b3 b4 b5 b6 : Bool) : Int32 := if b3 then (if b6 then exA5 b1 b4 b2 b5 ||| 64 else exA5 b1 b4 b2 b5) else exA3 b1 b4 b2
/-- what a way is: its length, its row -/
def wayR (n st : Nat) (G : Nat → Nat → Nat) (T : Nat → Nat) (go len : Nat) (row : Nat → Nat) : Prop :=
  (zFar ≤ hsq 0 n G T st go ∧ len = 0) ∨ (hsq 0 n G T st go < zFar ∧ ((∃ u c, u ≤ st ∧ c < n ∧ T c + lbk G n go u c = hsq 0 n G T st go ∧ (∀ u' c', u' < u → c' < n → T c' + lbk G n go u' c' ≠ hsq 0 n G T st go) ∧ (∀ c', c' < c → T c' + lbk G n go u c' ≠ hsq 0 n G T st go) ∧ len = u + 1 ∧ ∀ s, s ≤ u → row s = wlk G n go u c s) ∨ ((∀ u c, u ≤ st → c < n → T c + lbk G n go u c ≠ hsq 0 n G T st go) ∧ len = 0)))
abbrev rm_X3_rowTo : Room := { frames := 6, cells := 0, slots := 0, locals := 249 }
set_option maxRecDepth 100000 in
set_option maxHeartbeats 4000000 in
theorem k_X3_rowTo (w : zW) (I : zI) (J : zJ) (n st : Nat) (G : Nat → Nat → Nat) (T : Nat → Nat) (go : Nat) (hn : n ≤ 8) (hN : I 23 6 = nI n) (hS : I 23 7 = nI st) (hst9 : st ≤ 9) (hT : ∀ b, b < n → I 25 b = nI (T b)) (hTf : ∀ b, b < n → T b ≤ zFar) (hG : ∀ a b, a < n → b < n → I 24 (a * 8 + b) = nI (G a b)) (hGf : ∀ a b, a < n → b < n → G a b ≤ zFar) (hgo : go < n) : zMet yX3_rowTo cX3_rowTo 5 (some .int) rm_X3_rowTo w [.ref (zad w 23), .int (nI go)] I J (zpi (fun v I' J' => J' = J ∧ (∃ R Q R4 R5, I' = zup (zup (zup (zup I 26 R) 27 Q) 28 R4) 29 R5) ∧ (∃ len row, wayR n st G T go len row ∧ v = nI len ∧ ∀ s, s < len → I' 29 s = nI (row s)))) := by
  refine zMet_of (by decide) (Nat.le_of_ble_eq_true rfl) (fun X C hm hr => ?_)
  refine z_sub (lv' := [(0, .ref (zad w 23)), (1, .int (nI go))]) [0, 1] rfl ?_
  have hzf : zFar = 1000000 := rfl
  refine z_aload_n C dX3_rowTo_0 rfl 0 rfl ?_
  refine z_iconst C (v := 0) dX3_rowTo_1 (by decide) ?_
  refine z_callVv C hm cl_X3_69 cv_X3_run 23 (by decide) sh23 ⟨_, _, rfl⟩ [.int 0] rfl (rest := []) rfl (k_X3_run w _ _ n st G T 0 hn hN hS hst9 (by decide) hT hTf hG hGf) ⟨rfl, rfl, Nat.le_of_ble_eq_true rfl, Nat.le_of_ble_eq_true rfl⟩ (Nat.le_of_ble_eq_true rfl) dX3_rowTo_2 (fun I_1 J_1 h_1 => ?_)
  obtain ⟨eJ_1, R_1, Q_1, eI_1, hR_1⟩ := h_1
  replace eJ_1 := eJ_1.symm; subst eJ_1
  subst eI_1
  refine z_aload_n C dX3_rowTo_5 rfl 0 rfl ?_
  refine z_getr C ff_X3_18 23 (by decide) sh23 rfl dX3_rowTo_6 ?_
  refine z_iload_n C dX3_rowTo_9 rfl 1 rfl ?_
  refine z_iald C 26 (by decide) sh26 go (by omega) (by decide) rfl (v := nI (hsq 0 n G T st go)) (by first | exact (hR_1 go hgo) | (simp [zup, zupJ, upd, vp_updL]; exact (hR_1 go hgo))) dX3_rowTo_10 ?_
  refine z_istore_n C hm (lv' := [(2, .int (nI (hsq 0 n G T st go))), (0, .ref (zad w 23)), (1, .int (nI go))]) dX3_rowTo_11 rfl (by decide) rfl ?_
  refine z_iload_n C dX3_rowTo_12 rfl 0 rfl ?_
  refine z_ldc C (v := 1000000) kc_X3_50 dX3_rowTo_13 ?_
  refine z_icmp_lt_n (hsq 0 n G T st go) 1000000 (tgt := 20) C rfl rfl (by have := hsq_le (m := 0) (n := n) (G := G) (T := T) (b := go) st; have := hTf go hgo; omega) (by omega) dX3_rowTo_15 (by decide) (fun c15 => ?_) (fun c15 => ?_)
  · skip
    refine z_aload_n C dX3_rowTo_20 rfl 1 rfl ?_
    refine z_iload_n C dX3_rowTo_21 rfl 2 rfl ?_
    refine z_callVv C hm cl_X3_73 cv_X3_lookBack 23 (by decide) sh23 ⟨_, _, rfl⟩ [.int (nI go)] rfl (rest := []) rfl (k_X3_lookBack w _ _ n st G go hn (by exact hN) (by exact hS) hst9 hG hGf hgo) ⟨rfl, rfl, Nat.le_of_ble_eq_true rfl, Nat.le_of_ble_eq_true rfl⟩ (Nat.le_of_ble_eq_true rfl) dX3_rowTo_22 (fun I_2 J_2 h_2 => ?_)
    obtain ⟨eJ_2, R_2, eI_2, hR_2⟩ := h_2
    replace eJ_2 := eJ_2.symm; subst eJ_2
    subst eI_2
    have hR_lb : ∀ u c, u ≤ st → c < n → R_2 (u * 8 + c) = nI (lbk G n go u c) := hR_2
    refine z_iconst C (v := 0) dX3_rowTo_25 (by decide) ?_
    refine z_istore_n C hm (lv' := [(3, .int 0), (2, .int (nI (hsq 0 n G T st go))), (0, .ref (zad w 23)), (1, .int (nI go))]) dX3_rowTo_26 rfl (by decide) rfl ?_
    have L27 : ∀ (d : Nat) (u : Nat) (v27_3 : Int32), (st + 1 - u) < d → (u ≤ st + 1) → (∀ u2 c2, u2 < u → c2 < n → T c2 + lbk G n go u2 c2 ≠ hsq 0 n G T st go) → v27_3 = nI u → Z X w (zup (zup (zup I 26 R_1) 27 Q_1) 28 R_2) J 27 [(0, .ref (zad w 23)), (1, .int (nI go)), (2, .int (nI (hsq 0 n G T st go))), (3, .int v27_3)] [] := by
      intro d
      induction d with
      | zero => intro u v27_3 hd; exact absurd hd (Nat.not_lt_zero _)
      | succ d ih27 => 
        intro u v27_3 hd27 hu1 hno e_v27_3
        replace e_v27_3 := e_v27_3.symm; subst e_v27_3
        refine z_iload_n C dX3_rowTo_27 rfl 3 rfl ?_
        refine z_aload_n C dX3_rowTo_28 rfl 0 rfl ?_
        refine z_geti C ff_X3_46 23 (by decide) sh23 rfl (v := nI st) (by first | exact hS | (simp [zup, zupJ, upd, vp_updL]; exact hS)) dX3_rowTo_29 ?_
        refine z_icmp_gt_n u st (tgt := 94) C rfl rfl (by omega) (by omega) dX3_rowTo_32 (by decide) (fun c32 => ?_) (fun c32 => ?_)
        · skip
          refine z_iconst C (v := 0) dX3_rowTo_94 (by decide) ?_
          refine z_iret C hr rfl dX3_rowTo_95 ?_
          refine ⟨_, rfl, ?_⟩
          refine ⟨rfl, ⟨R_1, Q_1, R_2, I 29, ?_⟩, 0, fun _ => 0, Or.inr ⟨by omega, Or.inr ⟨fun u2 c2 h2 h3 => hno u2 c2 (by omega) h3, rfl⟩⟩, rfl, fun _ h0 => absurd h0 (Nat.not_lt_zero _)⟩
          funext zk; by_cases h29 : zk = 29 <;> simp [zup, h29]
        · skip
          have hu : u ≤ st := by omega
          refine z_iconst C (v := 0) dX3_rowTo_35 (by decide) ?_
          refine z_istore C hm (lv' := [(4, .int 0), (0, .ref (zad w 23)), (1, .int (nI go)), (2, .int (nI (hsq 0 n G T st go))), (3, .int (nI u))]) dX3_rowTo_36 (by decide) rfl ?_
          have L38 : ∀ (d : Nat) (c : Nat) (v38_4 : Int32), (n - c) < d → (c ≤ n) → (∀ c2, c2 < c → T c2 + lbk G n go u c2 ≠ hsq 0 n G T st go) → v38_4 = nI c → Z X w (zup (zup (zup I 26 R_1) 27 Q_1) 28 R_2) J 38 [(0, .ref (zad w 23)), (1, .int (nI go)), (2, .int (nI (hsq 0 n G T st go))), (3, .int (nI u)), (4, .int v38_4)] [] := by
            intro d
            induction d with
            | zero => intro c v38_4 hd; exact absurd hd (Nat.not_lt_zero _)
            | succ d ih38 => 
              intro c v38_4 hd38 hc hno2 e_v38_4
              replace e_v38_4 := e_v38_4.symm; subst e_v38_4
              refine z_iload C dX3_rowTo_38 4 rfl ?_
              refine z_aload_n C dX3_rowTo_40 rfl 0 rfl ?_
              refine z_geti C ff_X3_30 23 (by decide) sh23 rfl (v := nI n) (by first | exact hN | (simp [zup, zupJ, upd, vp_updL]; exact hN)) dX3_rowTo_41 ?_
              refine z_icmp_ge_n c n (tgt := 88) C rfl rfl (by omega) (by omega) dX3_rowTo_44 (by decide) (fun c44 => ?_) (fun c44 => ?_)
              · skip
                have hcn2 : c = n := by omega
                refine z_iinc C hm 3 (v := nI (u + 1)) (lv' := [(3, .int (nI (u + 1))), (0, .ref (zad w 23)), (1, .int (nI go)), (2, .int (nI (hsq 0 n G T st go))), (4, .int (nI c))]) dX3_rowTo_88 rfl (nI_add u 1) (by decide) rfl ?_
                refine z_goto (tgt := 27) C dX3_rowTo_91 (by decide) ?_
                exact z_sub [1, 2, 3, 0] rfl (ih27  (u + 1) _ (by omega) (by omega) (fun u2 c2 h2 h3 => by
                    by_cases q : u2 = u
                    · subst q; exact hno2 c2 (by omega)
                    · exact hno u2 c2 (by omega) h3) rfl)
              · skip
                have hcn : c < n := by omega
                refine z_aload_n C dX3_rowTo_47 rfl 0 rfl ?_
                refine z_getr C ff_X3_15 23 (by decide) sh23 rfl dX3_rowTo_48 ?_
                refine z_iload C dX3_rowTo_51 4 rfl ?_
                refine z_iald C 25 (by decide) sh25 c (by omega) (by decide) rfl (v := nI (T c)) (by first | exact (hT c hcn) | (simp [zup, zupJ, upd, vp_updL]; exact (hT c hcn))) dX3_rowTo_53 ?_
                refine z_aload_n C dX3_rowTo_54 rfl 0 rfl ?_
                refine z_getr C ff_X3_24 23 (by decide) sh23 rfl dX3_rowTo_55 ?_
                refine z_iload_n C dX3_rowTo_58 rfl 3 rfl ?_
                refine z_bipush C (v := 8) dX3_rowTo_59 (by decide) ?_
                refine z_imul C dX3_rowTo_61 ?_
                refine z_ti (y := nI (u * 8)) (pk_mul u 8) ?_
                refine z_iload C dX3_rowTo_62 4 rfl ?_
                refine z_iadd C dX3_rowTo_64 ?_
                refine z_ti (y := nI (u * 8 + c)) (nI_add (u * 8) c) ?_
                refine z_iald C 28 (by decide) sh28 (u * 8 + c) (by omega) (by decide) rfl (v := nI (lbk G n go u c)) (by first | exact (hR_lb u c hu hcn) | (simp [zup, zupJ, upd, vp_updL]; exact (hR_lb u c hu hcn))) dX3_rowTo_65 ?_
                refine z_iadd C dX3_rowTo_66 ?_
                refine z_ti (y := nI ((T c) + (lbk G n go u c))) (nI_add (T c) (lbk G n go u c)) ?_
                refine z_iload_n C dX3_rowTo_67 rfl 2 rfl ?_
                refine z_icmp_ne_n ((T c) + (lbk G n go u c)) (hsq 0 n G T st go) (tgt := 82) C rfl rfl (by have := hTf c hcn; have := lbk_le (G := G) (n := n) (goal := go) u c; omega) (by have := hsq_le (m := 0) (n := n) (G := G) (T := T) (b := go) st; have := hTf go hgo; omega) dX3_rowTo_68 (by decide) (fun c68 => ?_) (fun c68 => ?_)
                · skip
                  refine z_iinc C hm 4 (v := nI (c + 1)) (lv' := [(4, .int (nI (c + 1))), (0, .ref (zad w 23)), (1, .int (nI go)), (2, .int (nI (hsq 0 n G T st go))), (3, .int (nI u))]) dX3_rowTo_82 rfl (nI_add c 1) (by decide) rfl ?_
                  refine z_goto (tgt := 38) C dX3_rowTo_85 (by decide) ?_
                  exact z_sub [1, 2, 3, 4, 0] rfl (ih38  (c + 1) _ (by omega) (by omega) (lt_s hno2 c68) rfl)
                · skip
                  refine z_aload_n C dX3_rowTo_71 rfl 0 rfl ?_
                  refine z_iload C dX3_rowTo_72 4 rfl ?_
                  refine z_iload_n C dX3_rowTo_74 rfl 3 rfl ?_
                  refine z_callVv C hm cl_X3_76 cv_X3_walk 23 (by decide) sh23 ⟨_, _, rfl⟩ [.int (nI c), .int (nI u)] rfl (rest := []) rfl (k_X3_walk w _ _ n st go G c u hn (by exact hN) (by exact hS) hst9 hG hGf hcn hu hR_lb) ⟨rfl, rfl, Nat.le_of_ble_eq_true rfl, Nat.le_of_ble_eq_true rfl⟩ (Nat.le_of_ble_eq_true rfl) dX3_rowTo_75 (fun I_3 J_3 h_3 => ?_)
                  obtain ⟨eJ_3, R_3, eI_3, hR_3⟩ := h_3
                  replace eJ_3 := eJ_3.symm; subst eJ_3
                  subst eI_3
                  refine z_iload_n C dX3_rowTo_78 rfl 3 rfl ?_
                  refine z_iconst C (v := 1) dX3_rowTo_79 (by decide) ?_
                  refine z_iadd C dX3_rowTo_80 ?_
                  refine z_ti (y := nI (u + 1)) (nI_add u 1) ?_
                  refine z_iret C hr rfl dX3_rowTo_81 ?_
                  refine ⟨_, rfl, ?_⟩
                  exact ⟨rfl, ⟨_, _, _, _, rfl⟩, u + 1, wlk G n go u c, Or.inr ⟨by omega, Or.inl ⟨u, c, hu, hcn, c68, hno, hno2, rfl, fun _ _ => rfl⟩⟩, rfl, fun s hs => hR_3 s (by omega)⟩
          exact z_sub [1, 2, 3, 4, 0] rfl (L38 _ 0 _ (Nat.lt_succ_self _) (by omega) (fun _ h0 => absurd h0 (Nat.not_lt_zero _)) rfl)
    exact z_sub [2, 3, 1, 0] rfl (L27 _ 0 _ (Nat.lt_succ_self _) (by omega) (fun _ _ h0 => absurd h0 (Nat.not_lt_zero _)) rfl)
  · skip
    refine z_iconst C (v := 0) dX3_rowTo_18 (by decide) ?_
    refine z_iret C hr rfl dX3_rowTo_19 ?_
    refine ⟨_, rfl, ?_⟩
    refine ⟨rfl, ⟨R_1, Q_1, I 28, I 29, ?_⟩, 0, fun _ => 0, Or.inl ⟨by omega, rfl⟩, rfl, fun _ h0 => absurd h0 (Nat.not_lt_zero _)⟩
    funext zk; by_cases h28 : zk = 28 <;> by_cases h29 : zk = 29 <;> simp [zup, h28, h29]
abbrev rm_X7_habitOf : Room := { frames := 7, cells := 0, slots := 0, locals := 281 }
set_option maxRecDepth 100000 in
set_option maxHeartbeats 4000000 in
theorem k_X7_habitOf (w : zW) (I : zI) (J : zJ) (h : Nat) (A : List zCla) (a : Nat) (f : Int32) (ha8 : a < 8) (hh : h < 7) (hH : I 5 2 = nI h) (hL : cLaw I h A) : zMet yX7_habitOf cX7_habitOf 3 (some .int) rm_X7_habitOf w [.ref (zad w 0), .int (nI a), .int f] I J (zpi (fun v I' J' => v = nI (aHab (nI a) (I 1 a) f A) ∧ I' = I ∧ J' = J)) := by
  refine zMet_of (by decide) (Nat.le_of_ble_eq_true rfl) (fun X C hm hr => ?_)
  refine z_sub (lv' := [(0, .ref (zad w 0)), (1, .int (nI a)), (2, .int f)]) [0, 1, 2] rfl ?_
  refine z_aload_n C dX7_habitOf_0 rfl 0 rfl ?_
  refine z_getr C ff_X7_62 0 (by decide) sh0 rfl dX7_habitOf_1 ?_
  refine z_geth C ff_X7_104 5 (by decide) sh5 rfl (q := 47 + 5 * h) (zhd_h hH hh) dX7_habitOf_4 ?_
  refine z_iload_n C dX7_habitOf_7 rfl 1 rfl ?_
  refine z_aload_n C dX7_habitOf_8 rfl 0 rfl ?_
  refine z_getr C ff_X7_11 0 (by decide) sh0 rfl dX7_habitOf_9 ?_
  refine z_iload_n C dX7_habitOf_12 rfl 1 rfl ?_
  refine z_iald C 1 (by decide) sh1 a (by omega) (by decide) rfl (v := I 1 a) rfl dX7_habitOf_13 ?_
  refine z_iload_n C dX7_habitOf_14 rfl 2 rfl ?_
  refine z_callVi C hm cl_X7_330 cv_X1_habitOf (47 + 5 * h) (shLn0 hh) (shL0 hh) ⟨_, _, rfl⟩ [.int (nI a), .int (I 1 a), .int f] rfl (rest := []) rfl (k_X1_habitOf w _ _ h A (nI a) (I 1 a) f hh hL) ⟨rfl, rfl, Nat.le_of_ble_eq_true rfl, Nat.le_of_ble_eq_true rfl⟩ (Nat.le_of_ble_eq_true rfl) dX7_habitOf_15 (fun v_1 I_1 J_1 h_1 => ?_)
  obtain ⟨ev_1, ei_1, ej_1⟩ := h_1
  replace ev_1 := ev_1.symm; subst ev_1
  replace ei_1 := ei_1.symm; subst ei_1
  replace ej_1 := ej_1.symm; subst ej_1
  refine z_iret C hr rfl dX7_habitOf_18 ?_
  refine ⟨_, rfl, ?_⟩
  exact ⟨rfl, rfl, rfl⟩
abbrev rm_X7_spreadAll : Room := { frames := 9, cells := 0, slots := 0, locals := 328 }
set_option maxRecDepth 100000 in
set_option maxHeartbeats 4000000 in
theorem k_X7_spreadAll (w : zW) (I : zI) (J : zJ) (n : Nat) (h : Nat) (A : List zCla) (hd : Nat → Option Nat)  (hN : I 0 1 = nI n) (hn : n ≤ 8) (hh : h < 7) (hH : I 5 2 = nI h) (hL : cLaw I h A) (hd7 : ∀ a, a < n → I 7 a = oI (hd a)) (hd99 : ∀ a k, hd a = some k → k ≤ 99) : zMet yX7_spreadAll cX7_spreadAll 1 none rm_X7_spreadAll w [.ref (zad w 0)] I J (zpv (fun I' J' => J' = J ∧ ∃ H Gr R Q, I' = zup (zup (zup (zup (zup I 23 (upd (upd (I 23) 6 (nI n)) 7 (nI (aSteps A)))) 25 H) 24 Gr) 26 R) 27 Q ∧ (∀ a, a < n → H a = nI (zT0 hd a)) ∧ (∀ a b, a < n → b < n → Gr (a * 8 + b) = nI (zGt (I 6) A a b)) ∧ ∀ a, a < n → R a = nI (ern 0 n (I 6) A hd a))) := by
  refine zMet_of (by decide) (Nat.le_of_ble_eq_true rfl) (fun X C hm hr => ?_)
  refine z_sub (lv' := [(0, .ref (zad w 0))]) [0] rfl ?_
  refine z_aload_n C dX7_spreadAll_0 rfl 0 rfl ?_
  refine z_getr C ff_X7_31 0 (by decide) sh0 rfl dX7_spreadAll_1 ?_
  refine z_aload_n C dX7_spreadAll_4 rfl 0 rfl ?_
  refine z_getr C ff_X7_62 0 (by decide) sh0 rfl dX7_spreadAll_5 ?_
  refine z_aload_n C dX7_spreadAll_8 rfl 0 rfl ?_
  refine z_geti C ff_X7_73 0 (by decide) sh0 rfl (v := nI n) hN dX7_spreadAll_9 ?_
  refine z_callVv C hm cl_X7_125 cv_X3_take 23 (by decide) sh23 ⟨_, _, rfl⟩ [.ref (zad w 5), .int (nI n)] rfl (rest := []) rfl (k_X3_take w _ _ h A hd n hn hh hH hL hd7 hd99) ⟨rfl, rfl, Nat.le_of_ble_eq_true rfl, Nat.le_of_ble_eq_true rfl⟩ (Nat.le_of_ble_eq_true rfl) dX7_spreadAll_12 (fun I_1 J_1 h_1 => ?_)
  obtain ⟨eJ_1, H_1, Gr_1, eI_1, hH_1, hG_1⟩ := h_1
  replace eJ_1 := eJ_1.symm; subst eJ_1
  subst eI_1
  refine z_aload_n C dX7_spreadAll_15 rfl 0 rfl ?_
  refine z_getr C ff_X7_31 0 (by decide) sh0 rfl dX7_spreadAll_16 ?_
  refine z_iconst C (v := 0) dX7_spreadAll_19 (by decide) ?_
  refine z_callVv C hm cl_X7_143 cv_X3_run 23 (by decide) sh23 ⟨_, _, rfl⟩ [.int 0] rfl (rest := []) rfl (k_X3_run w _ _ n (aSteps A) (zGt (I 6) A) (zT0 hd) 0 hn rfl rfl (aSteps_le A) (by decide) hH_1 (fun b _ => zT0_le hd99 b) hG_1 (fun a b _ _ => zGt_le hL.1 a b)) ⟨rfl, rfl, Nat.le_of_ble_eq_true rfl, Nat.le_of_ble_eq_true rfl⟩ (Nat.le_of_ble_eq_true rfl) dX7_spreadAll_20 (fun I_2 J_2 h_2 => ?_)
  obtain ⟨eJ_2, R_2, Q_2, eI_2, hR_2⟩ := h_2
  replace eJ_2 := eJ_2.symm; subst eJ_2
  subst eI_2
  refine z_vret C hr dX7_spreadAll_23 ?_
  refine ⟨rfl, ?_⟩
  exact ⟨rfl, H_1, Gr_1, R_2, Q_2, rfl, hH_1, hG_1, hR_2⟩
abbrev rm_X7_knowers : Room := { frames := 10, cells := 0, slots := 0, locals := 348 }
set_option maxRecDepth 100000 in
set_option maxHeartbeats 4000000 in
theorem k_X7_knowers (w : zW) (I : zI) (J : zJ) (n : Nat) (h : Nat) (A : List zCla) (hd : Nat → Option Nat) (hh9 : Nat) (hN : I 0 1 = nI n) (hn : n ≤ 8) (hh : h < 7) (hH : I 5 2 = nI h) (hL : cLaw I h A) (hd7 : ∀ a, a < n → I 7 a = oI (hd a)) (hd99 : ∀ a k, hd a = some k → k ≤ 99) (hhr : hh9 ≤ 99) : zMet yX7_knowers cX7_knowers 2 (some .int) rm_X7_knowers w [.ref (zad w 0), .int (nI hh9)] I J (zpi (fun v I' J' => v = nI (zpop (zset (fun a => decide (ern 0 n (I 6) A hd a ≤ hh9)) n)) ∧ J' = J ∧ frS I' I)) := by
  refine zMet_of (by decide) (Nat.le_of_ble_eq_true rfl) (fun X C hm hr => ?_)
  refine z_sub (lv' := [(0, .ref (zad w 0)), (1, .int (nI hh9))]) [0, 1] rfl ?_
  refine z_aload_n C dX7_knowers_0 rfl 0 rfl ?_
  refine z_callVv C hm cl_X7_118 cv_X7_spreadAll 0 (by decide) sh0 ⟨_, _, rfl⟩ [] rfl (rest := []) rfl (k_X7_spreadAll w _ _ n h A hd  (by exact hN) hn hh (by exact hH) hL hd7 hd99) ⟨rfl, rfl, Nat.le_of_ble_eq_true rfl, Nat.le_of_ble_eq_true rfl⟩ (Nat.le_of_ble_eq_true rfl) dX7_knowers_1 (fun I_1 J_1 h_1 => ?_)
  obtain ⟨eJ_1, H_1, Gr_1, R_1, Q_1, eI_1, hH_1, hG_1, hR_1⟩ := h_1
  replace eJ_1 := eJ_1.symm; subst eJ_1
  subst eI_1
  refine z_aload_n C dX7_knowers_4 rfl 0 rfl ?_
  refine z_getr C ff_X7_31 0 (by decide) sh0 rfl dX7_knowers_5 ?_
  refine z_iload_n C dX7_knowers_8 rfl 1 rfl ?_
  refine z_callVi C hm cl_X7_242 cv_X3_knownByAll 23 (by decide) sh23 ⟨_, _, rfl⟩ [.int (nI hh9)] rfl (rest := []) rfl (k_X3_knownByAll w _ _ n (ern 0 n (I 6) A hd) hh9 hn rfl hR_1 (fun b _ => ern_le hd99 b) hhr) ⟨rfl, rfl, Nat.le_of_ble_eq_true rfl, Nat.le_of_ble_eq_true rfl⟩ (Nat.le_of_ble_eq_true rfl) dX7_knowers_9 (fun v_2 I_2 J_2 h_2 => ?_)
  obtain ⟨ev_2, ei_2, ej_2⟩ := h_2
  replace ev_2 := ev_2.symm; subst ev_2
  replace ei_2 := ei_2.symm; subst ei_2
  replace ej_2 := ej_2.symm; subst ej_2
  refine z_callSi C hm cl_X7_138 cs_J6_bitCount_0f7a4 [.int (nI (zset (fun a => decide ((ern 0 n (I 6) A hd) a ≤ hh9)) n))] rfl (rest := []) rfl (k_J6_bitCount_0f7a4 w _ _  (nI (zset (fun a => decide ((ern 0 n (I 6) A hd) a ≤ hh9)) n)) ) ⟨rfl, rfl, Nat.le_of_ble_eq_true rfl, Nat.le_of_ble_eq_true rfl⟩ (Nat.le_of_ble_eq_true rfl) dX7_knowers_12 (fun v_3 I_3 J_3 h_3 => ?_)
  obtain ⟨ev_3, ei_3, ej_3⟩ := h_3
  replace ev_3 := ev_3.symm; subst ev_3
  replace ei_3 := ei_3.symm; subst ei_3
  replace ej_3 := ej_3.symm; subst ej_3
  refine z_ti (y := nI (zpop (zset (fun a => decide (ern 0 n (I 6) A hd a ≤ hh9)) n))) (zbc_pop _ (Nat.lt_of_lt_of_le (zset_lt n) (Nat.le_trans (Nat.pow_le_pow_right (by decide) hn) (by decide)))) ?_
  refine z_iret C hr rfl dX7_knowers_15 ?_
  refine ⟨_, rfl, ?_⟩
  exact ⟨rfl, rfl, (by intro zk hzk; simp only [zup]; rw [if_neg (by omega), if_neg (by omega), if_neg (by omega), if_neg (by omega), if_neg (by omega)])⟩
abbrev rm_X7_knownAlone : Room := { frames := 4, cells := 0, slots := 0, locals := 200 }
set_option maxRecDepth 100000 in
set_option maxHeartbeats 4000000 in
theorem k_X7_knownAlone (w : zW) (I : zI) (J : zJ)  (x : Int32)  : zMet yX7_knownAlone cX7_knownAlone 2 (some .boolean) rm_X7_knownAlone w [.int x] I J (zpi (fun v I' J' => v = bI ((x &&& 14) = 8) ∧ I' = I ∧ J' = J)) := by
  refine zMet_of (by decide) (Nat.le_of_ble_eq_true rfl) (fun X C hm hr => ?_)
  refine z_sub (lv' := [(0, .int x)]) [0] rfl ?_
  refine z_bipush C (v := 14) dX7_knownAlone_0 (by decide) ?_
  refine z_istore_n C hm (lv' := [(1, .int 14), (0, .int x)]) dX7_knownAlone_2 rfl (by decide) rfl ?_
  refine z_iload_n C dX7_knownAlone_3 rfl 1 rfl ?_
  refine z_iload_n C dX7_knownAlone_4 rfl 0 rfl ?_
  refine z_iand C dX7_knownAlone_5 ?_
  refine z_bipush C (v := 8) dX7_knownAlone_6 (by decide) ?_
  refine z_icmp_ne (tgt := 15) C dX7_knownAlone_8 (by decide) (fun c8 => ?_) (fun c8 => ?_)
  · skip
    refine z_iconst C (v := 0) dX7_knownAlone_15 (by decide) ?_
    refine z_iret C hr (by decide) dX7_knownAlone_16 ?_
    refine ⟨_, rfl, ?_⟩
    exact ⟨(bI_f c8).symm, rfl, rfl⟩
  · skip
    refine z_iconst C (v := 1) dX7_knownAlone_11 (by decide) ?_
    refine z_goto (tgt := 16) C dX7_knownAlone_12 (by decide) ?_
    refine z_iret C hr (by decide) dX7_knownAlone_16 ?_
    refine ⟨_, rfl, ?_⟩
    exact ⟨(bI_t c8).symm, rfl, rfl⟩
