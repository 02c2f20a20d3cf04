/-! readClause -/
abbrev zRc : Type := Nat × Option zCla
theorem zWd_some {c : Nat → Nat} {p u : Nat} : ∀ f u0, zWd c p f u0 = some u → zSt c p u = zLen.getD u 0 ∧ u0 ≤ u ∧ u < u0 + f
  | 0, _, h => by simp [zWd] at h
  | f + 1, u0, h => by
    rw [zWd] at h
    by_cases e : zSt c p u0 = zLen.getD u0 0
    · rw [if_pos e] at h; cases h; exact ⟨e, Nat.le_refl _, by omega⟩
    · rw [if_neg e] at h
      obtain ⟨h1, h2, h3⟩ := zWd_some f (u0 + 1) h
      exact ⟨h1, by omega, by omega⟩
noncomputable def zKl (c : Nat → Nat) (p : Nat) : zRc := match zWd c p 5 0 with
  | none => (p + zFt c p 5, none)
  | some u => if c (p + zLen.getD u 0) = 32 then (if zDc c 3 (p + zLen.getD u 0 + 1) = 0 then (p + zLen.getD u 0 + 1, none) else
      if u < 2 then (if c (p + zLen.getD u 0 + 1 + zDc c 3 (p + zLen.getD u 0 + 1)) = 32 then (match zEp c (zFp c 4) (p + zLen.getD u 0 + 1 + zDc c 3 (p + zLen.getD u 0 + 1) + 1) with
        | (q, none) => (q, none)
        | (q, some ts) => (q, some (u, zDv c (p + zLen.getD u 0 + 1) (zDc c 3 (p + zLen.getD u 0 + 1)), ts))) else (p + zLen.getD u 0 + 1 + zDc c 3 (p + zLen.getD u 0 + 1), none))
      else (p + zLen.getD u 0 + 1 + zDc c 3 (p + zLen.getD u 0 + 1), some (u, zDv c (p + zLen.getD u 0 + 1) (zDc c 3 (p + zLen.getD u 0 + 1)), []))) else (p + zLen.getD u 0, none)
def zPc (I I' : zI) (i u cn : Nat) (r : zRc) (v : Int32) : Prop := I' 2 = upd (I 2) 2 (nI r.1) ∧ (∀ k, k ≠ 2 → (k < 47 + 5 * i ∨ 47 + 5 * i + 4 < k) → I' k = I k) ∧ match r.2 with
  | none => v = 0
  | some q => v = 1 ∧ I' (47 + 5 * i) = upd (upd (I (47 + 5 * i)) 5 (nI (u + q.2.2.length))) 3 (nI (cn + 1)) ∧ I' (47 + 5 * i + 1) = upd (I (47 + 5 * i + 1)) cn (nI q.1) ∧ I' (47 + 5 * i + 2) = upd (I (47 + 5 * i + 2)) cn (nI q.2.1) ∧ I' (47 + 5 * i + 3) = upd (I (47 + 5 * i + 3)) cn (nI (u + q.2.2.length)) ∧ (∀ j, j < u → I' (47 + 5 * i + 4) j = I (47 + 5 * i + 4) j) ∧ ∀ j, j < q.2.2.length → I' (47 + 5 * i + 4) (u + j) = cTok (q.2.2.getD j (.inl 0))
theorem zPc_nar {I I' : zI} {i u cn : Nat} {r : zRc} {v : Int32} (h : zPc I I' i u cn r v) : narrow .boolean (.int v) = .int v := by
  obtain ⟨_, _, h⟩ := h
  rcases r with ⟨q, _ | ts⟩
  · have e : v = 0 := h
    subst e; decide
  · have e : v = 1 := h.1
    subst e; decide
/-- a clause that fails has moved the place alone -/
theorem zPc_no {I : zI} {i u cn q : Nat} : zPc I (zup I 2 (upd (I 2) 2 (nI q))) i u cn (q, none) 0 := ⟨zup_s, fun k h1 _ => zup_n h1, rfl⟩
theorem zPc_ne {I K : zI} {i u cn q p : Nat} (h : zPs (zup I 2 (upd (I 2) 2 (nI p))) K i u (q, none) 0) : zPc I K i u cn (q, none) 0 := by
  obtain ⟨a1, a2, _⟩ := h
  refine ⟨by rw [a1, zup_s, upd_2], fun k h1 h2 => ?_, rfl⟩
  rw [a2 k h1 (by omega) (by omega), zup_n h1]
theorem zPc_y0 {I : zI} {i u cn q wd nm : Nat} (hU : I (47 + 5 * i) 5 = nI u) : zPc I (zup (zup (zup (zup (zup I 2 (upd (I 2) 2 (nI q))) (47 + 5 * i + 1) (upd (I (47 + 5 * i + 1)) cn (nI wd))) (47 + 5 * i + 2) (upd (I (47 + 5 * i + 2)) cn (nI nm))) (47 + 5 * i + 3) (upd (I (47 + 5 * i + 3)) cn (nI u))) (47 + 5 * i) (upd (I (47 + 5 * i)) 3 (nI (cn + 1)))) i u cn (q, some (wd, nm, [])) 1 := by
  refine ⟨?_, ?_, rfl, ?_, ?_, ?_, ?_, ?_, ?_⟩
  · rw [zup_n (by omega), zup_n (by omega), zup_n (by omega), zup_n (by omega), zup_s]
  · intro k h1 h2; rw [zup_n (by omega), zup_n (by omega), zup_n (by omega), zup_n (by omega), zup_n h1]
  · rw [zup_s, show upd (I (47 + 5 * i)) 5 (nI (u + ([] : List zTok).length)) = I (47 + 5 * i) from by rw [show u + ([] : List zTok).length = u from rfl, ← hU, upd_id]]
  · rw [zup_n (by omega), zup_n (by omega), zup_n (by omega), zup_s]
  · rw [zup_n (by omega), zup_n (by omega), zup_s]
  · rw [zup_n (by omega), zup_s]; rfl
  · intro j hj; rw [zup_n (by omega), zup_n (by omega), zup_n (by omega), zup_n (by omega), zup_n (by omega)]
  · intro j hj; exact absurd hj (Nat.not_lt_zero _)
theorem zPc_y1 {I K : zI} {i u cn q p wd nm : Nat} {ts : List zTok} (h : zPs (zup I 2 (upd (I 2) 2 (nI p))) K i u (q, some ts) 1) : zPc I (zup (zup (zup (zup K (47 + 5 * i + 1) (upd (K (47 + 5 * i + 1)) cn (nI wd))) (47 + 5 * i + 2) (upd (K (47 + 5 * i + 2)) cn (nI nm))) (47 + 5 * i + 3) (upd (K (47 + 5 * i + 3)) cn (nI (u + ts.length)))) (47 + 5 * i) (upd (K (47 + 5 * i)) 3 (nI (cn + 1)))) i u cn (q, some (wd, nm, ts)) 1 := by
  obtain ⟨a1, a2, _, a3, a4, a5⟩ := h
  have b1 := a2 (47 + 5 * i + 1) (by omega) (by omega) (by omega)
  have b2 := a2 (47 + 5 * i + 2) (by omega) (by omega) (by omega)
  have b3 := a2 (47 + 5 * i + 3) (by omega) (by omega) (by omega)
  rw [zup_n (by omega)] at b1 b2 b3
  refine ⟨?_, ?_, rfl, ?_, ?_, ?_, ?_, ?_, ?_⟩
  · rw [zup_n (by omega), zup_n (by omega), zup_n (by omega), zup_n (by omega), a1, zup_s, upd_2]
  · intro k h1 h2; rw [zup_n (by omega), zup_n (by omega), zup_n (by omega), zup_n (by omega), a2 k h1 (by omega) (by omega), zup_n h1]
  · rw [zup_s, a3, zup_n (by omega)]
  · rw [zup_n (by omega), zup_n (by omega), zup_n (by omega), zup_s, b1]
  · rw [zup_n (by omega), zup_n (by omega), zup_s, b2]
  · rw [zup_n (by omega), zup_s, b3]
  · intro j hj; rw [zup_n (by omega), zup_n (by omega), zup_n (by omega), zup_n (by omega), a4 j hj, zup_n (by omega)]
  · intro j hj; rw [zup_n (by omega), zup_n (by omega), zup_n (by omega), zup_n (by omega)]; exact a5 j hj
abbrev rm_X5_readClause : Room := { frames := 35, cells := 0, slots := 0, locals := 1863 }
set_option maxRecDepth 100000 in
set_option maxHeartbeats 4000000 in
theorem k_X5_readClause (w : zW) (I : zI) (J : zJ) (i u cn : Nat) (c : Nat → Nat) (L p : Nat)  (hi7 : i < 7) (hcn : I (47 + 5 * i) 3 = nI cn) (hc10 : cn < 10) (hU : I (47 + 5 * i) 5 = nI u) (hu1 : u ≤ p) (hL : I 2 1 = nI L) (hl : L ≤ 100) (hp : I 2 2 = nI p) (hpl : p ≤ L) (hBy : ∀ q, q < L → I 3 q = nI (c q) ∧ c q < 256) (hBe : ∀ q, L ≤ q → c q = 300) : zMet yX5_readClause cX5_readClause 4 (some .boolean) rm_X5_readClause w [.ref (zad w 2), .ref (zad w (47 + 5 * i))] I J (zpi (fun v I' J' => zPc I I' i u cn (zKl c p) v ∧ J' = J)) := by
  refine zMet_of (by decide) (Nat.le_of_ble_eq_true rfl) (fun X C hm hr => ?_)
  refine z_sub (lv' := [(0, .ref (zad w 2)), (1, .ref (zad w (47 + 5 * i)))]) [0, 1] rfl ?_
  refine z_aload_n C dX5_readClause_0 rfl 0 rfl ?_
  refine z_callVi C hm cl_X5_35 cv_X5_readWord 2 (by decide) sh2 ⟨_, _, rfl⟩ [] rfl (rest := []) rfl (k_X5_readWord w _ _ c L p hL hl hp hpl hBy hBe) ⟨rfl, rfl, Nat.le_of_ble_eq_true rfl, Nat.le_of_ble_eq_true rfl⟩ (Nat.le_of_ble_eq_true rfl) dX5_readClause_1 (fun v_1 I_1 J_1 h_1 => ?_)
  obtain ⟨ev_1, ei_1, ej_1⟩ := h_1
  replace ej_1 := ej_1.symm; subst ej_1
  rcases hw : zWd c p 5 0 with _ | u0
  · skip
    rw [hw] at ev_1 ei_1; simp only at ev_1 ei_1; subst ev_1; subst ei_1
    refine z_istore_n C hm (lv' := [(2, .int (-1)), (0, .ref (zad w 2)), (1, .ref (zad w (47 + 5 * i)))]) dX5_readClause_4 rfl (by decide) rfl ?_
    refine z_iload_n C dX5_readClause_5 rfl 0 rfl ?_
    refine z_if_lt (tgt := 18) C dX5_readClause_6 (by decide) (fun c6 => ?_) (fun c6 => ?_)
    · skip
      refine z_iconst C (v := 0) dX5_readClause_18 (by decide) ?_
      refine z_iret C hr (by decide) dX5_readClause_19 ?_
      refine ⟨_, rfl, ?_⟩
      refine ⟨?_, rfl⟩
      unfold zKl; rw [hw]; simp only
      exact zPc_no
    · skip
      exact absurd (show (-1 : Int32) < 0 by decide) c6
  · skip
    rw [hw] at ev_1 ei_1; simp only at ev_1 ei_1; subst ev_1; subst ei_1
    obtain ⟨hst, _, hu5⟩ := zWd_some 5 0 hw
    have hp1 := zSt_L (c := c) (p := p) (u := u0) (by omega) hBe hpl
    rw [hst] at hp1
    refine z_istore_n C hm (lv' := [(2, .int (nI u0)), (0, .ref (zad w 2)), (1, .ref (zad w (47 + 5 * i)))]) dX5_readClause_4 rfl (by decide) rfl ?_
    refine z_iload_n C dX5_readClause_5 rfl 0 rfl ?_
    refine z_if_lt (tgt := 18) C dX5_readClause_6 (by decide) (fun c6 => ?_) (fun c6 => ?_)
    · skip
      exact absurd c6 (nI_pos (by omega))
    · skip
      refine z_aload_n C dX5_readClause_9 rfl 1 rfl ?_
      refine z_bipush C (v := 32) dX5_readClause_10 (by decide) ?_
      refine z_callVi C hm cl_X5_31 cv_X5_eats 2 (by decide) sh2 ⟨_, _, rfl⟩ [.int 32] rfl (rest := []) rfl (k_X5_eats w _ _ c L (p + zLen.getD u0 0) 32 hL hl rfl (by omega) hBy hBe (by decide)) ⟨rfl, rfl, Nat.le_of_ble_eq_true rfl, Nat.le_of_ble_eq_true rfl⟩ (Nat.le_of_ble_eq_true rfl) dX5_readClause_12 (fun v_2 I_2 J_2 h_2 => ?_)
      obtain ⟨ev_2, ei_2, ej_2⟩ := h_2
      replace ej_2 := ej_2.symm; subst ej_2
      by_cases ce1 : c (p + zLen.getD u0 0) = 32
      · skip
        rw [bI_t ce1] at ev_2; rw [cif_t ce1] at ei_2; subst ev_2; subst ei_2
        have ce1L : p + zLen.getD u0 0 < L := Nat.lt_of_not_le (fun z => by have := hBe _ z; omega)
        refine z_I (I' := zup I 2 (upd (I 2) 2 (nI (p + zLen.getD u0 0 + 1)))) (by funext zk; simp only [zup]; split <;> simp [upd_2]) ?_
        refine z_if_ne (tgt := 20) C dX5_readClause_15 (by decide) (fun c15 => ?_) (fun c15 => ?_)
        · skip
          refine z_aload_n C dX5_readClause_20 rfl 1 rfl ?_
          refine z_iconst C (v := 3) dX5_readClause_21 (by decide) ?_
          refine z_callVi C hm cl_X5_39 cv_X5_readNumber 2 (by decide) sh2 ⟨_, _, rfl⟩ [.int 3] rfl (rest := []) rfl (k_X5_readNumber w _ _ c L (p + zLen.getD u0 0 + 1) 3 hL hl rfl (by omega) hBy hBe (by decide)) ⟨rfl, rfl, Nat.le_of_ble_eq_true rfl, Nat.le_of_ble_eq_true rfl⟩ (Nat.le_of_ble_eq_true rfl) dX5_readClause_22 (fun v_3 I_3 J_3 h_3 => ?_)
          obtain ⟨ev_3, ei_3, ej_3⟩ := h_3
          replace ej_3 := ej_3.symm; subst ej_3
          subst ev_3; subst ei_3
          have hd3 := zDc_L hBe 3 (p + zLen.getD u0 0 + 1) (by omega)
          refine z_I (I' := zup I 2 (upd (I 2) 2 (nI (p + zLen.getD u0 0 + 1 + zDc c 3 (p + zLen.getD u0 0 + 1))))) (by funext zk; simp only [zup]; split <;> simp [upd_2]) ?_
          refine z_istore_n C hm (lv' := [(3, .int (zNu c 3 (p + zLen.getD u0 0 + 1))), (2, .int (nI u0)), (0, .ref (zad w 2)), (1, .ref (zad w (47 + 5 * i)))]) dX5_readClause_25 rfl (by decide) rfl ?_
          refine z_iload_n C dX5_readClause_26 rfl 0 rfl ?_
          refine z_if_ge (tgt := 32) C dX5_readClause_27 (by decide) (fun c27 => ?_) (fun c27 => ?_)
          · skip
            obtain ⟨hd0, hde⟩ := zNu_ge (by decide) c27
            rw [hde]
            refine z_iload_n C dX5_readClause_32 rfl 1 rfl ?_
            refine z_if_eq (tgt := 41) C dX5_readClause_33 (by decide) (fun c33 => ?_) (fun c33 => ?_)
            · skip
              have hu0 : u0 = 0 := (nI_0eq (by omega)).mp c33
              refine z_aload_n C dX5_readClause_41 rfl 2 rfl ?_
              refine z_bipush C (v := 32) dX5_readClause_42 (by decide) ?_
              refine z_callVi C hm cl_X5_31 cv_X5_eats 2 (by decide) sh2 ⟨_, _, rfl⟩ [.int 32] rfl (rest := []) rfl (k_X5_eats w _ _ c L (p + zLen.getD u0 0 + 1 + zDc c 3 (p + zLen.getD u0 0 + 1)) 32 hL hl rfl (by omega) hBy hBe (by decide)) ⟨rfl, rfl, Nat.le_of_ble_eq_true rfl, Nat.le_of_ble_eq_true rfl⟩ (Nat.le_of_ble_eq_true rfl) dX5_readClause_44 (fun v_4 I_4 J_4 h_4 => ?_)
              obtain ⟨ev_4, ei_4, ej_4⟩ := h_4
              replace ej_4 := ej_4.symm; subst ej_4
              by_cases ce2 : c (p + zLen.getD u0 0 + 1 + zDc c 3 (p + zLen.getD u0 0 + 1)) = 32
              · skip
                rw [bI_t ce2] at ev_4; rw [cif_t ce2] at ei_4; subst ev_4; subst ei_4
                have ce2L : p + zLen.getD u0 0 + 1 + zDc c 3 (p + zLen.getD u0 0 + 1) < L := Nat.lt_of_not_le (fun z => by have := hBe _ z; omega)
                refine z_I (I' := zup I 2 (upd (I 2) 2 (nI (p + zLen.getD u0 0 + 1 + zDc c 3 (p + zLen.getD u0 0 + 1) + 1)))) (by funext zk; simp only [zup]; split <;> simp [upd_2]) ?_
                refine z_if_eq (tgt := 59) C dX5_readClause_47 (by decide) (fun c47 => ?_) (fun c47 => ?_)
                · skip
                  exact absurd c47 (by decide)
                · skip
                  refine z_aload_n C dX5_readClause_50 rfl 2 rfl ?_
                  refine z_aload_n C dX5_readClause_51 rfl 3 rfl ?_
                  refine z_iconst C (v := 0) dX5_readClause_52 (by decide) ?_
                  refine z_callVi C hm cl_X5_43 cv_X5_readEither 2 (by decide) sh2 ⟨_, _, rfl⟩ [.ref (zad w (47 + 5 * i)), .int 0] rfl (rest := []) rfl (k_X5_ei w i c L hi7 hl hBe _ _ u (p + zLen.getD u0 0 + 1 + zDc c 3 (p + zLen.getD u0 0 + 1) + 1) hL rfl (by omega) hBy (by rw [zup_n (by omega)]; exact hU) (by omega)) ⟨rfl, rfl, Nat.le_of_ble_eq_true rfl, Nat.le_of_ble_eq_true rfl⟩ (Nat.le_of_ble_eq_true rfl) dX5_readClause_53 (fun v_5 I_5 J_5 h_5 => ?_)
                  obtain ⟨hz_5, ej_5⟩ := h_5
                  replace ej_5 := ej_5.symm; subst ej_5
                  rcases hq : zEp c (zFp c 4) (p + zLen.getD u0 0 + 1 + zDc c 3 (p + zLen.getD u0 0 + 1) + 1) with ⟨q, _ | ts⟩
                  · skip
                    rw [hq] at hz_5
                    have hv_5 : v_5 = 0 := hz_5.2.2; subst hv_5
                    refine z_if_ne (tgt := 61) C dX5_readClause_56 (by decide) (fun c56 => ?_) (fun c56 => ?_)
                    · skip
                      exact absurd rfl c56
                    · skip
                      refine z_iconst C (v := 0) dX5_readClause_59 (by decide) ?_
                      refine z_iret C hr (by decide) dX5_readClause_60 ?_
                      refine ⟨_, rfl, ?_⟩
                      refine ⟨?_, rfl⟩
                      unfold zKl; rw [hw]; simp only
                      rw [if_pos ce1]
                      rw [if_neg hd0]
                      rw [if_pos (by omega), if_pos ce2, hq]; exact zPc_ne hz_5
                  · skip
                    rw [hq] at hz_5
                    have hv_5 : v_5 = 1 := hz_5.2.2.1; subst hv_5
                    have h3f := hz_5.2.1 3 (by decide) (by omega) (by omega)
                    have hUq : I_5 (47 + 5 * i) 5 = nI (u + ts.length) := (zPs_f hz_5).2.2.1
                    have hcq : I_5 (47 + 5 * i) 3 = nI cn := by rw [hz_5.2.2.2.1, upd_n (by decide), zup_n (by omega)]; exact hcn
                    refine z_if_ne (tgt := 61) C dX5_readClause_56 (by decide) (fun c56 => ?_) (fun c56 => ?_)
                    · skip
                      refine z_aload_n C dX5_readClause_61 rfl 3 rfl ?_
                      refine z_iload_n C dX5_readClause_62 rfl 1 rfl ?_
                      refine z_iload_n C dX5_readClause_63 rfl 0 rfl ?_
                      refine z_callVv C hm cl_X5_47 cv_X1_endClause (47 + 5 * i) (shLn0 hi7) (shL0 hi7) ⟨_, _, rfl⟩ [.int (nI u0), .int (nI (zDv c (p + zLen.getD u0 0 + 1) (zDc c 3 (p + zLen.getD u0 0 + 1))))] rfl (rest := []) rfl (k_X1_endClause w _ _ i cn (u + ts.length) _ _ hi7 hcq hUq hc10) ⟨rfl, rfl, Nat.le_of_ble_eq_true rfl, Nat.le_of_ble_eq_true rfl⟩ (Nat.le_of_ble_eq_true rfl) dX5_readClause_64 (fun I_6 J_6 h_6 => ?_)
                      obtain ⟨ei_6, ej_6⟩ := h_6
                      replace ei_6 := ei_6.symm; subst ei_6
                      replace ej_6 := ej_6.symm; subst ej_6
                      refine z_iconst C (v := 1) dX5_readClause_67 (by decide) ?_
                      refine z_iret C hr (by decide) dX5_readClause_68 ?_
                      refine ⟨_, rfl, ?_⟩
                      refine ⟨?_, rfl⟩
                      unfold zKl; rw [hw]; simp only
                      rw [if_pos ce1]
                      rw [if_neg hd0]
                      rw [if_pos (by omega), if_pos ce2, hq]; exact zPc_y1 hz_5
                    · skip
                      exact absurd c56 (by decide)
              · skip
                rw [bI_f ce2] at ev_4; rw [cif_f ce2] at ei_4; subst ev_4; subst ei_4
                refine z_if_eq (tgt := 59) C dX5_readClause_47 (by decide) (fun c47 => ?_) (fun c47 => ?_)
                · skip
                  refine z_iconst C (v := 0) dX5_readClause_59 (by decide) ?_
                  refine z_iret C hr (by decide) dX5_readClause_60 ?_
                  refine ⟨_, rfl, ?_⟩
                  refine ⟨?_, rfl⟩
                  unfold zKl; rw [hw]; simp only
                  rw [if_pos ce1]
                  rw [if_neg hd0]
                  rw [if_pos (by omega), if_neg ce2]; exact zPc_no
                · skip
                  exact absurd rfl c47
            · skip
              have hu0 : u0 ≠ 0 := fun q => c33 (by rw [q]; rfl)
              refine z_iload_n C dX5_readClause_36 rfl 1 rfl ?_
              refine z_iconst C (v := 1) dX5_readClause_37 (by decide) ?_
              refine z_icmp_ne_n u0 1 (tgt := 61) C rfl rfl (by omega) (by omega) dX5_readClause_38 (by decide) (fun c38 => ?_) (fun c38 => ?_)
              · skip
                refine z_aload_n C dX5_readClause_61 rfl 3 rfl ?_
                refine z_iload_n C dX5_readClause_62 rfl 1 rfl ?_
                refine z_iload_n C dX5_readClause_63 rfl 0 rfl ?_
                refine z_callVv C hm cl_X5_47 cv_X1_endClause (47 + 5 * i) (shLn0 hi7) (shL0 hi7) ⟨_, _, rfl⟩ [.int (nI u0), .int (nI (zDv c (p + zLen.getD u0 0 + 1) (zDc c 3 (p + zLen.getD u0 0 + 1))))] rfl (rest := []) rfl (k_X1_endClause w _ _ i cn u _ _ hi7 (by rw [zup_n (by omega)]; exact hcn) (by rw [zup_n (by omega)]; exact hU) hc10) ⟨rfl, rfl, Nat.le_of_ble_eq_true rfl, Nat.le_of_ble_eq_true rfl⟩ (Nat.le_of_ble_eq_true rfl) dX5_readClause_64 (fun I_7 J_7 h_7 => ?_)
                obtain ⟨ei_7, ej_7⟩ := h_7
                replace ei_7 := ei_7.symm; subst ei_7
                replace ej_7 := ej_7.symm; subst ej_7
                refine z_I (I' := zup (zup (zup (zup (zup I 2 (upd (I 2) 2 (nI (p + zLen.getD u0 0 + 1 + zDc c 3 (p + zLen.getD u0 0 + 1))))) (47 + 5 * i + 1) (upd (I (47 + 5 * i + 1)) cn (nI u0))) (47 + 5 * i + 2) (upd (I (47 + 5 * i + 2)) cn (nI (zDv c (p + zLen.getD u0 0 + 1) (zDc c 3 (p + zLen.getD u0 0 + 1)))))) (47 + 5 * i + 3) (upd (I (47 + 5 * i + 3)) cn (nI u))) (47 + 5 * i) (upd (I (47 + 5 * i)) 3 (nI (cn + 1)))) (by rw [zup_n (a := 2) (by omega), zup_n (a := 2) (by omega), zup_n (a := 2) (by omega), zup_n (a := 2) (by omega)]) ?_
                refine z_iconst C (v := 1) dX5_readClause_67 (by decide) ?_
                refine z_iret C hr (by decide) dX5_readClause_68 ?_
                refine ⟨_, rfl, ?_⟩
                refine ⟨?_, rfl⟩
                unfold zKl; rw [hw]; simp only
                rw [if_pos ce1]
                rw [if_neg hd0]
                rw [if_neg (by omega)]; exact zPc_y0 hU
              · skip
                refine z_aload_n C dX5_readClause_41 rfl 2 rfl ?_
                refine z_bipush C (v := 32) dX5_readClause_42 (by decide) ?_
                refine z_callVi C hm cl_X5_31 cv_X5_eats 2 (by decide) sh2 ⟨_, _, rfl⟩ [.int 32] rfl (rest := []) rfl (k_X5_eats w _ _ c L (p + zLen.getD u0 0 + 1 + zDc c 3 (p + zLen.getD u0 0 + 1)) 32 hL hl rfl (by omega) hBy hBe (by decide)) ⟨rfl, rfl, Nat.le_of_ble_eq_true rfl, Nat.le_of_ble_eq_true rfl⟩ (Nat.le_of_ble_eq_true rfl) dX5_readClause_44 (fun v_8 I_8 J_8 h_8 => ?_)
                obtain ⟨ev_8, ei_8, ej_8⟩ := h_8
                replace ej_8 := ej_8.symm; subst ej_8
                by_cases ce2 : c (p + zLen.getD u0 0 + 1 + zDc c 3 (p + zLen.getD u0 0 + 1)) = 32
                · skip
                  rw [bI_t ce2] at ev_8; rw [cif_t ce2] at ei_8; subst ev_8; subst ei_8
                  have ce2L : p + zLen.getD u0 0 + 1 + zDc c 3 (p + zLen.getD u0 0 + 1) < L := Nat.lt_of_not_le (fun z => by have := hBe _ z; omega)
                  refine z_I (I' := zup I 2 (upd (I 2) 2 (nI (p + zLen.getD u0 0 + 1 + zDc c 3 (p + zLen.getD u0 0 + 1) + 1)))) (by funext zk; simp only [zup]; split <;> simp [upd_2]) ?_
                  refine z_if_eq (tgt := 59) C dX5_readClause_47 (by decide) (fun c47 => ?_) (fun c47 => ?_)
                  · skip
                    exact absurd c47 (by decide)
                  · skip
                    refine z_aload_n C dX5_readClause_50 rfl 2 rfl ?_
                    refine z_aload_n C dX5_readClause_51 rfl 3 rfl ?_
                    refine z_iconst C (v := 0) dX5_readClause_52 (by decide) ?_
                    refine z_callVi C hm cl_X5_43 cv_X5_readEither 2 (by decide) sh2 ⟨_, _, rfl⟩ [.ref (zad w (47 + 5 * i)), .int 0] rfl (rest := []) rfl (k_X5_ei w i c L hi7 hl hBe _ _ u (p + zLen.getD u0 0 + 1 + zDc c 3 (p + zLen.getD u0 0 + 1) + 1) hL rfl (by omega) hBy (by rw [zup_n (by omega)]; exact hU) (by omega)) ⟨rfl, rfl, Nat.le_of_ble_eq_true rfl, Nat.le_of_ble_eq_true rfl⟩ (Nat.le_of_ble_eq_true rfl) dX5_readClause_53 (fun v_9 I_9 J_9 h_9 => ?_)
                    obtain ⟨hz_9, ej_9⟩ := h_9
                    replace ej_9 := ej_9.symm; subst ej_9
                    rcases hq : zEp c (zFp c 4) (p + zLen.getD u0 0 + 1 + zDc c 3 (p + zLen.getD u0 0 + 1) + 1) with ⟨q, _ | ts⟩
                    · skip
                      rw [hq] at hz_9
                      have hv_9 : v_9 = 0 := hz_9.2.2; subst hv_9
                      refine z_if_ne (tgt := 61) C dX5_readClause_56 (by decide) (fun c56 => ?_) (fun c56 => ?_)
                      · skip
                        exact absurd rfl c56
                      · skip
                        refine z_iconst C (v := 0) dX5_readClause_59 (by decide) ?_
                        refine z_iret C hr (by decide) dX5_readClause_60 ?_
                        refine ⟨_, rfl, ?_⟩
                        refine ⟨?_, rfl⟩
                        unfold zKl; rw [hw]; simp only
                        rw [if_pos ce1]
                        rw [if_neg hd0]
                        rw [if_pos (by omega), if_pos ce2, hq]; exact zPc_ne hz_9
                    · skip
                      rw [hq] at hz_9
                      have hv_9 : v_9 = 1 := hz_9.2.2.1; subst hv_9
                      have h3f := hz_9.2.1 3 (by decide) (by omega) (by omega)
                      have hUq : I_9 (47 + 5 * i) 5 = nI (u + ts.length) := (zPs_f hz_9).2.2.1
                      have hcq : I_9 (47 + 5 * i) 3 = nI cn := by rw [hz_9.2.2.2.1, upd_n (by decide), zup_n (by omega)]; exact hcn
                      refine z_if_ne (tgt := 61) C dX5_readClause_56 (by decide) (fun c56 => ?_) (fun c56 => ?_)
                      · skip
                        refine z_aload_n C dX5_readClause_61 rfl 3 rfl ?_
                        refine z_iload_n C dX5_readClause_62 rfl 1 rfl ?_
                        refine z_iload_n C dX5_readClause_63 rfl 0 rfl ?_
                        refine z_callVv C hm cl_X5_47 cv_X1_endClause (47 + 5 * i) (shLn0 hi7) (shL0 hi7) ⟨_, _, rfl⟩ [.int (nI u0), .int (nI (zDv c (p + zLen.getD u0 0 + 1) (zDc c 3 (p + zLen.getD u0 0 + 1))))] rfl (rest := []) rfl (k_X1_endClause w _ _ i cn (u + ts.length) _ _ hi7 hcq hUq hc10) ⟨rfl, rfl, Nat.le_of_ble_eq_true rfl, Nat.le_of_ble_eq_true rfl⟩ (Nat.le_of_ble_eq_true rfl) dX5_readClause_64 (fun I_10 J_10 h_10 => ?_)
                        obtain ⟨ei_10, ej_10⟩ := h_10
                        replace ei_10 := ei_10.symm; subst ei_10
                        replace ej_10 := ej_10.symm; subst ej_10
                        refine z_iconst C (v := 1) dX5_readClause_67 (by decide) ?_
                        refine z_iret C hr (by decide) dX5_readClause_68 ?_
                        refine ⟨_, rfl, ?_⟩
                        refine ⟨?_, rfl⟩
                        unfold zKl; rw [hw]; simp only
                        rw [if_pos ce1]
                        rw [if_neg hd0]
                        rw [if_pos (by omega), if_pos ce2, hq]; exact zPc_y1 hz_9
                      · skip
                        exact absurd c56 (by decide)
                · skip
                  rw [bI_f ce2] at ev_8; rw [cif_f ce2] at ei_8; subst ev_8; subst ei_8
                  refine z_if_eq (tgt := 59) C dX5_readClause_47 (by decide) (fun c47 => ?_) (fun c47 => ?_)
                  · skip
                    refine z_iconst C (v := 0) dX5_readClause_59 (by decide) ?_
                    refine z_iret C hr (by decide) dX5_readClause_60 ?_
                    refine ⟨_, rfl, ?_⟩
                    refine ⟨?_, rfl⟩
                    unfold zKl; rw [hw]; simp only
                    rw [if_pos ce1]
                    rw [if_neg hd0]
                    rw [if_pos (by omega), if_neg ce2]; exact zPc_no
                  · skip
                    exact absurd rfl c47
          · skip
            have hd0 := zNu_lt (by decide) c27
            refine z_iconst C (v := 0) dX5_readClause_30 (by decide) ?_
            refine z_iret C hr (by decide) dX5_readClause_31 ?_
            refine ⟨_, rfl, ?_⟩
            refine ⟨?_, rfl⟩
            unfold zKl; rw [hw]; simp only
            rw [if_pos ce1]
            rw [if_pos hd0]; rw [hd0, Nat.add_zero]; exact zPc_no
        · skip
          exact absurd c15 (by decide)
      · skip
        rw [bI_f ce1] at ev_2; rw [cif_f ce1] at ei_2; subst ev_2; subst ei_2
        refine z_if_ne (tgt := 20) C dX5_readClause_15 (by decide) (fun c15 => ?_) (fun c15 => ?_)
        · skip
          exact absurd rfl c15
        · skip
          refine z_iconst C (v := 0) dX5_readClause_18 (by decide) ?_
          refine z_iret C hr (by decide) dX5_readClause_19 ?_
          refine ⟨_, rfl, ?_⟩
          refine ⟨?_, rfl⟩
          unfold zKl; rw [hw]; simp only
          rw [if_neg ce1]; exact zPc_no
