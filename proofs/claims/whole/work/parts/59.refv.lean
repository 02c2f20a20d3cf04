/-! the reference: clauses -/
def zC8 (I I' : zI) (u0 cc : Nat) (r : zRc) (v : Int32) : Prop := (∀ k, k ≠ 82 → (k < 88 ∨ 93 < k) → I' k = I k) ∧ frO8 (I' 82) (I 82) ∧ I' 82 7 = nI r.1 ∧ (∀ k, k < u0 → I' 92 k = I 92 k) ∧ (∀ k, k ≠ cc → I' 88 k = I 88 k ∧ I' 89 k = I 89 k ∧ I' 90 k = I 90 k ∧ I' 91 k = I 91 k) ∧ match r.2 with
  | none => v = 0
  | some q => v = 1 ∧ I' 88 cc = nI q.1 ∧ I' 89 cc = nI q.2.1 ∧ I' 82 17 = nI (u0 + q.2.2.length) ∧ (q.1 < 2 → I' 90 cc = nI u0 ∧ I' 91 cc = nI (u0 + q.2.2.length) ∧ ∀ j, j < q.2.2.length → I' 92 (u0 + j) = mTok (q.2.2.getD j dTk))
theorem zC8_0 {I : zI} {u0 cc q : Nat} {x : Int32} {O : Nat → Int32} (hO : frO8 O (I 82)) (h7 : O 7 = nI q) : zC8 I (zup (zup I 88 (upd (I 88) cc x)) 82 O) u0 cc (q, none) 0 := by
  refine ⟨fun k h1 h2 => ?_, ?_, ?_, fun k hk => ?_, fun k hk => ⟨?_, ?_, ?_, ?_⟩, rfl⟩
  · rw [zup_n h1, zup_n (by omega)]
  · rw [zup_s]; exact hO
  · rw [zup_s]; exact h7
  · rw [zup_n (by decide), zup_n (by decide)]
  · rw [zup_n (by decide), zup_s]; exact upd_n hk
  · rw [zup_n (by decide), zup_n (by decide)]
  · rw [zup_n (by decide), zup_n (by decide)]
  · rw [zup_n (by decide), zup_n (by decide)]
theorem zC8_f {I : zI} {u0 cc q : Nat} {x y v : Int32} {O : Nat → Int32} {r : Option zCla} (hO : frO8 O (I 82)) (h7 : O 7 = nI q) (h17 : O 17 = nI u0) (hr : (r = none ∧ v = 0) ∨ ∃ w m, r = some (w, m, []) ∧ v = 1 ∧ 2 ≤ w ∧ x = nI w ∧ y = nI m) : zC8 I (zup (zup (zup I 88 (upd (I 88) cc x)) 82 O) 89 (upd (I 89) cc y)) u0 cc (q, r) v := by
  refine ⟨fun k h1 h2 => ?_, ?_, ?_, fun k hk => ?_, fun k hk => ⟨?_, ?_, ?_, ?_⟩, ?_⟩
  · rw [zup_n (by omega), zup_n h1, zup_n (by omega)]
  · rw [zup_n (by decide), zup_s]; exact hO
  · rw [zup_n (by decide), zup_s]; exact h7
  · rw [zup_n (by decide), zup_n (by decide), zup_n (by decide)]
  · rw [zup_n (by decide), zup_n (by decide), zup_s]; exact upd_n hk
  · rw [zup_s]; exact upd_n hk
  · rw [zup_n (by decide), zup_n (by decide), zup_n (by decide)]
  · rw [zup_n (by decide), zup_n (by decide), zup_n (by decide)]
  · rcases hr with ⟨e1, e2⟩ | ⟨w, m, e1, e2, e3, e4, e5⟩
    · subst e1; exact e2
    · subst e1
      refine ⟨e2, ?_, ?_, ?_, fun h => absurd h (by show ¬ w < 2; omega)⟩
      · rw [zup_n (by decide), zup_n (by decide), zup_s, upd_s]; exact e4
      · rw [zup_s, upd_s]; exact e5
      · rw [zup_n (by decide), zup_s]; exact h17
theorem zC8_e {I K : zI} {u0 cc q w m : Nat} {v : Int32} {O : Nat → Int32} {r : Option (List zTok)} (hO : frO8 O (I 82)) (h : zE8 (zup (zup (zup I 88 (upd (I 88) cc (nI w))) 82 O) 89 (upd (I 89) cc (nI m))) K u0 cc (q, r) v) : zC8 I K u0 cc (q, r.map fun ts => (w, m, ts)) v := by
  obtain ⟨a1, a2, a3, a4, a5, a6⟩ := h
  refine ⟨fun k h1 h2 => ?_, fun k h1 h2 h3 h4 h5 => ?_, a3, fun k hk => ?_, fun k hk => ⟨?_, ?_, ?_, ?_⟩, ?_⟩
  · rw [a1 k h1 (by omega), zup_n (by omega), zup_n h1, zup_n (by omega)]
  · rw [a2 k h1 h2 h3 h4 h5, zup_n (by decide), zup_s]; exact hO k h1 h2 h3 h4 h5
  · rw [a4 k hk, zup_n (by decide), zup_n (by decide), zup_n (by decide)]
  · rw [a1 88 (by decide) (by decide), zup_n (by decide), zup_n (by decide), zup_s]; exact upd_n hk
  · rw [a1 89 (by decide) (by decide), zup_s]; exact upd_n hk
  · rw [(a5 k hk).1, zup_n (by decide), zup_n (by decide), zup_n (by decide)]
  · rw [(a5 k hk).2, zup_n (by decide), zup_n (by decide), zup_n (by decide)]
  · rcases r with _ | ts
    · exact a6
    · obtain ⟨b1, b2, b3, b4, b5⟩ := a6
      refine ⟨b1, ?_, ?_, b4, fun _ => ⟨b2, b3, b5⟩⟩
      · rw [a1 88 (by decide) (by decide), zup_n (by decide), zup_n (by decide), zup_s]; exact upd_s
      · rw [a1 89 (by decide) (by decide), zup_s]; exact upd_s
theorem upd_787 {f : Nat → Int32} {a b d : Int32} : upd (upd (upd f 7 a) 8 b) 7 d = upd (upd f 8 b) 7 d := by
  funext j
  by_cases h : j = 7
  · simp [upd, h]
  · simp [upd, h]
abbrev rm_X8_takesClause : Room := { frames := 9, cells := 0, slots := 0, locals := 310 }
set_option maxRecDepth 100000 in
set_option maxHeartbeats 4000000 in
theorem k_X8_takesClause (w : zW) (I : zI) (J : zJ) (u0 : Nat) (c : Nat → Nat) (L p : Nat) (cc : Nat) (hL : I 82 6 = nI L) (hl : L ≤ 100) (hp : I 82 7 = nI p) (hpl : p ≤ L) (hBy : ∀ q, q < L → I 86 q = zNx (c q) ∧ c q < 256) (hBe : ∀ q, L ≤ q → c q = 300) (hs : I 82 17 = nI u0) (hcc : cc < 60) (hub : u0 + L ≤ 600 + p) : zMet yX8_takesClause cX8_takesClause 2 (some .boolean) rm_X8_takesClause w [.ref (zad w 82), .int (nI cc)] I J (zpi (fun v I' J' => zC8 I I' u0 cc (zKl c p) v ∧ J' = J)) := by
  refine zMet_of (by decide) (Nat.le_of_ble_eq_true rfl) (fun X C hm hr => ?_)
  refine z_sub (lv' := [(0, .ref (zad w 82)), (1, .int (nI cc))]) [0, 1] rfl ?_
  have hu5 := uHd_5 (c := c) (p := p)
  refine z_aload_n C dX8_takesClause_0 rfl 0 rfl ?_
  refine z_iload_n C dX8_takesClause_1 rfl 1 rfl ?_
  refine z_callVi C hm cl_X8_239 cv_X8_takesHead 82 (by decide) sh82 ⟨_, _, rfl⟩ [.int (nI cc)] rfl (rest := []) rfl (k_X8_takesHead w _ _ c L p cc (by exact hL) hl (by exact hp) (by omega) (by exact hBy) hBe hcc) ⟨rfl, rfl, Nat.le_of_ble_eq_true rfl, Nat.le_of_ble_eq_true rfl⟩ (Nat.le_of_ble_eq_true rfl) dX8_takesClause_2 (fun v_1 I_1 J_1 h_1 => ?_)
  obtain ⟨ev_1, ei_1, ej_1⟩ := h_1
  replace ej_1 := ej_1.symm; subst ej_1
  by_cases hf : zSt c p (uHd c p) = zLen.getD (uHd c p) 0
  · skip
    rw [cif_t hf] at ei_1
    by_cases h32 : c (p + zLen.getD (uHd c p) 0) = 32
    · skip
      rw [bI_t ⟨hf, h32⟩] at ev_1; rw [cif_t h32] at ei_1
      have hpL : p + zLen.getD (uHd c p) 0 < L := Nat.lt_of_not_le (fun z => by have := hBe _ z; omega)
      obtain ⟨P, hP⟩ : ∃ P, P = p + zLen.getD (uHd c p) 0 + 1 := ⟨_, rfl⟩
      rw [show p + (zLen.getD (uHd c p) 0 + 1) = P by omega] at ei_1; subst ev_1; subst ei_1
      refine z_if_eq (tgt := 16) C dX8_takesClause_5 (by decide) (fun c5 => ?_) (fun c5 => ?_)
      · skip
        exact absurd c5 (by decide)
      · skip
        refine z_aload_n C dX8_takesClause_8 rfl 0 rfl ?_
        refine z_iconst C (v := 3) dX8_takesClause_9 (by decide) ?_
        refine z_callVi C hm cl_X8_216 cv_X8_takesNumber 82 (by decide) sh82 ⟨_, _, rfl⟩ [.int 3] rfl (rest := []) rfl (k_X8_takesNumber w _ _ c L P 3 (by exact hL) hl (by exact rfl) (by omega) (by exact hBy) hBe (by decide) (by decide)) ⟨rfl, rfl, Nat.le_of_ble_eq_true rfl, Nat.le_of_ble_eq_true rfl⟩ (Nat.le_of_ble_eq_true rfl) dX8_takesClause_10 (fun v_2 I_2 J_2 h_2 => ?_)
        obtain ⟨ev_2, ei_2, ej_2⟩ := h_2
        replace ej_2 := ej_2.symm; subst ej_2
        by_cases hd0 : zDc c 3 P = 0
        · skip
          rw [bI_f (fun q => q hd0)] at ev_2; rw [cif_f (fun q => q hd0)] at ei_2; subst ev_2; subst ei_2
          refine z_if_ne (tgt := 18) C dX8_takesClause_13 (by decide) (fun c13 => ?_) (fun c13 => ?_)
          · skip
            exact absurd rfl c13
          · skip
            refine z_iconst C (v := 0) dX8_takesClause_16 (by decide) ?_
            refine z_iret C hr (by decide) dX8_takesClause_17 ?_
            refine ⟨_, rfl, ?_⟩
            refine ⟨?_, rfl⟩
            have hk : zKl c p = (P, none) := by
              unfold zKl; rw [zHd.1 hf]; simp only; rw [if_pos h32, ← hP]; rw [if_pos hd0]
            rw [hk]
            exact zC8_0 (fun k h1 h2 h3 h4 h5 => by rw [upd_n h1]) upd_s
        · skip
          rw [bI_t hd0] at ev_2; rw [cif_t hd0] at ei_2; subst ev_2; subst ei_2
          have hd3 := zDc_L hBe 3 P (by omega)
          refine z_I (I' := zup (zup I 88 (upd (I 88) cc (nI (uHd c p)))) 82 (upd (upd (I 82) 8 (nI (zDv c P (zDc c 3 P)))) 7 (nI (P + zDc c 3 P)))) (by funext zk; by_cases h1 : zk = 82 <;> simp [zup, h1, upd_787]) ?_
          refine z_if_ne (tgt := 18) C dX8_takesClause_13 (by decide) (fun c13 => ?_) (fun c13 => ?_)
          · skip
            refine z_aload_n C dX8_takesClause_18 rfl 0 rfl ?_
            refine z_getr C ff_X8_47 82 (by decide) sh82 rfl dX8_takesClause_19 ?_
            refine z_iload_n C dX8_takesClause_22 rfl 1 rfl ?_
            refine z_aload_n C dX8_takesClause_23 rfl 0 rfl ?_
            refine z_geti C ff_X8_35 82 (by decide) sh82 rfl (v := nI (zDv c P (zDc c 3 P))) (by first | rfl | (simp [zup, zupJ, upd, vp_updL]; done)) dX8_takesClause_24 ?_
            refine z_iast C 89 (by decide) sh89 cc (by omega) (by decide) rfl dX8_takesClause_27 ?_
            refine z_I (I' := zup (zup (zup I 88 (upd (I 88) cc (nI (uHd c p)))) 82 (upd (upd (I 82) 8 (nI (zDv c P (zDc c 3 P)))) 7 (nI (P + zDc c 3 P)))) 89 (upd (I 89) cc (nI (zDv c P (zDc c 3 P))))) (by first | rfl | (rw [zup_n] <;> omega) | (rw [zup_n, zup_n] <;> omega)) ?_
            refine z_aload_n C dX8_takesClause_28 rfl 0 rfl ?_
            refine z_getr C ff_X8_44 82 (by decide) sh82 rfl dX8_takesClause_29 ?_
            refine z_iload_n C dX8_takesClause_32 rfl 1 rfl ?_
            refine z_iald C 88 (by decide) sh88 cc (by omega) (by decide) rfl (v := nI (uHd c p)) (by first | rfl | (simp [zup, zupJ, upd, vp_updL]; done)) dX8_takesClause_33 ?_
            refine z_iconst C (v := 1) dX8_takesClause_34 (by decide) ?_
            refine z_icmp_gt_n (uHd c p) 1 (tgt := 55) C rfl rfl (by omega) (by omega) dX8_takesClause_35 (by decide) (fun c35 => ?_) (fun c35 => ?_)
            · skip
              refine z_iconst C (v := 1) dX8_takesClause_55 (by decide) ?_
              refine z_goto (tgt := 60) C dX8_takesClause_56 (by decide) ?_
              refine z_iret C hr (by decide) dX8_takesClause_60 ?_
              refine ⟨_, rfl, ?_⟩
              refine ⟨?_, rfl⟩
              have hk : zKl c p = (P + zDc c 3 P, some (uHd c p, zDv c P (zDc c 3 P), [])) := by
                unfold zKl; rw [zHd.1 hf]; simp only; rw [if_pos h32, ← hP]; rw [if_neg hd0]; rw [if_neg (by omega)]
              rw [hk]
              exact zC8_f (fun k h1 h2 h3 h4 h5 => by rw [upd_n h1, upd_n h2]) upd_s hs (Or.inr ⟨_, _, rfl, rfl, by omega, rfl, rfl⟩)
            · skip
              refine z_aload_n C dX8_takesClause_38 rfl 0 rfl ?_
              refine z_bipush C (v := 32) dX8_takesClause_39 (by decide) ?_
              refine z_callVi C hm cl_X8_201 cv_X8_takes 82 (by decide) sh82 ⟨_, _, rfl⟩ [.int 32] rfl (rest := []) rfl (k_X8_takes w _ _ c L (P + zDc c 3 P) 32 (by exact hL) hl (by exact rfl) (by omega) (by exact hBy) hBe (by decide)) ⟨rfl, rfl, Nat.le_of_ble_eq_true rfl, Nat.le_of_ble_eq_true rfl⟩ (Nat.le_of_ble_eq_true rfl) dX8_takesClause_41 (fun v_3 I_3 J_3 h_3 => ?_)
              obtain ⟨ev_3, ei_3, ej_3⟩ := h_3
              replace ej_3 := ej_3.symm; subst ej_3
              by_cases ce2 : c (P + zDc c 3 P) = 32
              · skip
                rw [bI_t ce2] at ev_3; rw [cif_t ce2] at ei_3; subst ev_3; subst ei_3
                have ce2L : P + zDc c 3 P < L := Nat.lt_of_not_le (fun z => by have := hBe _ z; have := hBe 0; omega)
                refine z_I (I' := zup (zup (zup I 88 (upd (I 88) cc (nI (uHd c p)))) 82 (upd (upd (I 82) 8 (nI (zDv c P (zDc c 3 P)))) 7 (nI (P + zDc c 3 P + 1)))) 89 (upd (I 89) cc (nI (zDv c P (zDc c 3 P))))) (by funext zk; by_cases h1 : zk = 82 <;> simp [zup, h1, upd_2]) ?_
                refine z_if_eq (tgt := 59) C dX8_takesClause_44 (by decide) (fun c44 => ?_) (fun c44 => ?_)
                · skip
                  exact absurd c44 (by decide)
                · skip
                  refine z_aload_n C dX8_takesClause_47 rfl 0 rfl ?_
                  refine z_iload_n C dX8_takesClause_48 rfl 1 rfl ?_
                  refine z_callVi C hm cl_X8_242 cv_X8_takesE 82 (by decide) sh82 ⟨_, _, rfl⟩ [.int (nI cc)] rfl (rest := []) rfl (k_X8_takesE w _ _ u0 c L (P + zDc c 3 P + 1) cc (by exact hL) hl (by exact rfl) (by omega) (by exact hBy) hBe (by exact hs) hcc (by omega)) ⟨rfl, rfl, Nat.le_of_ble_eq_true rfl, Nat.le_of_ble_eq_true rfl⟩ (Nat.le_of_ble_eq_true rfl) dX8_takesClause_49 (fun v_4 I_4 J_4 h_4 => ?_)
                  obtain ⟨hz_4, ej_4⟩ := h_4
                  replace ej_4 := ej_4.symm; subst ej_4
                  rcases hq : zEp c (zFp c 4) (P + zDc c 3 P + 1) with ⟨q, _ | ts⟩
                  · skip
                    rw [hq] at hz_4
                    have hv_4 : v_4 = 0 := hz_4.2.2.2.2.2; subst hv_4
                    have hz := hz_4
                    refine z_if_eq (tgt := 59) C dX8_takesClause_52 (by decide) (fun c52 => ?_) (fun c52 => ?_)
                    · skip
                      refine z_iconst C (v := 0) dX8_takesClause_59 (by decide) ?_
                      refine z_iret C hr (by decide) dX8_takesClause_60 ?_
                      refine ⟨_, rfl, ?_⟩
                      refine ⟨?_, rfl⟩
                      have hk : zKl c p = (q, none) := by
                        unfold zKl; rw [zHd.1 hf]; simp only; rw [if_pos h32, ← hP]; rw [if_neg hd0]; rw [if_pos (by omega)]; rw [if_pos ce2, hq]
                      rw [hk]
                      exact zC8_e (fun k h1 h2 h3 h4 h5 => by rw [upd_n h1, upd_n h2]) hz
                    · skip
                      exact absurd rfl c52
                  · skip
                    rw [hq] at hz_4
                    have hv_4 : v_4 = 1 := hz_4.2.2.2.2.2.1; subst hv_4
                    have hz := hz_4
                    refine z_if_eq (tgt := 59) C dX8_takesClause_52 (by decide) (fun c52 => ?_) (fun c52 => ?_)
                    · skip
                      exact absurd c52 (by decide)
                    · skip
                      refine z_iconst C (v := 1) dX8_takesClause_55 (by decide) ?_
                      refine z_goto (tgt := 60) C dX8_takesClause_56 (by decide) ?_
                      refine z_iret C hr (by decide) dX8_takesClause_60 ?_
                      refine ⟨_, rfl, ?_⟩
                      refine ⟨?_, rfl⟩
                      have hk : zKl c p = (q, some (uHd c p, zDv c P (zDc c 3 P), ts)) := by
                        unfold zKl; rw [zHd.1 hf]; simp only; rw [if_pos h32, ← hP]; rw [if_neg hd0]; rw [if_pos (by omega)]; rw [if_pos ce2, hq]
                      rw [hk]
                      exact zC8_e (fun k h1 h2 h3 h4 h5 => by rw [upd_n h1, upd_n h2]) hz
              · skip
                rw [bI_f ce2] at ev_3; rw [cif_f ce2] at ei_3; subst ev_3; subst ei_3
                refine z_if_eq (tgt := 59) C dX8_takesClause_44 (by decide) (fun c44 => ?_) (fun c44 => ?_)
                · skip
                  refine z_iconst C (v := 0) dX8_takesClause_59 (by decide) ?_
                  refine z_iret C hr (by decide) dX8_takesClause_60 ?_
                  refine ⟨_, rfl, ?_⟩
                  refine ⟨?_, rfl⟩
                  have hk : zKl c p = (P + zDc c 3 P, none) := by
                    unfold zKl; rw [zHd.1 hf]; simp only; rw [if_pos h32, ← hP]; rw [if_neg hd0]; rw [if_pos (by omega)]; rw [if_neg ce2]
                  rw [hk]
                  exact zC8_f (fun k h1 h2 h3 h4 h5 => by rw [upd_n h1, upd_n h2]) upd_s hs (Or.inl ⟨rfl, rfl⟩)
                · skip
                  exact absurd rfl c44
          · skip
            exact absurd c13 (by decide)
    · skip
      rw [bI_f (fun q => h32 q.2)] at ev_1; rw [cif_f h32] at ei_1; subst ev_1; subst ei_1
      refine z_if_eq (tgt := 16) C dX8_takesClause_5 (by decide) (fun c5 => ?_) (fun c5 => ?_)
      · skip
        refine z_iconst C (v := 0) dX8_takesClause_16 (by decide) ?_
        refine z_iret C hr (by decide) dX8_takesClause_17 ?_
        refine ⟨_, rfl, ?_⟩
        refine ⟨?_, rfl⟩
        have hk : zKl c p = (p + zLen.getD (uHd c p) 0, none) := by
          unfold zKl; rw [zHd.1 hf]; simp only; rw [if_neg h32]
        rw [hk]
        exact zC8_0 (fun k h1 h2 h3 h4 h5 => by rw [upd_n h1]) upd_s
      · skip
        exact absurd rfl c5
  · skip
    rw [bI_f (fun q => hf q.1)] at ev_1; rw [cif_f hf] at ei_1; subst ev_1; subst ei_1
    refine z_if_eq (tgt := 16) C dX8_takesClause_5 (by decide) (fun c5 => ?_) (fun c5 => ?_)
    · skip
      refine z_iconst C (v := 0) dX8_takesClause_16 (by decide) ?_
      refine z_iret C hr (by decide) dX8_takesClause_17 ?_
      refine ⟨_, rfl, ?_⟩
      refine ⟨?_, rfl⟩
      have hk : zKl c p = (p + zSt c p (uHd c p), none) := by
        unfold zKl; rw [(zHd.2 hf).1]; simp only; rw [(zHd.2 hf).2]
      rw [hk]
      exact zC8_0 (fun k h1 h2 h3 h4 h5 => by rw [upd_n h1]) upd_s
    · skip
      exact absurd rfl c5
