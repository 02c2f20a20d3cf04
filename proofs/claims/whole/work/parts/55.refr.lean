/-! the reference: signs that wait -/
def zWs (f : Nat → Int32) : List Nat → Prop
  | [] => True
  | x :: ws => f ws.length = nI x ∧ zWs f ws
theorem zWs_u {f : Nat → Int32} {k : Nat} {x : Int32} : ∀ {ws : List Nat}, ws.length ≤ k → zWs f ws → zWs (upd f k x) ws
  | [], _, _ => trivial
  | b :: ws, hk, h => ⟨by rw [upd_n (by have : ws.length + 1 ≤ k := hk; omega)]; exact h.1, zWs_u (by have : ws.length + 1 ≤ k := hk; omega) h.2⟩
theorem zWs_p {f : Nat → Int32} {ws : List Nat} {x : Nat} (h : zWs f ws) : zWs (upd f ws.length (nI x)) (x :: ws) := ⟨upd_s, zWs_u (Nat.le_refl _) h⟩
def zMs (S W O : Nat → Int32) (u0 : Nat) (ts : List zTok) (ws : List Nat) : Prop := (∀ j, j < ts.length → S (u0 + j) = mTok (ts.getD j dTk)) ∧ O 17 = nI (u0 + ts.length) ∧ zWs W ws ∧ O 18 = nI ws.length ∧ O 19 = nI (cntW ws)
theorem app_l {ts : List zTok} {t : zTok} {j : Nat} (h : j < ts.length) : (ts ++ [t]).getD j dTk = ts.getD j dTk := by
  rw [List.getD_eq_getElem?_getD, List.getD_eq_getElem?_getD, List.getElem?_append_left h]
theorem app_r {ts : List zTok} {t : zTok} : (ts ++ [t]).getD ts.length dTk = t := by
  rw [List.getD_eq_getElem?_getD, List.getElem?_append_right (Nat.le_refl _), Nat.sub_self]; rfl
theorem zMs_t {S W O O' : Nat → Int32} {u0 : Nat} {ts : List zTok} {ws ws' : List Nat} {t : zTok} (h : zMs S W O u0 ts ws) (hw : zWs W ws') (h17 : O' 17 = nI (u0 + ts.length + 1)) (h18 : O' 18 = nI ws'.length) (h19 : O' 19 = nI (cntW ws')) : zMs (upd S (u0 + ts.length) (mTok t)) W O' u0 (ts ++ [t]) ws' := by
  have hlen : (ts ++ [t]).length = ts.length + 1 := by rw [List.length_append]; rfl
  refine ⟨fun j hj => ?_, by rw [hlen]; exact h17, hw, h18, h19⟩
  rw [hlen] at hj
  by_cases q : j = ts.length
  · rw [q, app_r]; exact upd_s
  · rw [upd_n (by omega), app_l (by omega)]; exact h.1 j (by omega)
theorem opT_neg {x : Nat} (h : x = 38 ∨ x = 124) : -(nI x) = mTok (opT x) := by
  rcases h with h | h <;> subst h <;> decide
def okW (ws : List Nat) : Prop := ∀ x, x ∈ ws → x = 33 ∨ x = 38 ∨ x = 40 ∨ x = 124
theorem okW_t {x : Nat} {ws : List Nat} (h : okW (x :: ws)) : okW ws := fun y hy => h y (List.mem_cons_of_mem _ hy)
theorem okW_h {x : Nat} {ws : List Nat} (h : okW (x :: ws)) : x = 33 ∨ x = 38 ∨ x = 40 ∨ x = 124 := h x List.mem_cons_self
theorem okW_c {x : Nat} {ws : List Nat} (hx : x = 33 ∨ x = 38 ∨ x = 40 ∨ x = 124) (h : okW ws) : okW (x :: ws) := fun y hy => by
  rcases List.mem_cons.mp hy with q | q
  · rw [q]; exact hx
  · exact h y q
theorem okW_wh : ∀ {ws : List Nat}, okW ws → okW (whW ws)
  | [], h => h
  | x :: ws, h => by
    rw [whW]; split
    · exact okW_wh (okW_t h)
    · exact h
theorem okW_st {s : Nat} : ∀ {ws : List Nat}, okW ws → okW (stW s ws)
  | [], h => h
  | x :: ws, h => by
    rw [stW]; split
    · exact okW_st (okW_t h)
    · exact h
theorem len_wh : ∀ ws : List Nat, (whT ws).length + (whW ws).length = ws.length
  | [] => rfl
  | x :: ws => by
    rw [whT, whW]
    by_cases h : x = 33
    · rw [if_pos h, if_pos h]
      have := len_wh ws
      simp only [List.length_cons]; omega
    · rw [if_neg h, if_neg h]; simp
theorem len_st {s : Nat} : ∀ ws : List Nat, (stT s ws).length + (stW s ws).length = ws.length
  | [] => rfl
  | x :: ws => by
    rw [stT, stW]
    by_cases h : x = 38 ∨ (x = 124 ∧ s ≠ 38)
    · rw [if_pos h, if_pos h]
      have := len_st (s := s) ws
      simp only [List.length_cons]; omega
    · rw [if_neg h, if_neg h]; simp
theorem cnt_st {s : Nat} : ∀ ws : List Nat, cntW (stW s ws) = cntW ws
  | [] => rfl
  | x :: ws => by
    rw [stW]
    by_cases h : x = 38 ∨ (x = 124 ∧ s ≠ 38)
    · rw [if_pos h, cnt_st ws, cntW, if_neg (by omega), Nat.zero_add]
    · rw [if_neg h]
theorem st_hd {s : Nat} : ∀ {ws ws' : List Nat} {x : Nat}, okW ws → stW 124 ws = x :: ws' → x = 33 ∨ x = 40
  | [], _, _, _, h => by cases h
  | y :: ws, ws', x, ho, h => by
    rw [stW] at h
    by_cases q : y = 38 ∨ (y = 124 ∧ (124 : Nat) ≠ 38)
    · rw [if_pos q] at h; exact st_hd (s := s) (okW_t ho) h
    · rw [if_neg q] at h
      cases h
      have := okW_h ho
      omega
theorem cnt_le : ∀ ws : List Nat, cntW ws ≤ ws.length
  | [] => Nat.le_refl _
  | x :: ws => by have := cnt_le ws; rw [cntW, List.length_cons]; split <;> omega
/-- where the waiting signs may be taken off -/
def frN (O I : Nat → Int32) : Prop := ∀ k, k ≠ 17 → k ≠ 18 → k ≠ 19 → O k = I k
abbrev rm_X8_put : Room := { frames := 4, cells := 0, slots := 0, locals := 200 }
set_option maxRecDepth 100000 in
set_option maxHeartbeats 4000000 in
theorem k_X8_put (w : zW) (I : zI) (J : zJ) (s : Nat) (v : Int32) (hs : I 82 17 = nI s) (hs6 : s < 600) : zMet yX8_put cX8_put 2 none rm_X8_put w [.ref (zad w 82), .int v] I J (zpv (fun I' J' => I' = zup (zup I 92 (upd (I 92) s v)) 82 (upd (I 82) 17 (nI (s + 1))) ∧ J' = J)) := by
  refine zMet_of (by decide) (Nat.le_of_ble_eq_true rfl) (fun X C hm hr => ?_)
  refine z_sub (lv' := [(0, .ref (zad w 82)), (1, .int v)]) [0, 1] rfl ?_
  refine z_aload_n C dX8_put_0 rfl 0 rfl ?_
  refine z_getr C ff_X8_56 82 (by decide) sh82 rfl dX8_put_1 ?_
  refine z_aload_n C dX8_put_4 rfl 0 rfl ?_
  refine z_geti C ff_X8_62 82 (by decide) sh82 rfl (v := nI s) hs dX8_put_5 ?_
  refine z_iload_n C dX8_put_8 rfl 1 rfl ?_
  refine z_iast C 92 (by decide) sh92 s (by omega) (by decide) rfl dX8_put_9 ?_
  refine z_I (I' := zup I 92 (upd (I 92) s v)) rfl ?_
  refine z_aload_n C dX8_put_10 rfl 0 rfl ?_
  refine z_dup C dX8_put_11 rfl ?_
  refine z_geti C ff_X8_62 82 (by decide) sh82 rfl (v := nI s) (by first | exact hs | (simp [zup, zupJ, upd, vp_updL]; exact hs)) dX8_put_12 ?_
  refine z_iconst C (v := 1) dX8_put_15 (by decide) ?_
  refine z_iadd C dX8_put_16 ?_
  refine z_ti (y := nI (s + 1)) (nI_add s 1) ?_
  refine z_puti C ff_X8_62 82 (by decide) sh82 rfl rfl rfl dX8_put_17 ?_
  refine z_I (I' := zup (zup I 92 (upd (I 92) s v)) 82 (upd (I 82) 17 (nI (s + 1)))) (by first | rfl | (rw [zup_n] <;> omega)) ?_
  refine z_vret C hr dX8_put_20 ?_
  refine ⟨rfl, ?_⟩
  exact ⟨rfl, rfl⟩
abbrev rm_X8_whole : Room := { frames := 5, cells := 0, slots := 0, locals := 221 }
set_option maxRecDepth 100000 in
set_option maxHeartbeats 4000000 in
theorem k_X8_whole (w : zW) (I : zI) (J : zJ) (u0 : Nat) (ts : List zTok) (ws : List Nat)  (hZ : zMs (I 92) (I 93) (I 82) u0 ts ws) (hok : okW ws) (hu6 : u0 + ts.length + ws.length ≤ 600) (hw1 : ws.length ≤ 101) : zMet yX8_whole cX8_whole 1 none rm_X8_whole w [.ref (zad w 82)] I J (zpv (fun I' J' => (∃ S O, I' = zup (zup I 92 S) 82 O ∧ zMs S (I 93) O u0 (ts ++ whT ws) (whW ws) ∧ frN O (I 82) ∧ ∀ k, k < u0 → S k = I 92 k) ∧ J' = J)) := by
  refine zMet_of (by decide) (Nat.le_of_ble_eq_true rfl) (fun X C hm hr => ?_)
  refine z_sub (lv' := [(0, .ref (zad w 82))]) [0] rfl ?_
  have L0 : ∀ (d : Nat) (ws1 : List Nat) (ts1 : List zTok) (S O : Nat → Int32) (I0 : zI), ws1.length < d → (zMs S (I 93) O u0 ts1 ws1) → (frN O (I 82)) → (∀ k, k < u0 → S k = I 92 k) → (ts1 ++ whT ws1 = ts ++ whT ws) → (whW ws1 = whW ws) → (ts1.length + ws1.length = ts.length + ws.length) → (okW ws1) → (ws1.length ≤ ws.length) → I0 = zup (zup I 92 S) 82 O → Z X w I0 J 0 [(0, .ref (zad w 82))] [] := by
    intro d
    induction d with
    | zero => intro ws1 ts1 S O I0 hd; exact absurd hd (Nat.not_lt_zero _)
    | succ d ih0 => 
      intro ws1 ts1 S O I0 hd0 hz hfO hfS hT hWe hln ho1 hwl e_I0
      replace e_I0 := e_I0.symm; subst e_I0
      refine z_aload_n C dX8_whole_0 rfl 0 rfl ?_
      refine z_geti C ff_X8_65 82 (by decide) sh82 rfl (v := nI ws1.length) (by first | exact hz.2.2.2.1 | (simp [zup, zupJ, upd, vp_updL]; exact hz.2.2.2.1)) dX8_whole_1 ?_
      refine z_if_le (tgt := 52) C dX8_whole_4 (by decide) (fun c4 => ?_) (fun c4 => ?_)
      · skip
        have hws : ws1 = [] := by
          rcases ws1 with _ | ⟨x, ws2⟩
          · rfl
          · exact absurd c4 (nI_nle (Nat.succ_pos _) (by have := hln; simp only [List.length_cons] at this ⊢; omega))
        refine z_vret C hr dX8_whole_52 ?_
        refine ⟨rfl, ?_⟩
        refine ⟨⟨S, O, rfl, ?_, hfO, hfS⟩, rfl⟩
        rw [← hT, ← hWe, hws]
        rw [hws] at hz
        rw [whT, whW, List.append_nil]; exact hz
      · skip
        obtain ⟨x, ws2, hws⟩ : ∃ x ws2, ws1 = x :: ws2 := by
          rcases ws1 with _ | ⟨x, ws2⟩
          · exact absurd (show nI 0 ≤ 0 by decide) c4
          · exact ⟨x, ws2, rfl⟩
        rw [hws] at hz hT hWe hln ho1 hwl
        simp only [List.length_cons] at hln hwl
        have hx4 := okW_h ho1
        obtain ⟨z1, z2, z3, z4, z5⟩ := id hz
        refine z_aload_n C dX8_whole_7 rfl 0 rfl ?_
        refine z_getr C ff_X8_59 82 (by decide) sh82 rfl dX8_whole_8 ?_
        refine z_aload_n C dX8_whole_11 rfl 0 rfl ?_
        refine z_geti C ff_X8_65 82 (by decide) sh82 rfl (v := nI (ws2.length + 1)) (by first | exact z4 | (simp [zup, zupJ, upd, vp_updL]; exact z4)) dX8_whole_12 ?_
        refine z_iconst C (v := 1) dX8_whole_15 (by decide) ?_
        refine z_isub C dX8_whole_16 ?_
        refine z_ti (y := nI ws2.length) (nI_pred _) ?_
        refine z_iald C 93 (by decide) sh93 ws2.length (by omega) (by decide) rfl (v := nI x) (by first | exact z3.1 | (simp [zup, zupJ, upd, vp_updL]; exact z3.1)) dX8_whole_17 ?_
        refine z_bipush C (v := 33) dX8_whole_18 (by decide) ?_
        refine z_icmp_ne_n x 33 (tgt := 52) C rfl rfl (by omega) (by omega) dX8_whole_20 (by decide) (fun c20 => ?_) (fun c20 => ?_)
        · skip
          refine z_vret C hr dX8_whole_52 ?_
          refine ⟨rfl, ?_⟩
          refine ⟨⟨S, O, rfl, ?_, hfO, hfS⟩, rfl⟩
          rw [← hT, ← hWe, whT, whW, if_neg c20, if_neg c20, List.append_nil]; exact hz
        · skip
          have hcx : cntW (x :: ws2) = cntW ws2 + 1 := by rw [cntW, if_pos (Or.inl c20), Nat.add_comm]
          refine z_aload_n C dX8_whole_23 rfl 0 rfl ?_
          refine z_bipush C (v := -33) dX8_whole_24 (by decide) ?_
          refine z_callVv C hm cl_X8_208 cv_X8_put 82 (by decide) sh82 ⟨_, _, rfl⟩ [.int (-33)] rfl (rest := []) rfl (k_X8_put w _ _ (u0 + ts1.length) (-33) (by exact z2) (by omega)) ⟨rfl, rfl, Nat.le_of_ble_eq_true rfl, Nat.le_of_ble_eq_true rfl⟩ (Nat.le_of_ble_eq_true rfl) dX8_whole_26 (fun I_1 J_1 h_1 => ?_)
          obtain ⟨ei_1, ej_1⟩ := h_1
          replace ei_1 := ei_1.symm; subst ei_1
          replace ej_1 := ej_1.symm; subst ej_1
          refine z_I (I' := zup (zup I 92 (upd S (u0 + ts1.length) (-33))) 82 (upd O 17 (nI (u0 + ts1.length + 1)))) (by funext zk; by_cases h1 : zk = 82 <;> by_cases h2 : zk = 92 <;> simp [zup, h1, h2, upd_2]) ?_
          refine z_aload_n C dX8_whole_29 rfl 0 rfl ?_
          refine z_dup C dX8_whole_30 rfl ?_
          refine z_geti C ff_X8_65 82 (by decide) sh82 rfl (v := nI (ws2.length + 1)) (by first | exact z4 | (simp [zup, zupJ, upd, vp_updL]; exact z4)) dX8_whole_31 ?_
          refine z_iconst C (v := 1) dX8_whole_34 (by decide) ?_
          refine z_isub C dX8_whole_35 ?_
          refine z_ti (y := nI ws2.length) (nI_pred _) ?_
          refine z_puti C ff_X8_65 82 (by decide) sh82 rfl rfl rfl dX8_whole_36 ?_
          refine z_I (I' := zup (zup I 92 (upd S (u0 + ts1.length) (-33))) 82 (upd (upd O 17 (nI (u0 + ts1.length + 1))) 18 (nI ws2.length))) (by rw [zup_s, zup_up]) ?_
          refine z_aload_n C dX8_whole_39 rfl 0 rfl ?_
          refine z_dup C dX8_whole_40 rfl ?_
          refine z_geti C ff_X8_68 82 (by decide) sh82 rfl (v := nI (cntW ws2 + 1)) (by first | exact (by rw [← hcx]; exact z5) | (simp [zup, zupJ, upd, vp_updL]; exact (by rw [← hcx]; exact z5))) dX8_whole_41 ?_
          refine z_iconst C (v := 1) dX8_whole_44 (by decide) ?_
          refine z_isub C dX8_whole_45 ?_
          refine z_ti (y := nI (cntW ws2)) (nI_pred _) ?_
          refine z_puti C ff_X8_68 82 (by decide) sh82 rfl rfl rfl dX8_whole_46 ?_
          refine z_I (I' := zup (zup I 92 (upd S (u0 + ts1.length) (-33))) 82 (upd (upd (upd O 17 (nI (u0 + ts1.length + 1))) 18 (nI ws2.length)) 19 (nI (cntW ws2)))) (by rw [zup_s, zup_up]) ?_
          refine z_goto (tgt := 0) C dX8_whole_49 (by decide) ?_
          exact z_sub [0] rfl (ih0  ws2 (ts1 ++ [.inl 0]) _ _ _ (by rw [hws, List.length_cons] at hd0; omega) (zMs_t (t := .inl 0) hz z3.2 rfl rfl rfl) (fun k h1 h2 h3 => by rw [upd_n h3, upd_n h2, upd_n h1]; exact hfO k h1 h2 h3) (fun k hk => by rw [upd_n (by omega)]; exact hfS k hk) (by rw [← hT, whT, if_pos c20]; simp only [List.append_assoc]; rfl) (by rw [← hWe, whW, if_pos c20]) (by rw [List.length_append]; simp only [List.length_cons, List.length_nil]; omega) (okW_t ho1) (by omega) rfl)
  exact z_sub [0] rfl (L0 _ ws ts (I 92) (I 82) _ (Nat.lt_succ_self _) hZ (fun _ _ _ _ => rfl) (fun _ _ => rfl) rfl rfl rfl hok (Nat.le_refl _) (by rw [zup_id, zup_id]))
abbrev rm_X8_settle : Room := { frames := 5, cells := 0, slots := 0, locals := 221 }
set_option maxRecDepth 100000 in
set_option maxHeartbeats 4000000 in
theorem k_X8_settle (w : zW) (I : zI) (J : zJ) (u0 : Nat) (ts : List zTok) (ws : List Nat) (sn : Nat) (hZ : zMs (I 92) (I 93) (I 82) u0 ts ws) (hok : okW ws) (hu6 : u0 + ts.length + ws.length ≤ 600) (hw1 : ws.length ≤ 101) (hsn : sn < 128) : zMet yX8_settle cX8_settle 2 none rm_X8_settle w [.ref (zad w 82), .int (nI sn)] I J (zpv (fun I' J' => (∃ S O, I' = zup (zup I 92 S) 82 O ∧ zMs S (I 93) O u0 (ts ++ stT sn ws) (stW sn ws) ∧ frN O (I 82) ∧ ∀ k, k < u0 → S k = I 92 k) ∧ J' = J)) := by
  refine zMet_of (by decide) (Nat.le_of_ble_eq_true rfl) (fun X C hm hr => ?_)
  refine z_sub (lv' := [(0, .ref (zad w 82)), (1, .int (nI sn))]) [0, 1] rfl ?_
  have L0 : ∀ (d : Nat) (ws1 : List Nat) (ts1 : List zTok) (S O : Nat → Int32) (I0 : zI), ws1.length < d → (zMs S (I 93) O u0 ts1 ws1) → (frN O (I 82)) → (∀ k, k < u0 → S k = I 92 k) → (ts1 ++ stT sn ws1 = ts ++ stT sn ws) → (stW sn ws1 = stW sn ws) → (ts1.length + ws1.length = ts.length + ws.length) → (okW ws1) → (ws1.length ≤ ws.length) → I0 = zup (zup I 92 S) 82 O → Z X w I0 J 0 [(0, .ref (zad w 82)), (1, .int (nI sn))] [] := by
    intro d
    induction d with
    | zero => intro ws1 ts1 S O I0 hd; exact absurd hd (Nat.not_lt_zero _)
    | succ d ih0 => 
      intro ws1 ts1 S O I0 hd0 hz hfO hfS hT hWe hln ho1 hwl e_I0
      replace e_I0 := e_I0.symm; subst e_I0
      refine z_aload_n C dX8_settle_0 rfl 0 rfl ?_
      refine z_geti C ff_X8_65 82 (by decide) sh82 rfl (v := nI ws1.length) (by first | exact hz.2.2.2.1 | (simp [zup, zupJ, upd, vp_updL]; exact hz.2.2.2.1)) dX8_settle_1 ?_
      refine z_if_le (tgt := 72) C dX8_settle_4 (by decide) (fun c4 => ?_) (fun c4 => ?_)
      · skip
        have hws : ws1 = [] := by
          rcases ws1 with _ | ⟨x, ws2⟩
          · rfl
          · exact absurd c4 (nI_nle (Nat.succ_pos _) (by have := hln; simp only [List.length_cons] at this ⊢; omega))
        refine z_vret C hr dX8_settle_72 ?_
        refine ⟨rfl, ?_⟩
        refine ⟨⟨S, O, rfl, ?_, hfO, hfS⟩, rfl⟩
        rw [← hT, ← hWe, hws]
        rw [hws] at hz
        rw [stT, stW, List.append_nil]; exact hz
      · skip
        obtain ⟨x, ws2, hws⟩ : ∃ x ws2, ws1 = x :: ws2 := by
          rcases ws1 with _ | ⟨x, ws2⟩
          · exact absurd (show nI 0 ≤ 0 by decide) c4
          · exact ⟨x, ws2, rfl⟩
        rw [hws] at hz hT hWe hln ho1 hwl
        simp only [List.length_cons] at hln hwl
        have hx4 := okW_h ho1
        obtain ⟨z1, z2, z3, z4, z5⟩ := id hz
        refine z_aload_n C dX8_settle_7 rfl 0 rfl ?_
        refine z_getr C ff_X8_59 82 (by decide) sh82 rfl dX8_settle_8 ?_
        refine z_aload_n C dX8_settle_11 rfl 0 rfl ?_
        refine z_geti C ff_X8_65 82 (by decide) sh82 rfl (v := nI (ws2.length + 1)) (by first | exact z4 | (simp [zup, zupJ, upd, vp_updL]; exact z4)) dX8_settle_12 ?_
        refine z_iconst C (v := 1) dX8_settle_15 (by decide) ?_
        refine z_isub C dX8_settle_16 ?_
        refine z_ti (y := nI ws2.length) (nI_pred _) ?_
        refine z_iald C 93 (by decide) sh93 ws2.length (by omega) (by decide) rfl (v := nI x) (by first | exact z3.1 | (simp [zup, zupJ, upd, vp_updL]; exact z3.1)) dX8_settle_17 ?_
        refine z_bipush C (v := 38) dX8_settle_18 (by decide) ?_
        refine z_icmp_eq_n x 38 (tgt := 45) C rfl rfl (by omega) (by omega) dX8_settle_20 (by decide) (fun c20 => ?_) (fun c20 => ?_)
        · skip
          have hyes : x = 38 ∨ (x = 124 ∧ sn ≠ 38) := by omega
          have hcx : cntW (x :: ws2) = cntW ws2 := by rw [cntW, if_neg (by omega), Nat.zero_add]
          refine z_aload_n C dX8_settle_45 rfl 0 rfl ?_
          refine z_dup C dX8_settle_46 rfl ?_
          refine z_geti C ff_X8_65 82 (by decide) sh82 rfl (v := nI (ws2.length + 1)) (by first | exact z4 | (simp [zup, zupJ, upd, vp_updL]; exact z4)) dX8_settle_47 ?_
          refine z_iconst C (v := 1) dX8_settle_50 (by decide) ?_
          refine z_isub C dX8_settle_51 ?_
          refine z_ti (y := nI ws2.length) (nI_pred _) ?_
          refine z_puti C ff_X8_65 82 (by decide) sh82 rfl rfl rfl dX8_settle_52 ?_
          refine z_I (I' := zup (zup I 92 S) 82 (upd O 18 (nI ws2.length))) (by rw [zup_s, zup_up]) ?_
          refine z_aload_n C dX8_settle_55 rfl 0 rfl ?_
          refine z_aload_n C dX8_settle_56 rfl 0 rfl ?_
          refine z_getr C ff_X8_59 82 (by decide) sh82 rfl dX8_settle_57 ?_
          refine z_aload_n C dX8_settle_60 rfl 0 rfl ?_
          refine z_geti C ff_X8_65 82 (by decide) sh82 rfl (v := nI ws2.length) (by first | exact rfl | (simp [zup, zupJ, upd, vp_updL]; exact rfl)) dX8_settle_61 ?_
          refine z_iald C 93 (by decide) sh93 ws2.length (by omega) (by decide) rfl (v := nI x) (by first | exact z3.1 | (simp [zup, zupJ, upd, vp_updL]; exact z3.1)) dX8_settle_64 ?_
          refine z_ineg C dX8_settle_65 ?_
          refine z_ti (y := mTok (opT x)) (opT_neg (by omega)) ?_
          refine z_callVv C hm cl_X8_208 cv_X8_put 82 (by decide) sh82 ⟨_, _, rfl⟩ [.int (mTok (opT x))] rfl (rest := []) rfl (k_X8_put w _ _ (u0 + ts1.length) (mTok (opT x)) (by exact z2) (by omega)) ⟨rfl, rfl, Nat.le_of_ble_eq_true rfl, Nat.le_of_ble_eq_true rfl⟩ (Nat.le_of_ble_eq_true rfl) dX8_settle_66 (fun I_1 J_1 h_1 => ?_)
          obtain ⟨ei_1, ej_1⟩ := h_1
          replace ei_1 := ei_1.symm; subst ei_1
          replace ej_1 := ej_1.symm; subst ej_1
          refine z_I (I' := zup (zup I 92 (upd S (u0 + ts1.length) (mTok (opT x)))) 82 (upd (upd O 18 (nI ws2.length)) 17 (nI (u0 + ts1.length + 1)))) (by funext zk; by_cases h1 : zk = 82 <;> by_cases h2 : zk = 92 <;> simp [zup, h1, h2, upd_2]) ?_
          refine z_goto (tgt := 0) C dX8_settle_69 (by decide) ?_
          exact z_sub [0, 1] rfl (ih0  ws2 (ts1 ++ [opT x]) _ _ _ (by rw [hws, List.length_cons] at hd0; omega) (zMs_t (t := opT x) hz z3.2 rfl rfl (by rw [← hcx]; exact z5)) (fun k h1 h2 h3 => by rw [upd_n h1, upd_n h2]; exact hfO k h1 h2 h3) (fun k hk => by rw [upd_n (by omega)]; exact hfS k hk) (by rw [← hT, stT, if_pos hyes]; simp only [List.append_assoc]; rfl) (by rw [← hWe, stW, if_pos hyes]) (by rw [List.length_append]; simp only [List.length_cons, List.length_nil]; omega) (okW_t ho1) (by omega) rfl)
        · skip
          refine z_aload_n C dX8_settle_23 rfl 0 rfl ?_
          refine z_getr C ff_X8_59 82 (by decide) sh82 rfl dX8_settle_24 ?_
          refine z_aload_n C dX8_settle_27 rfl 0 rfl ?_
          refine z_geti C ff_X8_65 82 (by decide) sh82 rfl (v := nI (ws2.length + 1)) (by first | exact z4 | (simp [zup, zupJ, upd, vp_updL]; exact z4)) dX8_settle_28 ?_
          refine z_iconst C (v := 1) dX8_settle_31 (by decide) ?_
          refine z_isub C dX8_settle_32 ?_
          refine z_ti (y := nI ws2.length) (nI_pred _) ?_
          refine z_iald C 93 (by decide) sh93 ws2.length (by omega) (by decide) rfl (v := nI x) (by first | exact z3.1 | (simp [zup, zupJ, upd, vp_updL]; exact z3.1)) dX8_settle_33 ?_
          refine z_bipush C (v := 124) dX8_settle_34 (by decide) ?_
          refine z_icmp_ne_n x 124 (tgt := 72) C rfl rfl (by omega) (by omega) dX8_settle_36 (by decide) (fun c36 => ?_) (fun c36 => ?_)
          · skip
            refine z_vret C hr dX8_settle_72 ?_
            refine ⟨rfl, ?_⟩
            have hno : ¬ (x = 38 ∨ (x = 124 ∧ sn ≠ 38)) := by omega
            refine ⟨⟨S, O, rfl, ?_, hfO, hfS⟩, rfl⟩
            rw [← hT, ← hWe, stT, stW, if_neg hno, if_neg hno, List.append_nil]; exact hz
          · skip
            refine z_iload_n C dX8_settle_39 rfl 1 rfl ?_
            refine z_bipush C (v := 38) dX8_settle_40 (by decide) ?_
            refine z_icmp_eq_n sn 38 (tgt := 72) C rfl rfl (by omega) (by omega) dX8_settle_42 (by decide) (fun c42 => ?_) (fun c42 => ?_)
            · skip
              refine z_vret C hr dX8_settle_72 ?_
              refine ⟨rfl, ?_⟩
              have hno : ¬ (x = 38 ∨ (x = 124 ∧ sn ≠ 38)) := by omega
              refine ⟨⟨S, O, rfl, ?_, hfO, hfS⟩, rfl⟩
              rw [← hT, ← hWe, stT, stW, if_neg hno, if_neg hno, List.append_nil]; exact hz
            · skip
              have hyes : x = 38 ∨ (x = 124 ∧ sn ≠ 38) := by omega
              have hcx : cntW (x :: ws2) = cntW ws2 := by rw [cntW, if_neg (by omega), Nat.zero_add]
              refine z_aload_n C dX8_settle_45 rfl 0 rfl ?_
              refine z_dup C dX8_settle_46 rfl ?_
              refine z_geti C ff_X8_65 82 (by decide) sh82 rfl (v := nI (ws2.length + 1)) (by first | exact z4 | (simp [zup, zupJ, upd, vp_updL]; exact z4)) dX8_settle_47 ?_
              refine z_iconst C (v := 1) dX8_settle_50 (by decide) ?_
              refine z_isub C dX8_settle_51 ?_
              refine z_ti (y := nI ws2.length) (nI_pred _) ?_
              refine z_puti C ff_X8_65 82 (by decide) sh82 rfl rfl rfl dX8_settle_52 ?_
              refine z_I (I' := zup (zup I 92 S) 82 (upd O 18 (nI ws2.length))) (by rw [zup_s, zup_up]) ?_
              refine z_aload_n C dX8_settle_55 rfl 0 rfl ?_
              refine z_aload_n C dX8_settle_56 rfl 0 rfl ?_
              refine z_getr C ff_X8_59 82 (by decide) sh82 rfl dX8_settle_57 ?_
              refine z_aload_n C dX8_settle_60 rfl 0 rfl ?_
              refine z_geti C ff_X8_65 82 (by decide) sh82 rfl (v := nI ws2.length) (by first | exact rfl | (simp [zup, zupJ, upd, vp_updL]; exact rfl)) dX8_settle_61 ?_
              refine z_iald C 93 (by decide) sh93 ws2.length (by omega) (by decide) rfl (v := nI x) (by first | exact z3.1 | (simp [zup, zupJ, upd, vp_updL]; exact z3.1)) dX8_settle_64 ?_
              refine z_ineg C dX8_settle_65 ?_
              refine z_ti (y := mTok (opT x)) (opT_neg (by omega)) ?_
              refine z_callVv C hm cl_X8_208 cv_X8_put 82 (by decide) sh82 ⟨_, _, rfl⟩ [.int (mTok (opT x))] rfl (rest := []) rfl (k_X8_put w _ _ (u0 + ts1.length) (mTok (opT x)) (by exact z2) (by omega)) ⟨rfl, rfl, Nat.le_of_ble_eq_true rfl, Nat.le_of_ble_eq_true rfl⟩ (Nat.le_of_ble_eq_true rfl) dX8_settle_66 (fun I_2 J_2 h_2 => ?_)
              obtain ⟨ei_2, ej_2⟩ := h_2
              replace ei_2 := ei_2.symm; subst ei_2
              replace ej_2 := ej_2.symm; subst ej_2
              refine z_I (I' := zup (zup I 92 (upd S (u0 + ts1.length) (mTok (opT x)))) 82 (upd (upd O 18 (nI ws2.length)) 17 (nI (u0 + ts1.length + 1)))) (by funext zk; by_cases h1 : zk = 82 <;> by_cases h2 : zk = 92 <;> simp [zup, h1, h2, upd_2]) ?_
              refine z_goto (tgt := 0) C dX8_settle_69 (by decide) ?_
              exact z_sub [0, 1] rfl (ih0  ws2 (ts1 ++ [opT x]) _ _ _ (by rw [hws, List.length_cons] at hd0; omega) (zMs_t (t := opT x) hz z3.2 rfl rfl (by rw [← hcx]; exact z5)) (fun k h1 h2 h3 => by rw [upd_n h1, upd_n h2]; exact hfO k h1 h2 h3) (fun k hk => by rw [upd_n (by omega)]; exact hfS k hk) (by rw [← hT, stT, if_pos hyes]; simp only [List.append_assoc]; rfl) (by rw [← hWe, stW, if_pos hyes]) (by rw [List.length_append]; simp only [List.length_cons, List.length_nil]; omega) (okW_t ho1) (by omega) rfl)
  exact z_sub [0, 1] rfl (L0 _ ws ts (I 92) (I 82) _ (Nat.lt_succ_self _) hZ (fun _ _ _ _ => rfl) (fun _ _ => rfl) rfl rfl rfl hok (Nat.le_refl _) (by rw [zup_id, zup_id]))
