/-! the reference: knows, way -/
/-- all but the rows of the spread stay -/
def frM (I' I : zI) : Prop := (∀ k, k ≠ 82 → (k < 94 ∨ 99 < k) → I' k = I k) ∧ ∀ j, j ≠ 25 → I' 82 j = I 82 j
theorem frM_id {I : zI} : frM I I := ⟨fun _ _ _ => rfl, fun _ _ => rfl⟩
theorem frM_h {I' I : zI} (h : frH I' I) : frM I' I := ⟨fun k _ h2 => h k (by omega) (by omega), fun j _ => by rw [h 82 (by decide) (by decide)]⟩
theorem frM_l {I' I : zI} {n : Nat} {A : List zCla} {jn : Nat → Int32} (h : zLh I' I n A jn) : frM I' I := ⟨fun k h1 h2 => h.2.1 k h1 (by omega) (by omega) (by omega), fun j hj => by rw [h.1, upd_n hj]⟩
theorem frM_z {K I : zI} {a : Nat} {g : Nat → Int32} (ha : 94 ≤ a ∧ a ≤ 99) (h : frM K I) : frM (zup K a g) I := ⟨fun k h1 h2 => by rw [zup_n (by omega)]; exact h.1 k h1 h2, fun j hj => by rw [zup_n (by omega)]; exact h.2 j hj⟩
theorem frM_tr {L K I : zI} (h1 : frM L K) (h2 : frM K I) : frM L I := ⟨fun k a b => by rw [h1.1 k a b, h2.1 k a b], fun j a => by rw [h1.2 j a, h2.2 j a]⟩
theorem ern_e {m n : Nat} {jn : Nat → Int32} {A : List zCla} {hd : Nat → Option Nat} {a : Nat} (h : ∀ a k, hd a = some k → k ≤ 99) : ern m n jn A hd a = eM (fun k => hD m n (zGt jn A) (zT0 hd) k a) (aSteps A + 1) := (eM_ern h).symm
abbrev rm_X8_knows : Room := { frames := 7, cells := 0, slots := 0, locals := 272 }
set_option maxRecDepth 100000 in
set_option maxHeartbeats 4000000 in
theorem k_X8_knows (w : zW) (I : zI) (J : zJ) (n h : Nat) (A : List zCla) (jn : Nat → Int32) (hd : Nat → Option Nat) (x : Int32) (hN : I 82 0 = nI n) (hn : n ≤ 8) (hh : h < 7) (hM : mHeld I h A) (hJn : ∀ k, k < 64 → I 84 k = jn k) (hDg : ∀ a, a < 8 → jn (a * 8 + a) = 0) (hHd : ∀ a, a < n → I 85 a = oM (hd a)) (hd99 : ∀ a k, hd a = some k → k ≤ 99) : zMet yX8_knows cX8_knows 2 (some .int) rm_X8_knows w [.ref (zad w 82), .int x] I J (zpi (fun v I' J' => v = cif (zin x n) (aKn (ern 0 n jn A hd (zn x))) (-1) ∧ J' = J ∧ frM I' I)) := by
  refine zMet_of (by decide) (Nat.le_of_ble_eq_true rfl) (fun X C hm hr => ?_)
  refine z_sub (lv' := [(0, .ref (zad w 82)), (1, .int x)]) [0, 1] rfl ?_
  have hzf : zFar = 1000000 := rfl
  refine z_aload_n C dX8_knows_0 rfl 0 rfl ?_
  refine z_iload_n C dX8_knows_1 rfl 1 rfl ?_
  refine z_callVi C hm cl_X8_193 cv_X8_isName 82 (by decide) sh82 ⟨_, _, rfl⟩ [.int x] rfl (rest := []) rfl (k_X8_isName w _ _ n x hN hn) ⟨rfl, rfl, Nat.le_of_ble_eq_true rfl, Nat.le_of_ble_eq_true rfl⟩ (Nat.le_of_ble_eq_true rfl) dX8_knows_2 (fun v_1 I_1 J_1 h_1 => ?_)
  obtain ⟨ev_1, ei_1, ej_1⟩ := h_1
  replace ev_1 := ev_1.symm; subst ev_1
  replace ei_1 := ei_1.symm; subst ei_1
  replace ej_1 := ej_1.symm; subst ej_1
  refine z_ifne_b (tgt := 10) C dX8_knows_5 (by decide) (fun c5 => ?_) (fun c5 => ?_)
  · skip
    obtain ⟨a, ha, rfl⟩ := c5
    refine z_aload_n C dX8_knows_10 rfl 0 rfl ?_
    refine z_callVv C hm cl_X8_278 cv_X8_layHours 82 (by decide) sh82 ⟨_, _, rfl⟩ [] rfl (rest := []) rfl (k_X8_layHours w _ _ n h A jn  hN hn hh hM hJn hDg) ⟨rfl, rfl, Nat.le_of_ble_eq_true rfl, Nat.le_of_ble_eq_true rfl⟩ (Nat.le_of_ble_eq_true rfl) dX8_knows_11 (fun I_2 J_2 h_2 => ?_)
    obtain ⟨hz_2, eJ_2⟩ := h_2
    replace eJ_2 := eJ_2.symm; subst eJ_2
    obtain ⟨h82_2, hfr_2, hH_2⟩ := id hz_2
    have hN_2 : I_2 82 0 = nI n := by rw [h82_2, upd_n (by decide)]; exact hN
    have hS_2 : I_2 82 25 = nI (aSteps A) := by rw [h82_2]; exact upd_s
    have hHd_2 : ∀ a, a < n → I_2 85 a = oM (hd a) := fun a ha => by rw [hfr_2 85 (by decide) (by decide) (by decide) (by decide)]; exact hHd a ha
    refine z_aload_n C dX8_knows_14 rfl 0 rfl ?_
    refine z_iconst C (v := 0) dX8_knows_15 (by decide) ?_
    refine z_callVv C hm cl_X8_281 cv_X8_spread 82 (by decide) sh82 ⟨_, _, rfl⟩ [.int 0] rfl (rest := []) rfl (k_X8_spread w _ _ n (aSteps A) A jn hd 0 (by decide) (by exact hN_2) hn (by exact hS_2) (aSteps_le A) (by exact hH_2) (mHeld_ok hM) (by exact hHd_2) hd99) ⟨rfl, rfl, Nat.le_of_ble_eq_true rfl, Nat.le_of_ble_eq_true rfl⟩ (Nat.le_of_ble_eq_true rfl) dX8_knows_16 (fun I_3 J_3 h_3 => ?_)
    obtain ⟨⟨R_3, eI_3, hR_3⟩, eJ_3⟩ := h_3
    replace eI_3 := eI_3.symm; subst eI_3
    replace eJ_3 := eJ_3.symm; subst eJ_3
    refine z_aload_n C dX8_knows_19 rfl 0 rfl ?_
    refine z_iload_n C dX8_knows_20 rfl 1 rfl ?_
    refine z_callVi C hm cl_X8_284 cv_X8_earliest 82 (by decide) sh82 ⟨_, _, rfl⟩ [.int (nI a)] rfl (rest := []) rfl (k_X8_earliest w _ _ 0 n A jn hd a (by omega) (by exact hS_2) (fun k hk => hR_3 k hk a ha) hd99) ⟨rfl, rfl, Nat.le_of_ble_eq_true rfl, Nat.le_of_ble_eq_true rfl⟩ (Nat.le_of_ble_eq_true rfl) dX8_knows_21 (fun v_4 I_4 J_4 h_4 => ?_)
    obtain ⟨ev_4, ei_4, ej_4⟩ := h_4
    replace ev_4 := ev_4.symm; subst ev_4
    replace ei_4 := ei_4.symm; subst ei_4
    replace ej_4 := ej_4.symm; subst ej_4
    refine z_ldcw C (v := 1000000) kc_X8_274 dX8_knows_24 ?_
    refine z_icmp_ge_n (ern 0 n jn A hd a) 1000000 (tgt := 38) C rfl rfl (by have := ern_le (m := 0) (n := n) (jn := jn) (A := A) hd99 a; omega) (by omega) dX8_knows_27 (by decide) (fun c27 => ?_) (fun c27 => ?_)
    · skip
      refine z_bipush C (v := -5) dX8_knows_38 (by decide) ?_
      refine z_iret C hr rfl dX8_knows_40 ?_
      refine ⟨_, rfl, ?_⟩
      exact ⟨by rw [cif_t ⟨a, ha, rfl⟩, zn_n (by omega), aKn, cif_f (by omega)], rfl, (frM_z (by decide) (frM_l hz_2))⟩
    · skip
      refine z_aload_n C dX8_knows_30 rfl 0 rfl ?_
      refine z_iload_n C dX8_knows_31 rfl 1 rfl ?_
      refine z_callVi C hm cl_X8_284 cv_X8_earliest 82 (by decide) sh82 ⟨_, _, rfl⟩ [.int (nI a)] rfl (rest := []) rfl (k_X8_earliest w _ _ 0 n A jn hd a (by omega) (by exact hS_2) (fun k hk => hR_3 k hk a ha) hd99) ⟨rfl, rfl, Nat.le_of_ble_eq_true rfl, Nat.le_of_ble_eq_true rfl⟩ (Nat.le_of_ble_eq_true rfl) dX8_knows_32 (fun v_5 I_5 J_5 h_5 => ?_)
      obtain ⟨ev_5, ei_5, ej_5⟩ := h_5
      replace ev_5 := ev_5.symm; subst ev_5
      replace ei_5 := ei_5.symm; subst ei_5
      replace ej_5 := ej_5.symm; subst ej_5
      refine z_goto (tgt := 40) C dX8_knows_35 (by decide) ?_
      refine z_iret C hr rfl dX8_knows_40 ?_
      refine ⟨_, rfl, ?_⟩
      exact ⟨by rw [cif_t ⟨a, ha, rfl⟩, zn_n (by omega), aKn, cif_t (by omega)], rfl, (frM_z (by decide) (frM_l hz_2))⟩
  · skip
    refine z_iconst C (v := -1) dX8_knows_8 (by decide) ?_
    refine z_iret C hr rfl dX8_knows_9 ?_
    refine ⟨_, rfl, ?_⟩
    exact ⟨by rw [cif_f c5], rfl, frM_id⟩
def lfw (k E : Nat) (L : Nat → Nat → Nat) (W : Nat → Nat) (i : Nat) : Nat := if i = 0 then E else L (k - (i - 1)) (W (i - 1))
theorem lbI_e {G : Nat → Nat → Nat} {L : Nat → Nat} {a b : Nat} (h : G a b = zFar ∨ zFar ≤ L b) : lbI G L a (b + 1) = lbI G L a b := by
  have := lbI_le (G := G) (L := L) (a := a) b
  rw [lbI, Nat.min_eq_left (by omega)]
/-- a way's step: the least name that goes on as it must is the walk's -/
theorem way_s {n k i E x : Nat} {go c0 : Nat} {jn : Nat → Int32} {A : List zCla} {hd : Nat → Option Nat} (hik : i ≤ k) (hc0 : c0 < n) (hE : zT0 hd c0 + lbk (zGt jn A) n go k c0 = E) (hmin : ∀ c, c < c0 → zT0 hd c + lbk (zGt jn A) n go k c ≠ E)
    (hx : ffi (fun b => oF (if i = 0 then hd b else aGo jn A (wlk (zGt jn A) n go k c0 (i - 1)) b) + lbk (zGt jn A) n go (k - i) b = lfw k E (lbk (zGt jn A) n go) (wlk (zGt jn A) n go k c0) i) n n = some x) : x = wlk (zGt jn A) n go k c0 i := by
  cases i with
  | zero =>
    obtain ⟨h1, h2, h3, h4⟩ := ffi_some n (Nat.le_refl _) hx
    simp only [if_true, lfw, Nat.sub_zero] at h3 h4
    show x = c0
    rcases Nat.lt_trichotomy x c0 with q | q | q
    · exact absurd h3 (hmin x q)
    · exact q
    · exact absurd hE (h4 c0 (by omega) q)
  | succ i =>
    have e : (fun b => oF (if i + 1 = 0 then hd b else aGo jn A (wlk (zGt jn A) n go k c0 (i + 1 - 1)) b) + lbk (zGt jn A) n go (k - (i + 1)) b = lfw k E (lbk (zGt jn A) n go) (wlk (zGt jn A) n go k c0) (i + 1)) = fun b => zGt jn A (wlk (zGt jn A) n go k c0 i) b + lbk (zGt jn A) n go (k - (i + 1)) b = lbk (zGt jn A) n go (k - i) (wlk (zGt jn A) n go k c0 i) := by
      funext b
      simp only [lfw, if_neg (Nat.succ_ne_zero i), Nat.add_sub_cancel]
      rfl
    rw [e] at hx
    rw [wlk]
    exact (ffi_wnx n hx).symm
/-- there is one -/
theorem way_e {n k i E : Nat} {go c0 : Nat} {jn : Nat → Int32} {A : List zCla} {hd : Nat → Option Nat} (hik : i ≤ k) (hc0 : c0 < n) (hEf : E < zFar) (hE : zT0 hd c0 + lbk (zGt jn A) n go k c0 = E) (hlf : lfw k E (lbk (zGt jn A) n go) (wlk (zGt jn A) n go k c0) i < zFar) :
    ffi (fun b => oF (if i = 0 then hd b else aGo jn A (wlk (zGt jn A) n go k c0 (i - 1)) b) + lbk (zGt jn A) n go (k - i) b = lfw k E (lbk (zGt jn A) n go) (wlk (zGt jn A) n go k c0) i) n n ≠ none := by
  intro h
  have hno := ffi_no n (Nat.le_refl _) h
  cases i with
  | zero => exact hno c0 (by omega) hc0 (by simp only [if_true, lfw, Nat.sub_zero]; exact hE)
  | succ i =>
    have hl : lbk (zGt jn A) n go (k - i) (wlk (zGt jn A) n go k c0 i) < zFar := by
      have := hlf
      simp only [lfw, if_neg (Nat.succ_ne_zero i), Nat.add_sub_cancel] at this
      exact this
    have e : lbk (zGt jn A) n go (k - i) (wlk (zGt jn A) n go k c0 i) = cM (fun b => zGt jn A (wlk (zGt jn A) n go k c0 i) b + lbk (zGt jn A) n go (k - (i + 1)) b) n := by
      rw [show k - i = k - (i + 1) + 1 by omega, lbk, lbI_cM]
    rw [e] at hl
    obtain ⟨b, h1, h2⟩ := cM_at n hl
    refine hno b (by omega) h1 ?_
    simp only [lfw, if_neg (Nat.succ_ne_zero i), Nat.add_sub_cancel]
    rw [e]; exact h2
/-- the next rest is less -/
theorem way_l {n k i E : Nat} {go c0 : Nat} {jn : Nat → Int32} {A : List zCla} {hd : Nat → Option Nat} (hP : oF (if i = 0 then hd (wlk (zGt jn A) n go k c0 i) else aGo jn A (wlk (zGt jn A) n go k c0 (i - 1)) (wlk (zGt jn A) n go k c0 i)) + lbk (zGt jn A) n go (k - i) (wlk (zGt jn A) n go k c0 i) = lfw k E (lbk (zGt jn A) n go) (wlk (zGt jn A) n go k c0) i) : lfw k E (lbk (zGt jn A) n go) (wlk (zGt jn A) n go k c0) (i + 1) = lfw k E (lbk (zGt jn A) n go) (wlk (zGt jn A) n go k c0) i - oF (if i = 0 then hd (wlk (zGt jn A) n go k c0 i) else aGo jn A (wlk (zGt jn A) n go k c0 (i - 1)) (wlk (zGt jn A) n go k c0 i)) := by
  have : lfw k E (lbk (zGt jn A) n go) (wlk (zGt jn A) n go k c0) (i + 1) = lbk (zGt jn A) n go (k - i) (wlk (zGt jn A) n go k c0 i) := by rw [lfw, if_neg (Nat.succ_ne_zero i), Nat.add_sub_cancel]
  omega
theorem oM_ge {o : Option Nat} (h : (0 : Int32) ≤ oM o) : ∃ k, o = some k := by
  cases o with
  | none => exact absurd h (by decide)
  | some k => exact ⟨k, rfl⟩
theorem oM_oF {o : Option Nat} (h : oF o < zFar) : oM o = nI (oF o) := by
  cases o with
  | none => exact absurd h (Nat.lt_irrefl _)
  | some k => rfl
theorem oI_oF {o : Option Nat} (h : oF o < zFar) : oI o = nI (oF o) := by
  cases o with
  | none => exact absurd h (Nat.lt_irrefl _)
  | some k => rfl
abbrev rm_X8_findWay : Room := { frames := 7, cells := 0, slots := 0, locals := 272 }
set_option maxRecDepth 100000 in
set_option maxHeartbeats 4000000 in
theorem k_X8_findWay (w : zW) (I : zI) (J : zJ) (n h : Nat) (A : List zCla) (jn : Nat → Int32) (hd : Nat → Option Nat) (go : Nat) (hN : I 82 0 = nI n) (hn : n ≤ 8) (hh : h < 7) (hM : mHeld I h A) (hJn : ∀ k, k < 64 → I 84 k = jn k) (hDg : ∀ a, a < 8 → jn (a * 8 + a) = 0) (hHd : ∀ a, a < n → I 85 a = oM (hd a)) (hd99 : ∀ a k, hd a = some k → k ≤ 99) (hgo : go < n) : zMet yX8_findWay cX8_findWay 9 (some .int) rm_X8_findWay w [.ref (zad w 82), .int (nI go)] I J (zpi (fun v I' J' => J' = J ∧ frM I' I ∧ (∃ len row, wayR n (aSteps A) (zGt jn A) (zT0 hd) go len row ∧ v = nI len ∧ ∀ s, s < len → I' 99 s = nI (row s)))) := by
  refine zMet_of (by decide) (Nat.le_of_ble_eq_true rfl) (fun X C hm hr => ?_)
  refine z_sub (lv' := [(0, .ref (zad w 82)), (1, .int (nI go))]) [0, 1] rfl ?_
  have hzf : zFar = 1000000 := rfl
  have hst9 := aSteps_le A
  have hEle := ern_le (m := 0) (n := n) (jn := jn) (A := A) hd99 go
  have hHle := fun k b => hD_le (m := 0) (n := n) (G := zGt jn A) (fun b => zT0_le hd99 b) k b
  have hLle := fun u c => lbk_le (G := zGt jn A) (n := n) (goal := go) u c
  have hernq : (ern 0 n jn A hd go) = hsq 0 n (zGt jn A) (zT0 hd) (aSteps A) go := rfl
  have hEe := ern_e (m := 0) (n := n) (jn := jn) (A := A) (a := go) hd99
  have hgow : ∀ a b, aGo jn A a b = none ∨ ∃ k, k ≤ 999 ∧ aGo jn A a b = some k := fun a b => by
    rcases hq : aGo jn A a b with _ | k
    · exact Or.inl rfl
    · exact Or.inr ⟨k, aGo_le (mHeld_ok hM) k hq, rfl⟩
  refine z_aload_n C dX8_findWay_0 rfl 0 rfl ?_
  refine z_callVv C hm cl_X8_278 cv_X8_layHours 82 (by decide) sh82 ⟨_, _, rfl⟩ [] rfl (rest := []) rfl (k_X8_layHours w _ _ n h A jn  hN hn hh hM hJn hDg) ⟨rfl, rfl, Nat.le_of_ble_eq_true rfl, Nat.le_of_ble_eq_true rfl⟩ (Nat.le_of_ble_eq_true rfl) dX8_findWay_1 (fun I_1 J_1 h_1 => ?_)
  obtain ⟨hz_1, eJ_1⟩ := h_1
  replace eJ_1 := eJ_1.symm; subst eJ_1
  obtain ⟨h82_1, hfr_1, hH_1⟩ := id hz_1
  have hN_1 : I_1 82 0 = nI n := by rw [h82_1, upd_n (by decide)]; exact hN
  have hS_1 : I_1 82 25 = nI (aSteps A) := by rw [h82_1]; exact upd_s
  have hHd_1 : ∀ a, a < n → I_1 85 a = oM (hd a) := fun a ha => by rw [hfr_1 85 (by decide) (by decide) (by decide) (by decide)]; exact hHd a ha
  refine z_aload_n C dX8_findWay_4 rfl 0 rfl ?_
  refine z_iconst C (v := 0) dX8_findWay_5 (by decide) ?_
  refine z_callVv C hm cl_X8_281 cv_X8_spread 82 (by decide) sh82 ⟨_, _, rfl⟩ [.int 0] rfl (rest := []) rfl (k_X8_spread w _ _ n (aSteps A) A jn hd 0 (by decide) (by exact hN_1) hn (by exact hS_1) (aSteps_le A) (by exact hH_1) (mHeld_ok hM) (by exact hHd_1) hd99) ⟨rfl, rfl, Nat.le_of_ble_eq_true rfl, Nat.le_of_ble_eq_true rfl⟩ (Nat.le_of_ble_eq_true rfl) dX8_findWay_6 (fun I_2 J_2 h_2 => ?_)
  obtain ⟨⟨R_2, eI_2, hR_2⟩, eJ_2⟩ := h_2
  replace eI_2 := eI_2.symm; subst eI_2
  replace eJ_2 := eJ_2.symm; subst eJ_2
  refine z_aload_n C dX8_findWay_9 rfl 0 rfl ?_
  refine z_iload_n C dX8_findWay_10 rfl 1 rfl ?_
  refine z_callVi C hm cl_X8_284 cv_X8_earliest 82 (by decide) sh82 ⟨_, _, rfl⟩ [.int (nI go)] rfl (rest := []) rfl (k_X8_earliest w _ _ 0 n A jn hd go (by omega) (by exact hS_1) (fun k hk => hR_2 k hk go hgo) hd99) ⟨rfl, rfl, Nat.le_of_ble_eq_true rfl, Nat.le_of_ble_eq_true rfl⟩ (Nat.le_of_ble_eq_true rfl) dX8_findWay_11 (fun v_3 I_3 J_3 h_3 => ?_)
  obtain ⟨ev_3, ei_3, ej_3⟩ := h_3
  replace ev_3 := ev_3.symm; subst ev_3
  replace ei_3 := ei_3.symm; subst ei_3
  replace ej_3 := ej_3.symm; subst ej_3
  refine z_istore_n C hm (lv' := [(2, .int (nI (ern 0 n jn A hd go))), (0, .ref (zad w 82)), (1, .int (nI go))]) dX8_findWay_14 rfl (by decide) rfl ?_
  refine z_iload_n C dX8_findWay_15 rfl 0 rfl ?_
  refine z_ldcw C (v := 1000000) kc_X8_274 dX8_findWay_16 ?_
  refine z_icmp_lt_n (ern 0 n jn A hd go) 1000000 (tgt := 24) C rfl rfl (by omega) (by omega) dX8_findWay_19 (by decide) (fun c19 => ?_) (fun c19 => ?_)
  · skip
    have hex : ∃ j, j < aSteps A + 1 ∧ hD 0 n (zGt jn A) (zT0 hd) j go = (ern 0 n jn A hd go) := by
      rw [hEe] at c19 ⊢
      exact eM_at _ c19
    refine z_iconst C (v := 0) dX8_findWay_24 (by decide) ?_
    refine z_istore_n C hm (lv' := [(3, .int 0), (2, .int (nI (ern 0 n jn A hd go))), (0, .ref (zad w 82)), (1, .int (nI go))]) dX8_findWay_25 rfl (by decide) rfl ?_
    have L26 : ∀ (d : Nat) (k : Nat) (v26_3 : Int32), (aSteps A + 1 - k) < d → (k ≤ aSteps A) → (∀ j, j < k → hD 0 n (zGt jn A) (zT0 hd) j go ≠ (ern 0 n jn A hd go)) → v26_3 = nI k → Z X w (zup I_1 97 R_2) J 26 [(0, .ref (zad w 82)), (1, .int (nI go)), (2, .int (nI (ern 0 n jn A hd go))), (3, .int v26_3)] [] := by
      intro d
      induction d with
      | zero => intro k v26_3 hd; exact absurd hd (Nat.not_lt_zero _)
      | succ d ih26 => 
        intro k v26_3 hd26 hkst hkn e_v26_3
        replace e_v26_3 := e_v26_3.symm; subst e_v26_3
        refine z_aload_n C dX8_findWay_26 rfl 0 rfl ?_
        refine z_getr C ff_X8_81 82 (by decide) sh82 rfl dX8_findWay_27 ?_
        refine z_bipush C (v := 8) dX8_findWay_30 (by decide) ?_
        refine z_iload_n C dX8_findWay_32 rfl 3 rfl ?_
        refine z_imul C dX8_findWay_33 ?_
        refine z_ti (y := nI (8 * k)) (pk_mul 8 k) ?_
        refine z_iload_n C dX8_findWay_34 rfl 1 rfl ?_
        refine z_iadd C dX8_findWay_35 ?_
        refine z_ti (y := nI (8 * k + go)) (nI_add (8 * k) go) ?_
        refine z_iald C 97 (by decide) sh97 (8 * k + go) (by omega) (by decide) rfl (v := nI (hD 0 n (zGt jn A) (zT0 hd) k go)) (by first | exact (hR_2 k hkst go hgo) | (simp [zup, zupJ, upd, vp_updL]; exact (hR_2 k hkst go hgo))) dX8_findWay_36 ?_
        refine z_iload_n C dX8_findWay_37 rfl 2 rfl ?_
        refine z_icmp_eq_n (hD 0 n (zGt jn A) (zT0 hd) k go) (ern 0 n jn A hd go) (tgt := 47) C rfl rfl (by have := hHle k go; omega) (by omega) dX8_findWay_38 (by decide) (fun c38 => ?_) (fun c38 => ?_)
        · skip
          have hWk : cM (fun c => zT0 hd c + lbk (zGt jn A) n go k c) n = (ern 0 n jn A hd go) := by rw [← hD_go hgo (fun b => zT0_le hd99 b) k]; exact c38
          have hku : ∀ u2 c2, u2 < k → c2 < n → zT0 hd c2 + lbk (zGt jn A) n go u2 c2 ≠ (ern 0 n jn A hd go) := fun u2 c2 h1 h2 q => by
            have e1 := hD_go (G := zGt jn A) hgo (fun b => zT0_le hd99 b) u2
            have e2 : cM (fun c => zT0 hd c + lbk (zGt jn A) n go u2 c) n ≤ zT0 hd c2 + lbk (zGt jn A) n go u2 c2 := cM_leA (f := fun c => zT0 hd c + lbk (zGt jn A) n go u2 c) h2
            have e3 : eM (fun j => hD 0 n (zGt jn A) (zT0 hd) j go) (aSteps A + 1) ≤ hD 0 n (zGt jn A) (zT0 hd) u2 go := eM_leA (f := fun j => hD 0 n (zGt jn A) (zT0 hd) j go) (by omega)
            have e4 := hkn u2 h1
            omega
          obtain ⟨c1, hc1n, hc1E⟩ := cM_at n (by rw [hWk]; exact c19)
          rw [hWk] at hc1E
          obtain ⟨c0, hc0s⟩ : ∃ c0, ffi (fun c => zT0 hd c + lbk (zGt jn A) n go k c = (ern 0 n jn A hd go)) n n = some c0 := by
            rcases hq : ffi (fun c => zT0 hd c + lbk (zGt jn A) n go k c = (ern 0 n jn A hd go)) n n with _ | c0
            · exact absurd hc1E (ffi_no n (Nat.le_refl _) hq c1 (by omega) hc1n)
            · exact ⟨c0, rfl⟩
          obtain ⟨-, hc0n, hc0E, hc0m'⟩ := ffi_some n (Nat.le_refl _) hc0s
          have hc0m : ∀ c2, c2 < c0 → zT0 hd c2 + lbk (zGt jn A) n go k c2 ≠ (ern 0 n jn A hd go) := fun c2 h1 => hc0m' c2 (by omega) h1
          have hwn := fun s => wlk_lt (G := zGt jn A) (goal := go) (used := k) hc0n s
          refine z_iconst C (v := 0) dX8_findWay_47 (by decide) ?_
          refine z_istore C hm (lv' := [(4, .int 0), (0, .ref (zad w 82)), (1, .int (nI go)), (2, .int (nI (ern 0 n jn A hd go))), (3, .int (nI k))]) dX8_findWay_48 (by decide) rfl ?_
          have L50 : ∀ (d : Nat) (a : Nat) (RS : Nat → Int32) (v50_4 : Int32) (I50 : zI), (n - a) < d → (a ≤ n) → (∀ x, x < a → RS x = nI (lbk (zGt jn A) n go 0 x)) → v50_4 = nI a → I50 = zup (zup I_1 97 R_2) 98 RS → Z X w I50 J 50 [(0, .ref (zad w 82)), (1, .int (nI go)), (2, .int (nI (ern 0 n jn A hd go))), (3, .int (nI k)), (4, .int v50_4)] [] := by
            intro d
            induction d with
            | zero => intro a RS v50_4 I50 hd; exact absurd hd (Nat.not_lt_zero _)
            | succ d ih50 => 
              intro a RS v50_4 I50 hd50 ha hRS e_v50_4 e_I50
              replace e_v50_4 := e_v50_4.symm; subst e_v50_4
              replace e_I50 := e_I50.symm; subst e_I50
              refine z_iload C dX8_findWay_50 4 rfl ?_
              refine z_aload_n C dX8_findWay_52 rfl 0 rfl ?_
              refine z_geti C ff_X8_7 82 (by decide) sh82 rfl (v := nI n) (by first | exact hN_1 | (simp [zup, zupJ, upd, vp_updL]; exact hN_1)) dX8_findWay_53 ?_
              refine z_icmp_ge_n a n (tgt := 85) C rfl rfl (by omega) (by omega) dX8_findWay_56 (by decide) (fun c56 => ?_) (fun c56 => ?_)
              · skip
                refine z_iconst C (v := 1) dX8_findWay_85 (by decide) ?_
                refine z_istore C hm (lv' := [(4, .int 1), (0, .ref (zad w 82)), (1, .int (nI go)), (2, .int (nI (ern 0 n jn A hd go))), (3, .int (nI k))]) dX8_findWay_86 (by decide) rfl ?_
                have L88 : ∀ (d : Nat) (j : Nat) (RS : Nat → Int32) (v88_4 : Int32) (I88 : zI), (k - j) < d → (j ≤ k) → (∀ i, i ≤ j → ∀ x, x < n → RS (8 * i + x) = nI (lbk (zGt jn A) n go i x)) → v88_4 = nI (j + 1) → I88 = zup (zup I_1 97 R_2) 98 RS → Z X w I88 J 88 [(0, .ref (zad w 82)), (1, .int (nI go)), (2, .int (nI (ern 0 n jn A hd go))), (3, .int (nI k)), (4, .int v88_4)] [] := by
                  intro d
                  induction d with
                  | zero => intro j RS v88_4 I88 hd; exact absurd hd (Nat.not_lt_zero _)
                  | succ d ih88 => 
                    intro j RS v88_4 I88 hd88 hj hRj e_v88_4 e_I88
                    replace e_v88_4 := e_v88_4.symm; subst e_v88_4
                    replace e_I88 := e_I88.symm; subst e_I88
                    refine z_iload C dX8_findWay_88 4 rfl ?_
                    refine z_iload_n C dX8_findWay_90 rfl 3 rfl ?_
                    refine z_icmp_gt_n (j + 1) k (tgt := 243) C rfl rfl (by omega) (by omega) dX8_findWay_91 (by decide) (fun c91 => ?_) (fun c91 => ?_)
                    · skip
                      have hjk : j = k := by omega
                      rw [hjk] at hRj
                      clear hj hjk
                      refine z_iload_n C dX8_findWay_243 rfl 2 rfl ?_
                      refine z_istore C hm (lv' := [(4, .int (nI (ern 0 n jn A hd go))), (0, .ref (zad w 82)), (1, .int (nI go)), (2, .int (nI (ern 0 n jn A hd go))), (3, .int (nI k))]) dX8_findWay_244 (by decide) rfl ?_
                      refine z_iconst C (v := 0) dX8_findWay_246 (by decide) ?_
                      refine z_istore C hm (lv' := [(5, .int 0), (4, .int (nI (ern 0 n jn A hd go))), (0, .ref (zad w 82)), (1, .int (nI go)), (2, .int (nI (ern 0 n jn A hd go))), (3, .int (nI k))]) dX8_findWay_247 (by decide) rfl ?_
                      have L249 : ∀ (d : Nat) (i : Nat) (RW : Nat → Int32) (v249_4 : Int32) (v249_5 : Int32) (I249 : zI), (k + 1 - i) < d → (i ≤ k + 1) → (∀ s, s < i → RW s = nI (wlk (zGt jn A) n go k c0 s)) → (lfw k (ern 0 n jn A hd go) (lbk (zGt jn A) n go) (wlk (zGt jn A) n go k c0) i < zFar) → v249_4 = nI (lfw k (ern 0 n jn A hd go) (lbk (zGt jn A) n go) (wlk (zGt jn A) n go k c0) i) → v249_5 = nI i → I249 = zup (zup (zup I_1 97 R_2) 98 RS) 99 RW → Z X w I249 J 249 [(0, .ref (zad w 82)), (1, .int (nI go)), (2, .int (nI (ern 0 n jn A hd go))), (3, .int (nI k)), (4, .int v249_4), (5, .int v249_5)] [] := by
                        intro d
                        induction d with
                        | zero => intro i RW v249_4 v249_5 I249 hd; exact absurd hd (Nat.not_lt_zero _)
                        | succ d ih249 => 
                          intro i RW v249_4 v249_5 I249 hd249 hi hRW hlf e_v249_4 e_v249_5 e_I249
                          replace e_v249_4 := e_v249_4.symm; subst e_v249_4
                          replace e_v249_5 := e_v249_5.symm; subst e_v249_5
                          replace e_I249 := e_I249.symm; subst e_I249
                          refine z_iload C dX8_findWay_249 5 rfl ?_
                          refine z_iload_n C dX8_findWay_251 rfl 3 rfl ?_
                          refine z_icmp_gt_n i k (tgt := 401) C rfl rfl (by omega) (by omega) dX8_findWay_252 (by decide) (fun c252 => ?_) (fun c252 => ?_)
                          · skip
                            have hik : i = k + 1 := by omega
                            refine z_iload_n C dX8_findWay_401 rfl 3 rfl ?_
                            refine z_iconst C (v := 1) dX8_findWay_402 (by decide) ?_
                            refine z_iadd C dX8_findWay_403 ?_
                            refine z_ti (y := nI (k + 1)) (nI_add k 1) ?_
                            refine z_iret C hr rfl dX8_findWay_404 ?_
                            refine ⟨_, rfl, ?_⟩
                            exact ⟨rfl, (frM_z (by decide) (frM_z (by decide) (frM_z (by decide) (frM_l hz_1)))), k + 1, wlk (zGt jn A) n go k c0, Or.inr ⟨by have := hernq; omega, Or.inl ⟨k, c0, hkst, hc0n, hc0E.trans hernq, fun u2 c2 h1 h2 => by rw [← hernq]; exact hku u2 c2 h1 h2, fun c2 h1 => by rw [← hernq]; exact hc0m c2 h1, rfl, fun _ _ => rfl⟩⟩, rfl, fun s2 h2 => hRW s2 (by omega)⟩
                          · skip
                            have hik : i ≤ k := by omega
                            refine z_iconst C (v := -1) dX8_findWay_255 (by decide) ?_
                            refine z_istore C hm (lv' := [(6, .int (-1)), (0, .ref (zad w 82)), (1, .int (nI go)), (2, .int (nI (ern 0 n jn A hd go))), (3, .int (nI k)), (4, .int (nI (lfw k (ern 0 n jn A hd go) (lbk (zGt jn A) n go) (wlk (zGt jn A) n go k c0) i))), (5, .int (nI i))]) dX8_findWay_256 (by decide) rfl ?_
                            refine z_aload_n C dX8_findWay_258 rfl 1 rfl ?_
                            refine z_geti C ff_X8_7 82 (by decide) sh82 rfl (v := nI n) (by first | exact hN_1 | (simp [zup, zupJ, upd, vp_updL]; exact hN_1)) dX8_findWay_259 ?_
                            refine z_iconst C (v := 1) dX8_findWay_262 (by decide) ?_
                            refine z_isub C dX8_findWay_263 ?_
                            refine z_istore C hm (lv' := [(7, .int ((nI n) - 1)), (6, .int (-1)), (0, .ref (zad w 82)), (1, .int (nI go)), (2, .int (nI (ern 0 n jn A hd go))), (3, .int (nI k)), (4, .int (nI (lfw k (ern 0 n jn A hd go) (lbk (zGt jn A) n go) (wlk (zGt jn A) n go k c0) i))), (5, .int (nI i))]) dX8_findWay_264 (by decide) rfl ?_
                            have L266 : ∀ (d : Nat) (m : Nat) (v266_6 : Int32) (v266_7 : Int32), m < d → (m ≤ n) → v266_6 = oM (ffi (fun b => oF (if i = 0 then hd b else aGo jn A (wlk (zGt jn A) n go k c0 (i - 1)) b) + lbk (zGt jn A) n go (k - i) b = lfw k (ern 0 n jn A hd go) (lbk (zGt jn A) n go) (wlk (zGt jn A) n go k c0) i) n (n - m)) → v266_7 = nI m + Int32.ofInt (-1) → Z X w (zup (zup (zup I_1 97 R_2) 98 RS) 99 RW) J 266 [(0, .ref (zad w 82)), (1, .int (nI go)), (2, .int (nI (ern 0 n jn A hd go))), (3, .int (nI k)), (4, .int (nI (lfw k (ern 0 n jn A hd go) (lbk (zGt jn A) n go) (wlk (zGt jn A) n go k c0) i))), (5, .int (nI i)), (6, .int v266_6), (7, .int v266_7)] [] := by
                              intro d
                              induction d with
                              | zero => intro m v266_6 v266_7 hd; exact absurd hd (Nat.not_lt_zero _)
                              | succ d ih266 => 
                                intro m v266_6 v266_7 hd266 hm2 e_v266_6 e_v266_7
                                replace e_v266_6 := e_v266_6.symm; subst e_v266_6
                                replace e_v266_7 := e_v266_7.symm; subst e_v266_7
                                refine z_iload C dX8_findWay_266 7 rfl ?_
                                refine z_if_lt (tgt := 346) C dX8_findWay_268 (by decide) (fun c268 => ?_) (fun c268 => ?_)
                                · skip
                                  have hm0 : m = 0 := by
                                    cases m with
                                    | zero => rfl
                                    | succ j => exact absurd c268 (by rw [pm1]; exact nI_pos (by omega))
                                  subst hm0
                                  rw [Nat.sub_zero]
                                  have hne := way_e (i := i) hik hc0n c19 hc0E hlf
                                  obtain ⟨f, hf⟩ : ∃ f, ffi (fun b => oF (if i = 0 then hd b else aGo jn A (wlk (zGt jn A) n go k c0 (i - 1)) b) + lbk (zGt jn A) n go (k - i) b = lfw k (ern 0 n jn A hd go) (lbk (zGt jn A) n go) (wlk (zGt jn A) n go k c0) i) n n = some f := by
                                    rcases hq : ffi (fun b => oF (if i = 0 then hd b else aGo jn A (wlk (zGt jn A) n go k c0 (i - 1)) b) + lbk (zGt jn A) n go (k - i) b = lfw k (ern 0 n jn A hd go) (lbk (zGt jn A) n go) (wlk (zGt jn A) n go k c0) i) n n with _ | f
                                    · exact absurd hq hne
                                    · exact ⟨f, rfl⟩
                                  have hfw := way_s hik hc0n hc0E hc0m hf
                                  obtain ⟨-, hfn, hfP, -⟩ := ffi_some n (Nat.le_refl _) hf
                                  rw [hfw] at hfP
                                  have hwl := way_l hfP
                                  rw [hf, show oM (some f) = nI (wlk (zGt jn A) n go k c0 i) from by rw [hfw]; rfl]
                                  have hwi := hwn i
                                  refine z_aload_n C dX8_findWay_346 rfl 0 rfl ?_
                                  refine z_getr C ff_X8_90 82 (by decide) sh82 rfl dX8_findWay_347 ?_
                                  refine z_iload C dX8_findWay_350 5 rfl ?_
                                  refine z_iload C dX8_findWay_352 6 rfl ?_
                                  refine z_iast C 99 (by decide) sh99 i (by omega) (by decide) rfl dX8_findWay_354 ?_
                                  refine z_I (I' := zup (zup (zup I_1 97 R_2) 98 RS) 99 (upd RW i (nI (wlk (zGt jn A) n go k c0 i)))) (by rw [zup_s, zup_up]) ?_
                                  refine z_iload C dX8_findWay_355 4 rfl ?_
                                  refine z_iload C dX8_findWay_357 5 rfl ?_
                                  refine z_if_ne (tgt := 372) C dX8_findWay_359 (by decide) (fun c359 => ?_) (fun c359 => ?_)
                                  · skip
                                    have c359n : i ≠ 0 := fun q => c359 (by rw [q]; rfl)
                                    have hwp := hwn (i - 1)
                                    refine z_aload_n C dX8_findWay_372 rfl 0 rfl ?_
                                    refine z_getr C ff_X8_78 82 (by decide) sh82 rfl dX8_findWay_373 ?_
                                    refine z_bipush C (v := 8) dX8_findWay_376 (by decide) ?_
                                    refine z_aload_n C dX8_findWay_378 rfl 0 rfl ?_
                                    refine z_getr C ff_X8_90 82 (by decide) sh82 rfl dX8_findWay_379 ?_
                                    refine z_iload C dX8_findWay_382 5 rfl ?_
                                    refine z_iconst C (v := 1) dX8_findWay_384 (by decide) ?_
                                    refine z_isub C dX8_findWay_385 ?_
                                    refine z_ti (y := nI (i - 1)) (pk_sub (b := 1) (by omega)) ?_
                                    refine z_iald C 99 (by decide) sh99 (i - 1) (by omega) (by decide) rfl (v := nI (wlk (zGt jn A) n go k c0 (i - 1))) (by first | exact (by first | exact (hRW (i - 1) (by omega)) | (rw [if_neg (by omega)]; exact hRW (i - 1) (by omega))) | (simp [zup, zupJ, upd, vp_updL]; exact (by first | exact (hRW (i - 1) (by omega)) | (rw [if_neg (by omega)]; exact hRW (i - 1) (by omega))))) dX8_findWay_386 ?_
                                    refine z_imul C dX8_findWay_387 ?_
                                    refine z_ti (y := nI (8 * (wlk (zGt jn A) n go k c0 (i - 1)))) (pk_mul 8 (wlk (zGt jn A) n go k c0 (i - 1))) ?_
                                    refine z_iload C dX8_findWay_388 6 rfl ?_
                                    refine z_iadd C dX8_findWay_390 ?_
                                    refine z_ti (y := nI ((8 * (wlk (zGt jn A) n go k c0 (i - 1))) + (wlk (zGt jn A) n go k c0 i))) (nI_add (8 * (wlk (zGt jn A) n go k c0 (i - 1))) (wlk (zGt jn A) n go k c0 i)) ?_
                                    refine z_iald C 96 (by decide) sh96 ((8 * (wlk (zGt jn A) n go k c0 (i - 1))) + (wlk (zGt jn A) n go k c0 i)) (by omega) (by decide) rfl (v := nI (oF (if i = 0 then hd (wlk (zGt jn A) n go k c0 i) else aGo jn A (wlk (zGt jn A) n go k c0 (i - 1)) (wlk (zGt jn A) n go k c0 i)))) (by first | exact (by rw [if_neg c359n] at hfP ⊢; exact (hH_1 (wlk (zGt jn A) n go k c0 (i - 1)) (wlk (zGt jn A) n go k c0 i) hwp hwi).trans (oI_oF (by omega))) | (simp [zup, zupJ, upd, vp_updL]; exact (by rw [if_neg c359n] at hfP ⊢; exact (hH_1 (wlk (zGt jn A) n go k c0 (i - 1)) (wlk (zGt jn A) n go k c0 i) hwp hwi).trans (oI_oF (by omega))))) dX8_findWay_391 ?_
                                    refine z_isub C dX8_findWay_392 ?_
                                    refine z_istore C hm (lv' := [(4, .int ((nI (lfw k (ern 0 n jn A hd go) (lbk (zGt jn A) n go) (wlk (zGt jn A) n go k c0) i)) - (nI (oF (if i = 0 then hd (wlk (zGt jn A) n go k c0 i) else aGo jn A (wlk (zGt jn A) n go k c0 (i - 1)) (wlk (zGt jn A) n go k c0 i)))))), (0, .ref (zad w 82)), (1, .int (nI go)), (2, .int (nI (ern 0 n jn A hd go))), (3, .int (nI k)), (5, .int (nI i)), (6, .int (nI (wlk (zGt jn A) n go k c0 i))), (7, .int (nI 0 + Int32.ofInt (-1)))]) dX8_findWay_393 (by decide) rfl ?_
                                    refine z_iinc C hm 5 (v := nI (i + 1)) (lv' := [(5, .int (nI (i + 1))), (4, .int ((nI (lfw k (ern 0 n jn A hd go) (lbk (zGt jn A) n go) (wlk (zGt jn A) n go k c0) i)) - (nI (oF (if i = 0 then hd (wlk (zGt jn A) n go k c0 i) else aGo jn A (wlk (zGt jn A) n go k c0 (i - 1)) (wlk (zGt jn A) n go k c0 i)))))), (0, .ref (zad w 82)), (1, .int (nI go)), (2, .int (nI (ern 0 n jn A hd go))), (3, .int (nI k)), (6, .int (nI (wlk (zGt jn A) n go k c0 i))), (7, .int (nI 0 + Int32.ofInt (-1)))]) dX8_findWay_395 rfl (nI_add i 1) (by decide) rfl ?_
                                    refine z_goto (tgt := 249) C dX8_findWay_398 (by decide) ?_
                                    exact z_sub [2, 3, 4, 5, 1, 0] rfl (ih249  (i + 1) (upd RW i (nI (wlk (zGt jn A) n go k c0 i))) _ _ _ (by omega) (by omega) (lt_u hRW rfl) (by rw [hwl]; omega) (by rw [hwl]; exact pk_sub (by omega)) rfl rfl)
                                  · skip
                                    have c359z : i = 0 := (nI_0eq (by omega)).mp c359
                                    refine z_aload_n C dX8_findWay_362 rfl 0 rfl ?_
                                    refine z_getr C ff_X8_20 82 (by decide) sh82 rfl dX8_findWay_363 ?_
                                    refine z_iload C dX8_findWay_366 6 rfl ?_
                                    refine z_iald C 85 (by decide) sh85 (wlk (zGt jn A) n go k c0 i) (by omega) (by decide) rfl (v := nI (oF (if i = 0 then hd (wlk (zGt jn A) n go k c0 i) else aGo jn A (wlk (zGt jn A) n go k c0 (i - 1)) (wlk (zGt jn A) n go k c0 i)))) (by first | exact (by rw [if_pos c359z] at hfP ⊢; exact (hHd_1 (wlk (zGt jn A) n go k c0 i) hwi).trans (oM_oF (by omega))) | (simp [zup, zupJ, upd, vp_updL]; exact (by rw [if_pos c359z] at hfP ⊢; exact (hHd_1 (wlk (zGt jn A) n go k c0 i) hwi).trans (oM_oF (by omega))))) dX8_findWay_368 ?_
                                    refine z_goto (tgt := 392) C dX8_findWay_369 (by decide) ?_
                                    refine z_isub C dX8_findWay_392 ?_
                                    refine z_istore C hm (lv' := [(4, .int ((nI (lfw k (ern 0 n jn A hd go) (lbk (zGt jn A) n go) (wlk (zGt jn A) n go k c0) i)) - (nI (oF (if i = 0 then hd (wlk (zGt jn A) n go k c0 i) else aGo jn A (wlk (zGt jn A) n go k c0 (i - 1)) (wlk (zGt jn A) n go k c0 i)))))), (0, .ref (zad w 82)), (1, .int (nI go)), (2, .int (nI (ern 0 n jn A hd go))), (3, .int (nI k)), (5, .int (nI i)), (6, .int (nI (wlk (zGt jn A) n go k c0 i))), (7, .int (nI 0 + Int32.ofInt (-1)))]) dX8_findWay_393 (by decide) rfl ?_
                                    refine z_iinc C hm 5 (v := nI (i + 1)) (lv' := [(5, .int (nI (i + 1))), (4, .int ((nI (lfw k (ern 0 n jn A hd go) (lbk (zGt jn A) n go) (wlk (zGt jn A) n go k c0) i)) - (nI (oF (if i = 0 then hd (wlk (zGt jn A) n go k c0 i) else aGo jn A (wlk (zGt jn A) n go k c0 (i - 1)) (wlk (zGt jn A) n go k c0 i)))))), (0, .ref (zad w 82)), (1, .int (nI go)), (2, .int (nI (ern 0 n jn A hd go))), (3, .int (nI k)), (6, .int (nI (wlk (zGt jn A) n go k c0 i))), (7, .int (nI 0 + Int32.ofInt (-1)))]) dX8_findWay_395 rfl (nI_add i 1) (by decide) rfl ?_
                                    refine z_goto (tgt := 249) C dX8_findWay_398 (by decide) ?_
                                    exact z_sub [2, 3, 4, 5, 1, 0] rfl (ih249  (i + 1) (upd RW i (nI (wlk (zGt jn A) n go k c0 i))) _ _ _ (by omega) (by omega) (lt_u hRW rfl) (by rw [hwl]; omega) (by rw [hwl]; exact pk_sub (by omega)) rfl rfl)
                                · skip
                                  obtain ⟨j, rfl⟩ : ∃ j, m = j + 1 := by
                                    cases m with
                                    | zero => exact absurd pm1_0 c268
                                    | succ j => exact ⟨j, rfl⟩
                                  rw [pm1]
                                  refine z_iload C dX8_findWay_271 5 rfl ?_
                                  refine z_if_ne (tgt := 286) C dX8_findWay_273 (by decide) (fun c273 => ?_) (fun c273 => ?_)
                                  · skip
                                    have c273n : i ≠ 0 := fun q => c273 (by rw [q]; rfl)
                                    have hwp := hwn (i - 1)
                                    refine z_aload_n C dX8_findWay_286 rfl 0 rfl ?_
                                    refine z_getr C ff_X8_78 82 (by decide) sh82 rfl dX8_findWay_287 ?_
                                    refine z_bipush C (v := 8) dX8_findWay_290 (by decide) ?_
                                    refine z_aload_n C dX8_findWay_292 rfl 0 rfl ?_
                                    refine z_getr C ff_X8_90 82 (by decide) sh82 rfl dX8_findWay_293 ?_
                                    refine z_iload C dX8_findWay_296 5 rfl ?_
                                    refine z_iconst C (v := 1) dX8_findWay_298 (by decide) ?_
                                    refine z_isub C dX8_findWay_299 ?_
                                    refine z_ti (y := nI (i - 1)) (pk_sub (b := 1) (by omega)) ?_
                                    refine z_iald C 99 (by decide) sh99 (i - 1) (by omega) (by decide) rfl (v := nI (wlk (zGt jn A) n go k c0 (i - 1))) (by first | exact (hRW (i - 1) (by omega)) | (simp [zup, zupJ, upd, vp_updL]; exact (hRW (i - 1) (by omega)))) dX8_findWay_300 ?_
                                    refine z_imul C dX8_findWay_301 ?_
                                    refine z_ti (y := nI (8 * (wlk (zGt jn A) n go k c0 (i - 1)))) (pk_mul 8 (wlk (zGt jn A) n go k c0 (i - 1))) ?_
                                    refine z_iload C dX8_findWay_302 7 rfl ?_
                                    refine z_iadd C dX8_findWay_304 ?_
                                    refine z_ti (y := nI ((8 * (wlk (zGt jn A) n go k c0 (i - 1))) + j)) (nI_add (8 * (wlk (zGt jn A) n go k c0 (i - 1))) j) ?_
                                    refine z_iald C 96 (by decide) sh96 ((8 * (wlk (zGt jn A) n go k c0 (i - 1))) + j) (by omega) (by decide) rfl (v := oI (aGo jn A (wlk (zGt jn A) n go k c0 (i - 1)) j)) (by first | exact (hH_1 (wlk (zGt jn A) n go k c0 (i - 1)) j hwp (by omega)) | (simp [zup, zupJ, upd, vp_updL]; exact (hH_1 (wlk (zGt jn A) n go k c0 (i - 1)) j hwp (by omega)))) dX8_findWay_305 ?_
                                    refine z_istore C hm (lv' := [(8, .int (oI (aGo jn A (wlk (zGt jn A) n go k c0 (i - 1)) j))), (0, .ref (zad w 82)), (1, .int (nI go)), (2, .int (nI (ern 0 n jn A hd go))), (3, .int (nI k)), (4, .int (nI (lfw k (ern 0 n jn A hd go) (lbk (zGt jn A) n go) (wlk (zGt jn A) n go k c0) i))), (5, .int (nI i)), (6, .int (oM (ffi (fun b => oF (if i = 0 then hd b else aGo jn A (wlk (zGt jn A) n go k c0 (i - 1)) b) + lbk (zGt jn A) n go (k - i) b = lfw k (ern 0 n jn A hd go) (lbk (zGt jn A) n go) (wlk (zGt jn A) n go k c0) i) n (n - (j + 1))))), (7, .int (nI j))]) dX8_findWay_306 (by decide) rfl ?_
                                    refine z_iload C dX8_findWay_308 0 rfl ?_
                                    refine z_if_lt (tgt := 340) C dX8_findWay_310 (by decide) (fun c310 => ?_) (fun c310 => ?_)
                                    · skip
                                      have hcn : (if i = 0 then hd j else aGo jn A (wlk (zGt jn A) n go k c0 (i - 1)) j) = none := by rw [if_neg c273n]; exact oI_f (fun k q => aGo_le (mHeld_ok hM) k q) (Int32.not_le.mpr c310)
                                      refine z_iinc C hm 8 (v := (nI j) + Int32.ofInt (-1)) (lv' := [(7, .int ((nI j) + Int32.ofInt (-1))), (8, .int (oI (aGo jn A (wlk (zGt jn A) n go k c0 (i - 1)) j))), (0, .ref (zad w 82)), (1, .int (nI go)), (2, .int (nI (ern 0 n jn A hd go))), (3, .int (nI k)), (4, .int (nI (lfw k (ern 0 n jn A hd go) (lbk (zGt jn A) n go) (wlk (zGt jn A) n go k c0) i))), (5, .int (nI i)), (6, .int (oM (ffi (fun b => oF (if i = 0 then hd b else aGo jn A (wlk (zGt jn A) n go k c0 (i - 1)) b) + lbk (zGt jn A) n go (k - i) b = lfw k (ern 0 n jn A hd go) (lbk (zGt jn A) n go) (wlk (zGt jn A) n go k c0) i) n (n - (j + 1)))))]) dX8_findWay_340 rfl rfl (by decide) rfl ?_
                                      refine z_goto (tgt := 266) C dX8_findWay_343 (by decide) ?_
                                      exact z_sub [2, 3, 4, 5, 6, 7, 8, 0] rfl (ih266  j _ _ (by omega) (by omega) (by rw [show n - j = n - (j + 1) + 1 by omega, ffi, show n - (n - (j + 1) + 1) = j by omega, cif_f (fun q => by rw [hcn] at q; exact absurd q (by show zFar + _ ≠ _; omega))]) rfl)
                                    · skip
                                      obtain ⟨ww, hws⟩ := oI_t (Int32.not_lt.mp c310)
                                      have hcs : (if i = 0 then hd j else aGo jn A (wlk (zGt jn A) n go k c0 (i - 1)) j) = some ww := by rw [if_neg c273n]; exact hws
                                      have hw9 : ww ≤ 999 := aGo_le (mHeld_ok hM) ww hws
                                      rw [show oI (aGo jn A (wlk (zGt jn A) n go k c0 (i - 1)) j) = nI ww from by rw [hws]; rfl]
                                      refine z_iload C dX8_findWay_313 0 rfl ?_
                                      refine z_aload_n C dX8_findWay_315 rfl 1 rfl ?_
                                      refine z_getr C ff_X8_84 82 (by decide) sh82 rfl dX8_findWay_316 ?_
                                      refine z_bipush C (v := 8) dX8_findWay_319 (by decide) ?_
                                      refine z_iload_n C dX8_findWay_321 rfl 4 rfl ?_
                                      refine z_iload C dX8_findWay_322 6 rfl ?_
                                      refine z_isub C dX8_findWay_324 ?_
                                      refine z_ti (y := nI (k - i)) (pk_sub (by omega)) ?_
                                      refine z_imul C dX8_findWay_325 ?_
                                      refine z_ti (y := nI (8 * (k - i))) (pk_mul 8 (k - i)) ?_
                                      refine z_iload C dX8_findWay_326 8 rfl ?_
                                      refine z_iadd C dX8_findWay_328 ?_
                                      refine z_ti (y := nI ((8 * (k - i)) + j)) (nI_add (8 * (k - i)) j) ?_
                                      refine z_iald C 98 (by decide) sh98 ((8 * (k - i)) + j) (by omega) (by decide) rfl (v := nI (lbk (zGt jn A) n go (k - i) j)) (by first | exact (hRj (k - i) (by omega) j (by omega)) | (simp [zup, zupJ, upd, vp_updL]; exact (hRj (k - i) (by omega) j (by omega)))) dX8_findWay_329 ?_
                                      refine z_iadd C dX8_findWay_330 ?_
                                      refine z_ti (y := nI (ww + (lbk (zGt jn A) n go (k - i) j))) (nI_add ww (lbk (zGt jn A) n go (k - i) j)) ?_
                                      refine z_iload C dX8_findWay_331 5 rfl ?_
                                      refine z_icmp_ne_n (ww + (lbk (zGt jn A) n go (k - i) j)) (lfw k (ern 0 n jn A hd go) (lbk (zGt jn A) n go) (wlk (zGt jn A) n go k c0) i) (tgt := 340) C rfl rfl (by have := hLle (k - i) j; omega) (by omega) dX8_findWay_333 (by decide) (fun c333 => ?_) (fun c333 => ?_)
                                      · skip
                                        refine z_iinc C hm 8 (v := (nI j) + Int32.ofInt (-1)) (lv' := [(7, .int ((nI j) + Int32.ofInt (-1))), (8, .int (nI ww)), (0, .ref (zad w 82)), (1, .int (nI go)), (2, .int (nI (ern 0 n jn A hd go))), (3, .int (nI k)), (4, .int (nI (lfw k (ern 0 n jn A hd go) (lbk (zGt jn A) n go) (wlk (zGt jn A) n go k c0) i))), (5, .int (nI i)), (6, .int (oM (ffi (fun b => oF (if i = 0 then hd b else aGo jn A (wlk (zGt jn A) n go k c0 (i - 1)) b) + lbk (zGt jn A) n go (k - i) b = lfw k (ern 0 n jn A hd go) (lbk (zGt jn A) n go) (wlk (zGt jn A) n go k c0) i) n (n - (j + 1)))))]) dX8_findWay_340 rfl rfl (by decide) rfl ?_
                                        refine z_goto (tgt := 266) C dX8_findWay_343 (by decide) ?_
                                        exact z_sub [2, 3, 4, 5, 6, 7, 8, 0] rfl (ih266  j _ _ (by omega) (by omega) (by rw [show n - j = n - (j + 1) + 1 by omega, ffi, show n - (n - (j + 1) + 1) = j by omega, cif_f (fun q => by rw [hcs] at q; exact c333 q)]) rfl)
                                      · skip
                                        refine z_iload C dX8_findWay_336 8 rfl ?_
                                        refine z_istore C hm (lv' := [(6, .int (nI j)), (8, .int (nI ww)), (0, .ref (zad w 82)), (1, .int (nI go)), (2, .int (nI (ern 0 n jn A hd go))), (3, .int (nI k)), (4, .int (nI (lfw k (ern 0 n jn A hd go) (lbk (zGt jn A) n go) (wlk (zGt jn A) n go k c0) i))), (5, .int (nI i)), (7, .int (nI j))]) dX8_findWay_338 (by decide) rfl ?_
                                        refine z_iinc C hm 8 (v := (nI j) + Int32.ofInt (-1)) (lv' := [(7, .int ((nI j) + Int32.ofInt (-1))), (6, .int (nI j)), (8, .int (nI ww)), (0, .ref (zad w 82)), (1, .int (nI go)), (2, .int (nI (ern 0 n jn A hd go))), (3, .int (nI k)), (4, .int (nI (lfw k (ern 0 n jn A hd go) (lbk (zGt jn A) n go) (wlk (zGt jn A) n go k c0) i))), (5, .int (nI i))]) dX8_findWay_340 rfl rfl (by decide) rfl ?_
                                        refine z_goto (tgt := 266) C dX8_findWay_343 (by decide) ?_
                                        exact z_sub [3, 4, 5, 6, 7, 8, 1, 0] rfl (ih266  j _ _ (by omega) (by omega) (by rw [show n - j = n - (j + 1) + 1 by omega, ffi, show n - (n - (j + 1) + 1) = j by omega, cif_t (by show oF _ + _ = _; rw [hcs]; exact c333)]; rfl) rfl)
                                  · skip
                                    have c273z : i = 0 := (nI_0eq (by omega)).mp c273
                                    refine z_aload_n C dX8_findWay_276 rfl 0 rfl ?_
                                    refine z_getr C ff_X8_20 82 (by decide) sh82 rfl dX8_findWay_277 ?_
                                    refine z_iload C dX8_findWay_280 7 rfl ?_
                                    refine z_iald C 85 (by decide) sh85 j (by omega) (by decide) rfl (v := oM (hd j)) (by first | exact (hHd_1 j (by omega)) | (simp [zup, zupJ, upd, vp_updL]; exact (hHd_1 j (by omega)))) dX8_findWay_282 ?_
                                    refine z_goto (tgt := 306) C dX8_findWay_283 (by decide) ?_
                                    refine z_istore C hm (lv' := [(8, .int (oM (hd j))), (0, .ref (zad w 82)), (1, .int (nI go)), (2, .int (nI (ern 0 n jn A hd go))), (3, .int (nI k)), (4, .int (nI (lfw k (ern 0 n jn A hd go) (lbk (zGt jn A) n go) (wlk (zGt jn A) n go k c0) i))), (5, .int (nI i)), (6, .int (oM (ffi (fun b => oF (if i = 0 then hd b else aGo jn A (wlk (zGt jn A) n go k c0 (i - 1)) b) + lbk (zGt jn A) n go (k - i) b = lfw k (ern 0 n jn A hd go) (lbk (zGt jn A) n go) (wlk (zGt jn A) n go k c0) i) n (n - (j + 1))))), (7, .int (nI j))]) dX8_findWay_306 (by decide) rfl ?_
                                    refine z_iload C dX8_findWay_308 0 rfl ?_
                                    refine z_if_lt (tgt := 340) C dX8_findWay_310 (by decide) (fun c310 => ?_) (fun c310 => ?_)
                                    · skip
                                      have hcn : (if i = 0 then hd j else aGo jn A (wlk (zGt jn A) n go k c0 (i - 1)) j) = none := by rw [if_pos c273z]; exact (oM_neg (fun k q => hd99 j k q)).mp ((c310))
                                      refine z_iinc C hm 8 (v := (nI j) + Int32.ofInt (-1)) (lv' := [(7, .int ((nI j) + Int32.ofInt (-1))), (8, .int (oM (hd j))), (0, .ref (zad w 82)), (1, .int (nI go)), (2, .int (nI (ern 0 n jn A hd go))), (3, .int (nI k)), (4, .int (nI (lfw k (ern 0 n jn A hd go) (lbk (zGt jn A) n go) (wlk (zGt jn A) n go k c0) i))), (5, .int (nI i)), (6, .int (oM (ffi (fun b => oF (if i = 0 then hd b else aGo jn A (wlk (zGt jn A) n go k c0 (i - 1)) b) + lbk (zGt jn A) n go (k - i) b = lfw k (ern 0 n jn A hd go) (lbk (zGt jn A) n go) (wlk (zGt jn A) n go k c0) i) n (n - (j + 1)))))]) dX8_findWay_340 rfl rfl (by decide) rfl ?_
                                      refine z_goto (tgt := 266) C dX8_findWay_343 (by decide) ?_
                                      exact z_sub [2, 3, 4, 5, 6, 7, 8, 0] rfl (ih266  j _ _ (by omega) (by omega) (by rw [show n - j = n - (j + 1) + 1 by omega, ffi, show n - (n - (j + 1) + 1) = j by omega, cif_f (fun q => by rw [hcn] at q; exact absurd q (by show zFar + _ ≠ _; omega))]) rfl)
                                    · skip
                                      obtain ⟨ww, hws⟩ := oM_ge (Int32.not_lt.mp c310)
                                      have hcs : (if i = 0 then hd j else aGo jn A (wlk (zGt jn A) n go k c0 (i - 1)) j) = some ww := by rw [if_pos c273z]; exact hws
                                      have hw9 : ww ≤ 999 := Nat.le_trans (hd99 j ww hws) (by decide)
                                      rw [show oM (hd j) = nI ww from by rw [hws]; rfl]
                                      refine z_iload C dX8_findWay_313 0 rfl ?_
                                      refine z_aload_n C dX8_findWay_315 rfl 1 rfl ?_
                                      refine z_getr C ff_X8_84 82 (by decide) sh82 rfl dX8_findWay_316 ?_
                                      refine z_bipush C (v := 8) dX8_findWay_319 (by decide) ?_
                                      refine z_iload_n C dX8_findWay_321 rfl 4 rfl ?_
                                      refine z_iload C dX8_findWay_322 6 rfl ?_
                                      refine z_isub C dX8_findWay_324 ?_
                                      refine z_ti (y := nI (k - i)) (pk_sub (by omega)) ?_
                                      refine z_imul C dX8_findWay_325 ?_
                                      refine z_ti (y := nI (8 * (k - i))) (pk_mul 8 (k - i)) ?_
                                      refine z_iload C dX8_findWay_326 8 rfl ?_
                                      refine z_iadd C dX8_findWay_328 ?_
                                      refine z_ti (y := nI ((8 * (k - i)) + j)) (nI_add (8 * (k - i)) j) ?_
                                      refine z_iald C 98 (by decide) sh98 ((8 * (k - i)) + j) (by omega) (by decide) rfl (v := nI (lbk (zGt jn A) n go (k - i) j)) (by first | exact (hRj (k - i) (by omega) j (by omega)) | (simp [zup, zupJ, upd, vp_updL]; exact (hRj (k - i) (by omega) j (by omega)))) dX8_findWay_329 ?_
                                      refine z_iadd C dX8_findWay_330 ?_
                                      refine z_ti (y := nI (ww + (lbk (zGt jn A) n go (k - i) j))) (nI_add ww (lbk (zGt jn A) n go (k - i) j)) ?_
                                      refine z_iload C dX8_findWay_331 5 rfl ?_
                                      refine z_icmp_ne_n (ww + (lbk (zGt jn A) n go (k - i) j)) (lfw k (ern 0 n jn A hd go) (lbk (zGt jn A) n go) (wlk (zGt jn A) n go k c0) i) (tgt := 340) C rfl rfl (by have := hLle (k - i) j; omega) (by omega) dX8_findWay_333 (by decide) (fun c333 => ?_) (fun c333 => ?_)
                                      · skip
                                        refine z_iinc C hm 8 (v := (nI j) + Int32.ofInt (-1)) (lv' := [(7, .int ((nI j) + Int32.ofInt (-1))), (8, .int (nI ww)), (0, .ref (zad w 82)), (1, .int (nI go)), (2, .int (nI (ern 0 n jn A hd go))), (3, .int (nI k)), (4, .int (nI (lfw k (ern 0 n jn A hd go) (lbk (zGt jn A) n go) (wlk (zGt jn A) n go k c0) i))), (5, .int (nI i)), (6, .int (oM (ffi (fun b => oF (if i = 0 then hd b else aGo jn A (wlk (zGt jn A) n go k c0 (i - 1)) b) + lbk (zGt jn A) n go (k - i) b = lfw k (ern 0 n jn A hd go) (lbk (zGt jn A) n go) (wlk (zGt jn A) n go k c0) i) n (n - (j + 1)))))]) dX8_findWay_340 rfl rfl (by decide) rfl ?_
                                        refine z_goto (tgt := 266) C dX8_findWay_343 (by decide) ?_
                                        exact z_sub [2, 3, 4, 5, 6, 7, 8, 0] rfl (ih266  j _ _ (by omega) (by omega) (by rw [show n - j = n - (j + 1) + 1 by omega, ffi, show n - (n - (j + 1) + 1) = j by omega, cif_f (fun q => by rw [hcs] at q; exact c333 q)]) rfl)
                                      · skip
                                        refine z_iload C dX8_findWay_336 8 rfl ?_
                                        refine z_istore C hm (lv' := [(6, .int (nI j)), (8, .int (nI ww)), (0, .ref (zad w 82)), (1, .int (nI go)), (2, .int (nI (ern 0 n jn A hd go))), (3, .int (nI k)), (4, .int (nI (lfw k (ern 0 n jn A hd go) (lbk (zGt jn A) n go) (wlk (zGt jn A) n go k c0) i))), (5, .int (nI i)), (7, .int (nI j))]) dX8_findWay_338 (by decide) rfl ?_
                                        refine z_iinc C hm 8 (v := (nI j) + Int32.ofInt (-1)) (lv' := [(7, .int ((nI j) + Int32.ofInt (-1))), (6, .int (nI j)), (8, .int (nI ww)), (0, .ref (zad w 82)), (1, .int (nI go)), (2, .int (nI (ern 0 n jn A hd go))), (3, .int (nI k)), (4, .int (nI (lfw k (ern 0 n jn A hd go) (lbk (zGt jn A) n go) (wlk (zGt jn A) n go k c0) i))), (5, .int (nI i))]) dX8_findWay_340 rfl rfl (by decide) rfl ?_
                                        refine z_goto (tgt := 266) C dX8_findWay_343 (by decide) ?_
                                        exact z_sub [3, 4, 5, 6, 7, 8, 1, 0] rfl (ih266  j _ _ (by omega) (by omega) (by rw [show n - j = n - (j + 1) + 1 by omega, ffi, show n - (n - (j + 1) + 1) = j by omega, cif_t (by show oF _ + _ = _; rw [hcs]; exact c333)]; rfl) rfl)
                            exact z_sub [2, 3, 4, 5, 6, 7, 1, 0] rfl (L266 _ n _ _ (Nat.lt_succ_self _) (Nat.le_refl _) (by rw [Nat.sub_self]; rfl) (m1s _))
                      exact z_sub [2, 3, 4, 5, 1, 0] rfl (L249 _ 0 (I_1 99) _ _ _ (Nat.lt_succ_self _) (Nat.zero_le _) (fun _ h0 => absurd h0 (Nat.not_lt_zero _)) (by rw [lfw, if_pos rfl]; exact c19) rfl rfl (by funext zk; by_cases h99 : zk = 99 <;> simp [zup, h99]))
                    · skip
                      refine z_iconst C (v := 0) dX8_findWay_94 (by decide) ?_
                      refine z_istore C hm (lv' := [(5, .int 0), (0, .ref (zad w 82)), (1, .int (nI go)), (2, .int (nI (ern 0 n jn A hd go))), (3, .int (nI k)), (4, .int (nI (j + 1)))]) dX8_findWay_95 (by decide) rfl ?_
                      have L97 : ∀ (d : Nat) (a : Nat) (RT : Nat → Int32) (v97_5 : Int32) (I97 : zI), (n - a) < d → (a ≤ n) → (∀ i, i ≤ j → ∀ x, x < n → RT (8 * i + x) = nI (lbk (zGt jn A) n go i x)) → (∀ x, x < a → RT (8 * (j + 1) + x) = nI (lbk (zGt jn A) n go (j + 1) x)) → v97_5 = nI a → I97 = zup (zup I_1 97 R_2) 98 RT → Z X w I97 J 97 [(0, .ref (zad w 82)), (1, .int (nI go)), (2, .int (nI (ern 0 n jn A hd go))), (3, .int (nI k)), (4, .int (nI (j + 1))), (5, .int v97_5)] [] := by
                        intro d
                        induction d with
                        | zero => intro a RT v97_5 I97 hd; exact absurd hd (Nat.not_lt_zero _)
                        | succ d ih97 => 
                          intro a RT v97_5 I97 hd97 ha hRT hRU e_v97_5 e_I97
                          replace e_v97_5 := e_v97_5.symm; subst e_v97_5
                          replace e_I97 := e_I97.symm; subst e_I97
                          refine z_iload C dX8_findWay_97 5 rfl ?_
                          refine z_aload_n C dX8_findWay_99 rfl 0 rfl ?_
                          refine z_geti C ff_X8_7 82 (by decide) sh82 rfl (v := nI n) (by first | exact hN_1 | (simp [zup, zupJ, upd, vp_updL]; exact hN_1)) dX8_findWay_100 ?_
                          refine z_icmp_ge_n a n (tgt := 237) C rfl rfl (by omega) (by omega) dX8_findWay_103 (by decide) (fun c103 => ?_) (fun c103 => ?_)
                          · skip
                            refine z_iinc C hm 4 (v := nI (j + 1 + 1)) (lv' := [(4, .int (nI (j + 1 + 1))), (0, .ref (zad w 82)), (1, .int (nI go)), (2, .int (nI (ern 0 n jn A hd go))), (3, .int (nI k)), (5, .int (nI a))]) dX8_findWay_237 rfl (nI_add (j + 1) 1) (by decide) rfl ?_
                            refine z_goto (tgt := 88) C dX8_findWay_240 (by decide) ?_
                            exact z_sub [1, 2, 3, 4, 0] rfl (ih88  (j + 1) RT _ _ (by omega) (by omega) (fun i h1 x h2 => by
                                by_cases z : i ≤ j
                                · exact hRT i z x h2
                                · rw [show i = j + 1 by omega]; exact hRU x (by omega)) rfl rfl)
                          · skip
                            refine z_ldcw C (v := 1000000) kc_X8_274 dX8_findWay_106 ?_
                            refine z_istore C hm (lv' := [(6, .int 1000000), (0, .ref (zad w 82)), (1, .int (nI go)), (2, .int (nI (ern 0 n jn A hd go))), (3, .int (nI k)), (4, .int (nI (j + 1))), (5, .int (nI a))]) dX8_findWay_109 (by decide) rfl ?_
                            refine z_iconst C (v := 0) dX8_findWay_111 (by decide) ?_
                            refine z_istore C hm (lv' := [(7, .int 0), (6, .int 1000000), (0, .ref (zad w 82)), (1, .int (nI go)), (2, .int (nI (ern 0 n jn A hd go))), (3, .int (nI k)), (4, .int (nI (j + 1))), (5, .int (nI a))]) dX8_findWay_112 (by decide) rfl ?_
                            have L114 : ∀ (d : Nat) (b : Nat) (v114_6 : Int32) (v114_7 : Int32), (n - b) < d → (b ≤ n) → v114_6 = nI (lbI (zGt jn A) (lbk (zGt jn A) n go j) a b) → v114_7 = nI b → Z X w (zup (zup I_1 97 R_2) 98 RT) J 114 [(0, .ref (zad w 82)), (1, .int (nI go)), (2, .int (nI (ern 0 n jn A hd go))), (3, .int (nI k)), (4, .int (nI (j + 1))), (5, .int (nI a)), (6, .int v114_6), (7, .int v114_7)] [] := by
                              intro d
                              induction d with
                              | zero => intro b v114_6 v114_7 hd; exact absurd hd (Nat.not_lt_zero _)
                              | succ d ih114 => 
                                intro b v114_6 v114_7 hd114 hb e_v114_6 e_v114_7
                                replace e_v114_6 := e_v114_6.symm; subst e_v114_6
                                replace e_v114_7 := e_v114_7.symm; subst e_v114_7
                                refine z_iload C dX8_findWay_114 7 rfl ?_
                                refine z_aload_n C dX8_findWay_116 rfl 0 rfl ?_
                                refine z_geti C ff_X8_7 82 (by decide) sh82 rfl (v := nI n) (by first | exact hN_1 | (simp [zup, zupJ, upd, vp_updL]; exact hN_1)) dX8_findWay_117 ?_
                                refine z_icmp_ge_n b n (tgt := 216) C rfl rfl (by omega) (by omega) dX8_findWay_120 (by decide) (fun c120 => ?_) (fun c120 => ?_)
                                · skip
                                  refine z_aload_n C dX8_findWay_216 rfl 0 rfl ?_
                                  refine z_getr C ff_X8_84 82 (by decide) sh82 rfl dX8_findWay_217 ?_
                                  refine z_bipush C (v := 8) dX8_findWay_220 (by decide) ?_
                                  refine z_iload C dX8_findWay_222 4 rfl ?_
                                  refine z_imul C dX8_findWay_224 ?_
                                  refine z_ti (y := nI (8 * (j + 1))) (pk_mul 8 (j + 1)) ?_
                                  refine z_iload C dX8_findWay_225 5 rfl ?_
                                  refine z_iadd C dX8_findWay_227 ?_
                                  refine z_ti (y := nI (8 * (j + 1) + a)) (nI_add (8 * (j + 1)) a) ?_
                                  refine z_iload C dX8_findWay_228 6 rfl ?_
                                  refine z_iast C 98 (by decide) sh98 (8 * (j + 1) + a) (by omega) (by decide) rfl dX8_findWay_230 ?_
                                  refine z_I (I' := zup (zup I_1 97 R_2) 98 (upd RT (8 * (j + 1) + a) (nI (lbI (zGt jn A) (lbk (zGt jn A) n go j) a b)))) (by rw [zup_s, zup_up]) ?_
                                  refine z_iinc C hm 5 (v := nI (a + 1)) (lv' := [(5, .int (nI (a + 1))), (0, .ref (zad w 82)), (1, .int (nI go)), (2, .int (nI (ern 0 n jn A hd go))), (3, .int (nI k)), (4, .int (nI (j + 1))), (6, .int (nI (lbI (zGt jn A) (lbk (zGt jn A) n go j) a b))), (7, .int (nI b))]) dX8_findWay_231 rfl (nI_add a 1) (by decide) rfl ?_
                                  refine z_goto (tgt := 97) C dX8_findWay_234 (by decide) ?_
                                  exact z_sub [1, 2, 3, 4, 5, 0] rfl (ih97  (a + 1) (upd RT (8 * (j + 1) + a) (nI (lbk (zGt jn A) n go (j + 1) a))) _ _ (by omega) (by omega) (fun i h1 x h2 => by rw [upd_n (by omega)]; exact hRT i h1 x h2) (fun x hx => by
                                      by_cases z : x = a
                                      · rw [z]; exact upd_s
                                      · rw [upd_n (by omega)]; exact hRU x (by omega)) rfl (by rw [show b = n by omega]; rfl))
                                · skip
                                  refine z_aload_n C dX8_findWay_123 rfl 0 rfl ?_
                                  refine z_getr C ff_X8_78 82 (by decide) sh82 rfl dX8_findWay_124 ?_
                                  refine z_bipush C (v := 8) dX8_findWay_127 (by decide) ?_
                                  refine z_iload C dX8_findWay_129 5 rfl ?_
                                  refine z_imul C dX8_findWay_131 ?_
                                  refine z_ti (y := nI (8 * a)) (pk_mul 8 a) ?_
                                  refine z_iload C dX8_findWay_132 7 rfl ?_
                                  refine z_iadd C dX8_findWay_134 ?_
                                  refine z_ti (y := nI (8 * a + b)) (nI_add (8 * a) b) ?_
                                  refine z_iald C 96 (by decide) sh96 (8 * a + b) (by omega) (by decide) rfl (v := oI (aGo jn A a b)) (by first | exact (hH_1 a b (by omega) (by omega)) | (simp [zup, zupJ, upd, vp_updL]; exact (hH_1 a b (by omega) (by omega)))) dX8_findWay_135 ?_
                                  refine z_if_lt (tgt := 210) C dX8_findWay_136 (by decide) (fun c136 => ?_) (fun c136 => ?_)
                                  · skip
                                    have hgn : aGo jn A a b = none := oI_f (fun k q => aGo_le (mHeld_ok hM) k q) (Int32.not_le.mpr c136)
                                    refine z_iinc C hm 7 (v := nI (b + 1)) (lv' := [(7, .int (nI (b + 1))), (0, .ref (zad w 82)), (1, .int (nI go)), (2, .int (nI (ern 0 n jn A hd go))), (3, .int (nI k)), (4, .int (nI (j + 1))), (5, .int (nI a)), (6, .int (nI (lbI (zGt jn A) (lbk (zGt jn A) n go j) a b)))]) dX8_findWay_210 rfl (nI_add b 1) (by decide) rfl ?_
                                    refine z_goto (tgt := 114) C dX8_findWay_213 (by decide) ?_
                                    exact z_sub [1, 2, 3, 4, 5, 6, 7, 0] rfl (ih114  (b + 1) _ _ (by omega) (by omega) (by rw [lbI_e (Or.inl (by unfold zGt; rw [hgn]; rfl))]) rfl)
                                  · skip
                                    obtain ⟨ww, hgs⟩ := oI_t (Int32.not_lt.mp c136)
                                    have hw9 := aGo_le (mHeld_ok hM) ww hgs
                                    refine z_aload_n C dX8_findWay_139 rfl 0 rfl ?_
                                    refine z_getr C ff_X8_84 82 (by decide) sh82 rfl dX8_findWay_140 ?_
                                    refine z_bipush C (v := 8) dX8_findWay_143 (by decide) ?_
                                    refine z_iload C dX8_findWay_145 4 rfl ?_
                                    refine z_iconst C (v := 1) dX8_findWay_147 (by decide) ?_
                                    refine z_isub C dX8_findWay_148 ?_
                                    refine z_ti (y := nI j) (nI_pred _) ?_
                                    refine z_imul C dX8_findWay_149 ?_
                                    refine z_ti (y := nI (8 * j)) (pk_mul 8 j) ?_
                                    refine z_iload C dX8_findWay_150 7 rfl ?_
                                    refine z_iadd C dX8_findWay_152 ?_
                                    refine z_ti (y := nI (8 * j + b)) (nI_add (8 * j) b) ?_
                                    refine z_iald C 98 (by decide) sh98 (8 * j + b) (by omega) (by decide) rfl (v := nI (lbk (zGt jn A) n go j b)) (by first | exact (hRT j (Nat.le_refl _) b (by omega)) | (simp [zup, zupJ, upd, vp_updL]; exact (hRT j (Nat.le_refl _) b (by omega)))) dX8_findWay_153 ?_
                                    refine z_ldcw C (v := 1000000) kc_X8_274 dX8_findWay_154 ?_
                                    refine z_icmp_lt_n (lbk (zGt jn A) n go j b) 1000000 (tgt := 163) C rfl rfl (by have := hLle j b; omega) (by omega) dX8_findWay_157 (by decide) (fun c157 => ?_) (fun c157 => ?_)
                                    · skip
                                      refine z_aload_n C dX8_findWay_163 rfl 0 rfl ?_
                                      refine z_getr C ff_X8_78 82 (by decide) sh82 rfl dX8_findWay_164 ?_
                                      refine z_bipush C (v := 8) dX8_findWay_167 (by decide) ?_
                                      refine z_iload C dX8_findWay_169 5 rfl ?_
                                      refine z_imul C dX8_findWay_171 ?_
                                      refine z_ti (y := nI (8 * a)) (pk_mul 8 a) ?_
                                      refine z_iload C dX8_findWay_172 7 rfl ?_
                                      refine z_iadd C dX8_findWay_174 ?_
                                      refine z_ti (y := nI (8 * a + b)) (nI_add (8 * a) b) ?_
                                      refine z_iald C 96 (by decide) sh96 (8 * a + b) (by omega) (by decide) rfl (v := nI ww) (by first | exact (by rw [hH_1 a b (by omega) (by omega), hgs]; rfl) | (simp [zup, zupJ, upd, vp_updL]; exact (by rw [hH_1 a b (by omega) (by omega), hgs]; rfl))) dX8_findWay_175 ?_
                                      refine z_aload_n C dX8_findWay_176 rfl 0 rfl ?_
                                      refine z_getr C ff_X8_84 82 (by decide) sh82 rfl dX8_findWay_177 ?_
                                      refine z_bipush C (v := 8) dX8_findWay_180 (by decide) ?_
                                      refine z_iload C dX8_findWay_182 4 rfl ?_
                                      refine z_iconst C (v := 1) dX8_findWay_184 (by decide) ?_
                                      refine z_isub C dX8_findWay_185 ?_
                                      refine z_ti (y := nI j) (nI_pred _) ?_
                                      refine z_imul C dX8_findWay_186 ?_
                                      refine z_ti (y := nI (8 * j)) (pk_mul 8 j) ?_
                                      refine z_iload C dX8_findWay_187 7 rfl ?_
                                      refine z_iadd C dX8_findWay_189 ?_
                                      refine z_ti (y := nI (8 * j + b)) (nI_add (8 * j) b) ?_
                                      refine z_iald C 98 (by decide) sh98 (8 * j + b) (by omega) (by decide) rfl (v := nI (lbk (zGt jn A) n go j b)) (by first | exact (hRT j (Nat.le_refl _) b (by omega)) | (simp [zup, zupJ, upd, vp_updL]; exact (hRT j (Nat.le_refl _) b (by omega)))) dX8_findWay_190 ?_
                                      refine z_iadd C dX8_findWay_191 ?_
                                      refine z_ti (y := nI (ww + (lbk (zGt jn A) n go j b))) (nI_add ww (lbk (zGt jn A) n go j b)) ?_
                                      refine z_istore C hm (lv' := [(8, .int (nI (ww + (lbk (zGt jn A) n go j b)))), (0, .ref (zad w 82)), (1, .int (nI go)), (2, .int (nI (ern 0 n jn A hd go))), (3, .int (nI k)), (4, .int (nI (j + 1))), (5, .int (nI a)), (6, .int (nI (lbI (zGt jn A) (lbk (zGt jn A) n go j) a b))), (7, .int (nI b))]) dX8_findWay_192 (by decide) rfl ?_
                                      refine z_iload C dX8_findWay_194 0 rfl ?_
                                      refine z_iload C dX8_findWay_196 7 rfl ?_
                                      refine z_icmp_ge_n (ww + (lbk (zGt jn A) n go j b)) (lbI (zGt jn A) (lbk (zGt jn A) n go j) a b) (tgt := 206) C rfl rfl (by have := hLle j b; omega) (by have := lbI_le (G := zGt jn A) (L := lbk (zGt jn A) n go j) (a := a) b; omega) dX8_findWay_198 (by decide) (fun c198 => ?_) (fun c198 => ?_)
                                      · skip
                                        refine z_iload C dX8_findWay_206 7 rfl ?_
                                        refine z_istore C hm (lv' := [(6, .int (nI (lbI (zGt jn A) (lbk (zGt jn A) n go j) a b))), (8, .int (nI (ww + (lbk (zGt jn A) n go j b)))), (0, .ref (zad w 82)), (1, .int (nI go)), (2, .int (nI (ern 0 n jn A hd go))), (3, .int (nI k)), (4, .int (nI (j + 1))), (5, .int (nI a)), (7, .int (nI b))]) dX8_findWay_208 (by decide) rfl ?_
                                        refine z_iinc C hm 8 (v := nI (b + 1)) (lv' := [(7, .int (nI (b + 1))), (6, .int (nI (lbI (zGt jn A) (lbk (zGt jn A) n go j) a b))), (8, .int (nI (ww + (lbk (zGt jn A) n go j b)))), (0, .ref (zad w 82)), (1, .int (nI go)), (2, .int (nI (ern 0 n jn A hd go))), (3, .int (nI k)), (4, .int (nI (j + 1))), (5, .int (nI a))]) dX8_findWay_210 rfl (nI_add b 1) (by decide) rfl ?_
                                        refine z_goto (tgt := 114) C dX8_findWay_213 (by decide) ?_
                                        exact z_sub [3, 4, 5, 6, 7, 8, 1, 0] rfl (ih114  (b + 1) _ _ (by omega) (by omega) (by rw [lbI, show zGt jn A a b = ww from by unfold zGt; rw [hgs]; rfl, Nat.min_eq_left (by omega)]) rfl)
                                      · skip
                                        refine z_iload C dX8_findWay_201 0 rfl ?_
                                        refine z_goto (tgt := 208) C dX8_findWay_203 (by decide) ?_
                                        refine z_istore C hm (lv' := [(6, .int (nI (ww + (lbk (zGt jn A) n go j b)))), (8, .int (nI (ww + (lbk (zGt jn A) n go j b)))), (0, .ref (zad w 82)), (1, .int (nI go)), (2, .int (nI (ern 0 n jn A hd go))), (3, .int (nI k)), (4, .int (nI (j + 1))), (5, .int (nI a)), (7, .int (nI b))]) dX8_findWay_208 (by decide) rfl ?_
                                        refine z_iinc C hm 8 (v := nI (b + 1)) (lv' := [(7, .int (nI (b + 1))), (6, .int (nI (ww + (lbk (zGt jn A) n go j b)))), (8, .int (nI (ww + (lbk (zGt jn A) n go j b)))), (0, .ref (zad w 82)), (1, .int (nI go)), (2, .int (nI (ern 0 n jn A hd go))), (3, .int (nI k)), (4, .int (nI (j + 1))), (5, .int (nI a))]) dX8_findWay_210 rfl (nI_add b 1) (by decide) rfl ?_
                                        refine z_goto (tgt := 114) C dX8_findWay_213 (by decide) ?_
                                        exact z_sub [3, 4, 5, 6, 7, 8, 1, 0] rfl (ih114  (b + 1) _ _ (by omega) (by omega) (by rw [lbI, show zGt jn A a b = ww from by unfold zGt; rw [hgs]; rfl, Nat.min_eq_right (by omega)]) rfl)
                                    · skip
                                      refine z_goto (tgt := 210) C dX8_findWay_160 (by decide) ?_
                                      refine z_iinc C hm 7 (v := nI (b + 1)) (lv' := [(7, .int (nI (b + 1))), (0, .ref (zad w 82)), (1, .int (nI go)), (2, .int (nI (ern 0 n jn A hd go))), (3, .int (nI k)), (4, .int (nI (j + 1))), (5, .int (nI a)), (6, .int (nI (lbI (zGt jn A) (lbk (zGt jn A) n go j) a b)))]) dX8_findWay_210 rfl (nI_add b 1) (by decide) rfl ?_
                                      refine z_goto (tgt := 114) C dX8_findWay_213 (by decide) ?_
                                      exact z_sub [1, 2, 3, 4, 5, 6, 7, 0] rfl (ih114  (b + 1) _ _ (by omega) (by omega) (by rw [lbI_e (Or.inr (by omega))]) rfl)
                            exact z_sub [2, 3, 4, 5, 6, 7, 1, 0] rfl (L114 _ 0 _ _ (Nat.lt_succ_self _) (Nat.zero_le _) rfl rfl)
                      exact z_sub [1, 2, 3, 4, 5, 0] rfl (L97 _ 0 RS _ _ (Nat.lt_succ_self _) (Nat.zero_le _) hRj (fun _ h0 => absurd h0 (Nat.not_lt_zero _)) rfl rfl)
                exact z_sub [1, 2, 3, 4, 0] rfl (L88 _ 0 RS _ _ (Nat.lt_succ_self _) (Nat.zero_le _) (fun i h1 x h2 => by
                    rw [show i = 0 by omega, Nat.mul_zero, Nat.zero_add]; exact hRS x (by omega)) rfl rfl)
              · skip
                refine z_aload_n C dX8_findWay_59 rfl 0 rfl ?_
                refine z_getr C ff_X8_84 82 (by decide) sh82 rfl dX8_findWay_60 ?_
                refine z_iload C dX8_findWay_63 4 rfl ?_
                refine z_iload C dX8_findWay_65 4 rfl ?_
                refine z_iload_n C dX8_findWay_67 rfl 1 rfl ?_
                refine z_icmp_ne_n a go (tgt := 75) C rfl rfl (by omega) (by omega) dX8_findWay_68 (by decide) (fun c68 => ?_) (fun c68 => ?_)
                · skip
                  refine z_ldcw C (v := 1000000) kc_X8_274 dX8_findWay_75 ?_
                  refine z_iast C 98 (by decide) sh98 a (by omega) (by decide) rfl dX8_findWay_78 ?_
                  refine z_I (I' := zup (zup I_1 97 R_2) 98 (upd RS a 1000000)) (by rw [zup_s, zup_up]) ?_
                  refine z_iinc C hm 4 (v := nI (a + 1)) (lv' := [(4, .int (nI (a + 1))), (0, .ref (zad w 82)), (1, .int (nI go)), (2, .int (nI (ern 0 n jn A hd go))), (3, .int (nI k))]) dX8_findWay_79 rfl (nI_add a 1) (by decide) rfl ?_
                  refine z_goto (tgt := 50) C dX8_findWay_82 (by decide) ?_
                  exact z_sub [1, 2, 3, 4, 0] rfl (ih50  (a + 1) (upd RS a 1000000) _ _ (by omega) (by omega) (lt_u hRS (by rw [lbk, if_neg c68]; rfl)) rfl rfl)
                · skip
                  refine z_iconst C (v := 0) dX8_findWay_71 (by decide) ?_
                  refine z_goto (tgt := 78) C dX8_findWay_72 (by decide) ?_
                  refine z_iast C 98 (by decide) sh98 a (by omega) (by decide) rfl dX8_findWay_78 ?_
                  refine z_I (I' := zup (zup I_1 97 R_2) 98 (upd RS a 0)) (by rw [zup_s, zup_up]) ?_
                  refine z_iinc C hm 4 (v := nI (a + 1)) (lv' := [(4, .int (nI (a + 1))), (0, .ref (zad w 82)), (1, .int (nI go)), (2, .int (nI (ern 0 n jn A hd go))), (3, .int (nI k))]) dX8_findWay_79 rfl (nI_add a 1) (by decide) rfl ?_
                  refine z_goto (tgt := 50) C dX8_findWay_82 (by decide) ?_
                  exact z_sub [1, 2, 3, 4, 0] rfl (ih50  (a + 1) (upd RS a 0) _ _ (by omega) (by omega) (lt_u hRS (by rw [lbk, if_pos c68]; rfl)) rfl rfl)
          exact z_sub [1, 2, 3, 4, 0] rfl (L50 _ 0 (I_1 98) _ _ (Nat.lt_succ_self _) (Nat.zero_le _) (fun _ h0 => absurd h0 (Nat.not_lt_zero _)) rfl (by funext zk; by_cases h98 : zk = 98 <;> simp [zup, h98]))
        · skip
          refine z_iinc C hm 3 (v := nI (k + 1)) (lv' := [(3, .int (nI (k + 1))), (0, .ref (zad w 82)), (1, .int (nI go)), (2, .int (nI (ern 0 n jn A hd go)))]) dX8_findWay_41 rfl (nI_add k 1) (by decide) rfl ?_
          refine z_goto (tgt := 26) C dX8_findWay_44 (by decide) ?_
          exact z_sub [1, 2, 3, 0] rfl (ih26  (k + 1) _ (by omega) (by
              rcases Nat.lt_or_ge k (aSteps A) with q | q
              · omega
              · obtain ⟨j, h1, h2⟩ := hex
                by_cases z : j = k
                · subst z; exact absurd h2 c38
                · exact absurd h2 (hkn j (by omega))) (lt_s hkn c38) rfl)
    exact z_sub [2, 3, 1, 0] rfl (L26 _ 0 _ (Nat.lt_succ_self _) (Nat.zero_le _) (fun _ h0 => absurd h0 (Nat.not_lt_zero _)) rfl)
  · skip
    refine z_iconst C (v := 0) dX8_findWay_22 (by decide) ?_
    refine z_iret C hr rfl dX8_findWay_23 ?_
    refine ⟨_, rfl, ?_⟩
    exact ⟨rfl, (frM_z (by decide) (frM_l hz_1)), 0, fun _ => 0, Or.inl ⟨by have := hernq; omega, rfl⟩, rfl, fun _ h0 => absurd h0 (Nat.not_lt_zero _)⟩
