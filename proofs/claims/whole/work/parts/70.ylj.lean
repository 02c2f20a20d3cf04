/-! the law: both sides are made -/
theorem kNest.warm {s U : State} (hW : s.WarmedH U.vm) (h : kNest s) : kNest U := ⟨va_Nw.warmM hW h.1, va_Nw.warmM hW h.2.1, va_Nw.warmM hW h.2.2.1, va_Nw.warmM hW h.2.2.2.1, va_Nw.warmM hW h.2.2.2.2.1, va_Nw.warmM hW h.2.2.2.2.2⟩
theorem kNest.same {s U : State} (e : s.vm = U.vm) (h : kNest s) : kNest U := ⟨va_Nw.same rfl e h.1, va_Nw.same rfl e h.2.1, va_Nw.same rfl e h.2.2.1, va_Nw.same rfl e h.2.2.2.1, va_Nw.same rfl e h.2.2.2.2.1, va_Nw.same rfl e h.2.2.2.2.2⟩
theorem yPre7_blind {D : va_G} {ct : Nat → ClassId} {As : List Value} {ws : va_W} {sz : Nat} : FrameBlind (va_Pc As (fun U => yPre D ct ws sz U ∧ kNest U)) := fun a U g mk q => by
  obtain ⟨q0, ⟨q1, qP, qK, qD, qO⟩, qN⟩ := q
  exact ⟨q0, ⟨q1, qP, va_K.moved (u := U) (U := U.calling g mk a) (Vm.Alike.refl U.vm) qK, qD, kAO.moved (u := U) (U := U.calling g mk a) (Vm.Alike.refl U.vm) qO⟩, kNest.same (s := U) (U := U.calling g mk a) rfl qN⟩
theorem dfX7 : ∀ j, j < 12 → defaultValue (tyX7 j) = vp_V [.null, .int 0, .null, .null, .int 0, .null, .null, .int 0, .null, .null, .null, .null] j := fun j hj => by
  match j, hj with
  | 0, _ => rfl
  | 1, _ => rfl
  | 2, _ => rfl
  | 3, _ => rfl
  | 4, _ => rfl
  | 5, _ => rfl
  | 6, _ => rfl
  | 7, _ => rfl
  | 8, _ => rfl
  | 9, _ => rfl
  | 10, _ => rfl
  | 11, _ => rfl
  | k + 12, h => exact absurd h (by omega)
theorem dfX8 : ∀ j, j < 58 → defaultValue (tyX8 j) = vp_V [.int 0, .null, .null, .null, .int 0, .int 0, .int 0, .int 0, .int 0, .null, .null, .null, .null, .null, .null, .null, .null, .int 0, .int 0, .int 0, .null, .null, .null, .null, .null, .int 0, .null, .int 0, .null, .null, .null, .null, .null, .null, .long 0, .int 0, .null, .null, .null, .null, .int 0, .int 0, .int 0, .int 0, .null, .null, .null, .null, .null, .null, .null, .null, .int 0, .null, .null, .null, .null, .null] j := fun j hj => by
  match j, hj with
  | 0, _ => rfl
  | 1, _ => rfl
  | 2, _ => rfl
  | 3, _ => rfl
  | 4, _ => rfl
  | 5, _ => rfl
  | 6, _ => rfl
  | 7, _ => rfl
  | 8, _ => rfl
  | 9, _ => rfl
  | 10, _ => rfl
  | 11, _ => rfl
  | 12, _ => rfl
  | 13, _ => rfl
  | 14, _ => rfl
  | 15, _ => rfl
  | 16, _ => rfl
  | 17, _ => rfl
  | 18, _ => rfl
  | 19, _ => rfl
  | 20, _ => rfl
  | 21, _ => rfl
  | 22, _ => rfl
  | 23, _ => rfl
  | 24, _ => rfl
  | 25, _ => rfl
  | 26, _ => rfl
  | 27, _ => rfl
  | 28, _ => rfl
  | 29, _ => rfl
  | 30, _ => rfl
  | 31, _ => rfl
  | 32, _ => rfl
  | 33, _ => rfl
  | 34, _ => rfl
  | 35, _ => rfl
  | 36, _ => rfl
  | 37, _ => rfl
  | 38, _ => rfl
  | 39, _ => rfl
  | 40, _ => rfl
  | 41, _ => rfl
  | 42, _ => rfl
  | 43, _ => rfl
  | 44, _ => rfl
  | 45, _ => rfl
  | 46, _ => rfl
  | 47, _ => rfl
  | 48, _ => rfl
  | 49, _ => rfl
  | 50, _ => rfl
  | 51, _ => rfl
  | 52, _ => rfl
  | 53, _ => rfl
  | 54, _ => rfl
  | 55, _ => rfl
  | 56, _ => rfl
  | 57, _ => rfl
  | k + 58, h => exact absurd h (by omega)
section YROWS
variable {X : zX} {D : va_G} {ct : Nat → ClassId} {cc : ByteArray} {own : String} {rm : Room} {ws : va_W} {cells slots pc : Nat} {lv : List (Nat × Value)} {rest : List Value} {c0 : Nat}
theorem y_callI7 (C : yOk X D ct cc own rm) (hm : zML X c0) {index : Nat} {mc ms : Nat} {rmc : Room} {F : (Nat → Nat) → va_W} (hNe : kNest X.2.2.2.2.1) (hc : zCl own index yX7_init cX7_init 2 none 0) (hv : Cond.instanceMethod yX7_init ∈ zT) {b : Nat} {st : List Value} (hst : st = .ref b :: rest) {wc wr : va_W} (hM : yMet7 rmc D ct b wc mc ms F) (hrm : rmc.cells = mc ∧ rmc.slots = ms ∧ rmc.frames + 1 ≤ rm.frames ∧ 8 + (2 + 11) + rmc.locals ≤ rm.locals) (hcs : cells + mc ≤ rm.cells ∧ slots + ms ≤ rm.slots) (isC isR : List Nat) (hC : isC.map (fun i => ws[i]?) = wc.map some) (hW : isR.map (fun i => ws[i]?) = wr.map some) (hnC : va_nd isC = true) (hnR : va_nd isR = true) (hdis : ∀ i ∈ isR, i ∉ isC) (hcat : (rest.map fun v => v.category).sum ≤ 8) (hd : decode cc pc = .ok (.invokespecial index, 3))
    (kk : ∀ q, Y X D (wr ++ F q) (cells + mc) (slots + ms) (pc + 3) lv rest) : Y X D ws cells slots pc lv st := by
  obtain ⟨p, l, e, R, s, m, args, below, meth, c, z, Q, A⟩ := X
  obtain ⟨hx, hb, hts, hown, hK, hA, hAO, hlk, hR⟩ := C
  obtain ⟨g1, g2, g3, g4⟩ := hc
  intro H locs ls hP hD hS hl
  subst hR
  have hsz : ls.size = c0 := hl.1.trans hm
  have hPc := hP.sub (ws' := wc) isC (fm_of isC wc hC)
  have hDc := hD.sub isC hnC hC
  have hFc := va_free (wc := wc) hD hS hA isC hC
  refine va_callv (va_runI (b := b) (Ts := zT) (As := []) (rest := rest) (n := 0) (nL := c0) ⟨hx, hb, hm, hown, hts⟩ (hM l H.size) ⟨callB_of 0 hts (zT_cons g3) rfl hrm.1 hrm.2.1 (hts _ g2) (hts _ g1) g4 hrm.2.2, rfl, hts _ hv⟩ ⟨yPre7_blind, fun U hU hW => ⟨rfl, ⟨by rw [hU], by rw [hU]; exact hPc, va_K.moved hW.alike hK, hDc.weaken (fun _ _ _ _ => trivial), kAO.moved hW.alike hAO⟩, kNest.warm hW hNe⟩⟩ rfl rfl hsz hst (lv_room hcat) hd hcs) hS (fun q _ h => hFc q h) hFc (fun u t H1 locs1 ht hvm hw hB hz1 hk1 hS1 => ?_)
  obtain ⟨hP1, hD1⟩ := hB
  rw [ht] at hP1
  obtain ⟨hP2, hD2⟩ := va_join (wr := wr) (w1 := F u) hP hD isC isR hC hW hnR hdis hk1 hFc hP1 hD1
  exact kk u H1 locs1 ls hP2 hD2 hS1 hl
end YROWS
set_option maxRecDepth 100000 in
set_option maxHeartbeats 1000000 in
/-- from the law's entry to its loop -/
theorem law_new {X : zX} {D : va_G} {ct : Nat → ClassId} {rm : Room} {b : Nat} (C : yOk X D ct cL_law RL rm) (hm : zML X 4) (hNe : kNest X.2.2.2.2.1) (hrf : 3 ≤ rm.frames) (hrl : 65 ≤ rm.locals) (hrc : 123 ≤ rm.cells) (hrs : 4279 ≤ rm.slots)
    (kk : ∀ h7 q7 h8 q8, Y X D (F_X7_init ct h7 q7 ++ F_X8_init ct h8 q8) 123 4279 16 [(2, .ref h8), (1, .ref h7), (0, .ref b)] []) : Y X D [] 0 0 0 [(0, .ref b)] [] := by
  refine y_new C tyX7 (ci := 7) (T := TX7) rfl inlX7 tyX7_ok (zin_r1 _ (List.mem_of_getElem? (i := 0) rfl)) (zin_r1 _ (List.mem_of_getElem? (i := 1) rfl)) (zin_r1 _ (List.mem_of_getElem? (i := 2) rfl)) dfX7 (cells' := 1) (slots' := 12) rfl rfl (by omega) (by omega) dL_law_0 (fun h7 => ?_)
  refine y_dup C dL_law_3 rfl ?_
  refine y_callI7 C hm hNe cl_L_9 (zin_r1 _ (List.mem_of_getElem? (i := 8) rfl)) rfl (b := h7) (rest := [.ref h7]) (wc := [(h7, .inr (7, [.null, .int 0, .null, .null, .int 0, .null, .null, .int 0, .null, .null, .null, .null]))]) (wr := []) (k_X7_init D ct h7) ⟨rfl, rfl, hrf, hrl⟩ ⟨by omega, by omega⟩ [0] [] rfl rfl rfl rfl (fun _ h => absurd h List.not_mem_nil) (Nat.le_of_ble_eq_true rfl) dL_law_4 (fun q7 => ?_)
  refine y_ws (ws' := F_X7_init ct h7 q7) (List.nil_append _) ?_
  refine y_astore_n C hm (lv' := [(1, .ref h7), (0, .ref b)]) dL_law_7 rfl (by decide) rfl ?_
  refine y_new C tyX8 (ci := 8) (T := TX8) rfl inlX8 tyX8_ok (zin_r1 _ (List.mem_of_getElem? (i := 3) rfl)) (zin_r1 _ (List.mem_of_getElem? (i := 4) rfl)) (zin_r1 _ (List.mem_of_getElem? (i := 5) rfl)) dfX8 (cells' := 83) (slots' := 2087) rfl rfl (by omega) (by omega) dL_law_8 (fun h8 => ?_)
  refine y_dup C dL_law_11 rfl ?_
  refine y_callI C hm cl_L_12 ⟨rfl, (zin_r5 _ (List.mem_of_getElem? (i := 0) rfl))⟩ (As := []) rfl (b := h8) (rest := [.ref h8]) rfl (wc := [(h8, .inr (8, [.int 0, .null, .null, .null, .int 0, .int 0, .int 0, .int 0, .int 0, .null, .null, .null, .null, .null, .null, .null, .null, .int 0, .int 0, .int 0, .null, .null, .null, .null, .null, .int 0, .null, .int 0, .null, .null, .null, .null, .null, .null, .long 0, .int 0, .null, .null, .null, .null, .int 0, .int 0, .int 0, .int 0, .null, .null, .null, .null, .null, .null, .null, .null, .int 0, .null, .null, .null, .null, .null]))]) (wr := F_X7_init ct h7 q7) (k_X8_init D ct h8) ⟨rfl, rfl, Nat.le_trans (Nat.le_of_ble_eq_true rfl) hrf, Nat.le_trans (Nat.le_of_ble_eq_true rfl) hrl⟩ ⟨by omega, by omega⟩ [(F_X7_init ct h7 q7).length] (List.range (F_X7_init ct h7 q7).length) (one_at _ _) (range_at _ _) rfl (nd_range _) not_one (Nat.le_of_ble_eq_true rfl) dL_law_12 (fun q8 => ?_)
  refine y_astore_n C hm (lv' := [(2, .ref h8), (1, .ref h7), (0, .ref b)]) dL_law_15 rfl (by decide) rfl ?_
  exact kk h7 q7 h8 q8
