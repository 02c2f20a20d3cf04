/-! readOne, level by level -/
theorem zEp_0 {c : Nat → Nat} {F : Nat → zR} : zEp c F = zEp0 c (zTp c F) := rfl
theorem zPs_no' {I K : zI} {i u q v : Nat} {r : zR} (hp : I 2 2 = nI q) : zPs I I i u (q, none) 0 := ⟨by show I 2 = upd (I 2) 2 (nI q); rw [← hp, upd_id], fun _ _ _ _ => rfl, rfl⟩
theorem zPs_nar {I I' : zI} {i u : Nat} {r : zR} {v : Int32} (h : zPs I I' i u r v) : narrow .boolean (.int v) = .int v := by
  obtain ⟨_, _, h⟩ := h
  rcases r with ⟨q, _ | ts⟩
  · have e : v = 0 := h
    subst e; decide
  · have e : v = 1 := h.1
    subst e; decide
set_option maxRecDepth 100000 in
set_option maxHeartbeats 4000000 in
theorem k_X5_readOne_0 (w : zW) (i : Nat) (c : Nat → Nat) (L : Nat) (hi7 : i < 7) (hl : L ≤ 100) (hBe : ∀ q, L ≤ q → c q = 300) : zMe w yX5_readOne cX5_readOne 4 { frames := 20, cells := 0, slots := 0, locals := 1000 } i 4 c L (zFp c 0) := by
  intro I J u p hL hp hpl hBy hU hup
  refine zMet_of (by decide) (Nat.le_of_ble_eq_true rfl) (fun X C hm hr => ?_)
  refine z_sub (lv' := [(0, .ref (zad w 2)), (1, .ref (zad w (47 + 5 * i))), (2, .int (nI 4))]) [0, 1, 2] rfl ?_
  refine z_aload_n C dX5_readOne_0 rfl 0 rfl ?_
  refine z_geti C ff_X5_24 2 (by decide) sh2 rfl (v := nI p) hp dX5_readOne_1 ?_
  refine z_aload_n C dX5_readOne_4 rfl 0 rfl ?_
  refine z_geti C ff_X5_15 2 (by decide) sh2 rfl (v := nI L) hL dX5_readOne_5 ?_
  refine z_icmp_ge_n p L (tgt := 23) C rfl rfl (by omega) (by omega) dX5_readOne_8 (by decide) (fun c8 => ?_) (fun c8 => ?_)
  · skip
    have hce := hBe p (by omega)
    refine z_iconst C (v := -1) dX5_readOne_23 (by decide) ?_
    refine z_istore_n C hm (lv' := [(3, .int (-1)), (0, .ref (zad w 2)), (1, .ref (zad w (47 + 5 * i))), (2, .int (nI 4))]) dX5_readOne_24 rfl (by decide) rfl ?_
    refine z_iload_n C dX5_readOne_25 rfl 0 rfl ?_
    refine z_bipush C (v := 33) dX5_readOne_26 (by decide) ?_
    refine z_icmp_eq (tgt := 43) C dX5_readOne_28 (by decide) (fun c28 => ?_) (fun c28 => ?_)
    · skip
      exact absurd c28 (by decide)
    · skip
      refine z_iload_n C dX5_readOne_31 rfl 0 rfl ?_
      refine z_bipush C (v := 40) dX5_readOne_32 (by decide) ?_
      refine z_icmp_eq (tgt := 43) C dX5_readOne_34 (by decide) (fun c34 => ?_) (fun c34 => ?_)
      · skip
        exact absurd c34 (by decide)
      · skip
        refine z_aload_n C dX5_readOne_37 rfl 1 rfl ?_
        refine z_aload_n C dX5_readOne_38 rfl 2 rfl ?_
        refine z_callVi C hm cl_X5_89 cv_X5_readTest 2 (by decide) sh2 ⟨_, _, rfl⟩ [.ref (zad w (47 + 5 * i))] rfl (rest := []) rfl (k_X5_readTest w _ _ i u c L p hi7 hU hup hL hl hp hpl hBy hBe) ⟨rfl, rfl, by decide, by decide⟩ (Nat.le_of_ble_eq_true rfl) dX5_readOne_39 (fun v_1 I_1 J_1 h_1 => ?_)
        obtain ⟨hz_1, ej_1⟩ := h_1
        replace ej_1 := ej_1.symm; subst ej_1
        refine z_iret C hr (zPs_nar hz_1) dX5_readOne_42 ?_
        refine ⟨_, rfl, ?_⟩
        exact ⟨by rw [zFp, if_neg (by omega)]; exact hz_1, rfl⟩
  · skip
    have hpl2 : p < L := by omega
    have hb256 := (hBy p hpl2).2
    refine z_aload_n C dX5_readOne_11 rfl 0 rfl ?_
    refine z_getr C ff_X5_9 2 (by decide) sh2 rfl dX5_readOne_12 ?_
    refine z_aload_n C dX5_readOne_15 rfl 0 rfl ?_
    refine z_geti C ff_X5_24 2 (by decide) sh2 rfl (v := nI p) hp dX5_readOne_16 ?_
    refine z_iald C 3 (by decide) sh3 p (by omega) (by decide) rfl (v := nI (c p)) (hBy p (by omega)).1 dX5_readOne_19 ?_
    refine z_goto (tgt := 24) C dX5_readOne_20 (by decide) ?_
    refine z_istore_n C hm (lv' := [(3, .int (nI (c p))), (0, .ref (zad w 2)), (1, .ref (zad w (47 + 5 * i))), (2, .int (nI 4))]) dX5_readOne_24 rfl (by decide) rfl ?_
    refine z_iload_n C dX5_readOne_25 rfl 0 rfl ?_
    refine z_bipush C (v := 33) dX5_readOne_26 (by decide) ?_
    refine z_icmp_eq_n (c p) 33 (tgt := 43) C rfl rfl (by omega) (by omega) dX5_readOne_28 (by decide) (fun c28 => ?_) (fun c28 => ?_)
    · skip
      refine z_iload_n C dX5_readOne_43 rfl 3 rfl ?_
      refine z_iconst C (v := 4) dX5_readOne_44 (by decide) ?_
      refine z_icmp_lt_n 4 4 (tgt := 50) C rfl rfl (by omega) (by omega) dX5_readOne_45 (by decide) (fun c45 => ?_) (fun c45 => ?_)
      · skip
        exact absurd c45 (by decide)
      · skip
        refine z_iconst C (v := 0) dX5_readOne_48 (by decide) ?_
        refine z_iret C hr (by decide) dX5_readOne_49 ?_
        refine ⟨_, rfl, ?_⟩
        exact ⟨by rw [zFp, if_pos (by omega)]; exact ⟨by show I 2 = upd (I 2) 2 (nI p); rw [← hp, upd_id], fun _ _ _ _ => rfl, rfl⟩, rfl⟩
    · skip
      refine z_iload_n C dX5_readOne_31 rfl 0 rfl ?_
      refine z_bipush C (v := 40) dX5_readOne_32 (by decide) ?_
      refine z_icmp_eq_n (c p) 40 (tgt := 43) C rfl rfl (by omega) (by omega) dX5_readOne_34 (by decide) (fun c34 => ?_) (fun c34 => ?_)
      · skip
        refine z_iload_n C dX5_readOne_43 rfl 3 rfl ?_
        refine z_iconst C (v := 4) dX5_readOne_44 (by decide) ?_
        refine z_icmp_lt_n 4 4 (tgt := 50) C rfl rfl (by omega) (by omega) dX5_readOne_45 (by decide) (fun c45 => ?_) (fun c45 => ?_)
        · skip
          exact absurd c45 (by decide)
        · skip
          refine z_iconst C (v := 0) dX5_readOne_48 (by decide) ?_
          refine z_iret C hr (by decide) dX5_readOne_49 ?_
          refine ⟨_, rfl, ?_⟩
          exact ⟨by rw [zFp, if_pos (by omega)]; exact ⟨by show I 2 = upd (I 2) 2 (nI p); rw [← hp, upd_id], fun _ _ _ _ => rfl, rfl⟩, rfl⟩
      · skip
        refine z_aload_n C dX5_readOne_37 rfl 1 rfl ?_
        refine z_aload_n C dX5_readOne_38 rfl 2 rfl ?_
        refine z_callVi C hm cl_X5_89 cv_X5_readTest 2 (by decide) sh2 ⟨_, _, rfl⟩ [.ref (zad w (47 + 5 * i))] rfl (rest := []) rfl (k_X5_readTest w _ _ i u c L p hi7 hU hup hL hl hp hpl hBy hBe) ⟨rfl, rfl, by decide, by decide⟩ (Nat.le_of_ble_eq_true rfl) dX5_readOne_39 (fun v_2 I_2 J_2 h_2 => ?_)
        obtain ⟨hz_2, ej_2⟩ := h_2
        replace ej_2 := ej_2.symm; subst ej_2
        refine z_iret C hr (zPs_nar hz_2) dX5_readOne_42 ?_
        refine ⟨_, rfl, ?_⟩
        exact ⟨by rw [zFp, if_neg (by omega)]; exact hz_2, rfl⟩
