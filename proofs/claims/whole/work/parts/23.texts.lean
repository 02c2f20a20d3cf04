/-! texts -/
variable {w : zW} {I : zI} {J : zJ} {X : zX} {cc : ByteArray} {own : String} {rm : Room} {pc c0 : Nat} {lv : List (Nat × Value)} {rest : List Value}
def zch (i k : Nat) : Int32 := (zByt.getD i []).getD k 0
theorem zch_ok : ∀ i, i < 7 → ∀ k, k < zLen.getD i 0 → (((zch i k) &&& 255).toUInt32 % 65536).toInt32 = zch i k ∧ narrow .char (.int (zch i k)) = .int (zch i k) := by decide +kernel
theorem zLen_le : ∀ i, i < 7 → zLen.getD i 0 ≤ 5 := by decide
theorem z_ldcS {index i : Nat} (hi : i < 7) (C : zOk X w cc "TuesdayKnew$Text" rm) (hx : zTk.getD i 0 = index) (hd : decode cc pc = .ok (.ldc index, 2)) (kk : Z X w I J (pc + 2) lv (.ref (w.2.2.2.1 i) :: rest)) : Z X w I J pc lv rest := by
  obtain ⟨p, l, e, R, s, m, args, below, meth, c, ⟨cells, slots⟩, Q, A⟩ := X
  obtain ⟨hx2, hb, hts, hown, hK, hG, hA, hj, hlk, hR, hc1, hc2⟩ := C
  intro H locs ls hP hS hl
  subst hx
  exact va_ldcS hx2 hb hown (hG.2.2.2.2.2.2.1 i hi) hd (kk H locs ls hP hS hl)
theorem z_strV {index i : Nat} (C : zOk X w cc own rm) (hi : i < 7) (hlink : Cond.fieldLink own index "java/lang/String" "value" "[B" ∈ zT) (hd : decode cc pc = .ok (.getfield index, 3)) (kk : Z X w I J (pc + 3) lv (.ref (w.2.2.2.2.1 i) :: rest)) : Z X w I J pc lv (.ref (w.2.2.2.1 i) :: rest) := by
  obtain ⟨p, l, e, R, s, m, args, below, meth, c, ⟨cells, slots⟩, Q, A⟩ := X
  obtain ⟨hx2, hb, hts, hown, hK, hG, hA, hj, hlk, hR, hc1, hc2⟩ := C
  intro H locs ls hP hS hl
  exact vk_getf hx2 hb (hG.2.2.2.2.2.1.1 i hi).2.2.1 hS hown (hts _ hlink) (fun _ h => h) hd (kk H locs ls hP hS hl)
theorem z_strC {index i : Nat} (C : zOk X w cc own rm) (hi : i < 7) (hlink : Cond.fieldLink own index "java/lang/String" "coder" "B" ∈ zT) (hd : decode cc pc = .ok (.getfield index, 3)) (kk : Z X w I J (pc + 3) lv (.int 0 :: rest)) : Z X w I J pc lv (.ref (w.2.2.2.1 i) :: rest) := by
  obtain ⟨p, l, e, R, s, m, args, below, meth, c, ⟨cells, slots⟩, Q, A⟩ := X
  obtain ⟨hx2, hb, hts, hown, hK, hG, hA, hj, hlk, hR, hc1, hc2⟩ := C
  intro H locs ls hP hS hl
  exact vk_getf hx2 hb (hG.2.2.2.2.2.1.1 i hi).2.1 hS hown (hts _ hlink) (fun _ h => h) hd (kk H locs ls hP hS hl)
theorem z_strl {i : Nat} (C : zOk X w cc own rm) (hi : i < 7) (hd : decode cc pc = .ok (.arraylength, 1)) (kk : Z X w I J (pc + 1) lv (.int (nI (zLen.getD i 0)) :: rest)) : Z X w I J pc lv (.ref (w.2.2.2.2.1 i) :: rest) := by
  obtain ⟨p, l, e, R, s, m, args, below, meth, c, ⟨cells, slots⟩, Q, A⟩ := X
  obtain ⟨hx2, hb, hts, hown, hK, hG, hA, hj, hlk, hR, hc1, hc2⟩ := C
  intro H locs ls hP hS hl
  exact va_tlen hx2 hb (hG.2.2.2.2.2.1.1 i hi).2.2.2 hS rfl hd (kk H locs ls hP hS hl)
theorem z_strb {i : Nat} (C : zOk X w cc own rm) (hi : i < 7) (k : Nat) (hk : k < zLen.getD i 0) {x : Int32} (hx : x = nI k) (hd : decode cc pc = .ok (.baload, 1)) (kk : Z X w I J (pc + 1) lv (.int (zch i k) :: rest)) : Z X w I J pc lv (.int x :: .ref (w.2.2.2.2.1 i) :: rest) := by
  obtain ⟨p, l, e, R, s, m, args, below, meth, c, ⟨cells, slots⟩, Q, A⟩ := X
  obtain ⟨hx2, hb, hts, hown, hK, hG, hA, hj, hlk, hR, hc1, hc2⟩ := C
  intro H locs ls hP hS hl
  subst hx
  have h5 := zLen_le i hi
  exact va_tb hx2 hb (hG.2.2.2.2.2.1.1 i hi).2.2.2 hS (vp_in_nI hk (by omega)) (by show Value.int ((zByt.getD i []).getD (nI k).toNatClampNeg 0) = _; rw [nI_clamp (by omega)]; rfl) hd (kk H locs ls hP hS hl)
theorem z_strK {index : Nat} (C : zOk X w cc own rm) (hlink : Cond.fieldLink own index "java/lang/String" "COMPACT_STRINGS" "Z" ∈ zT) (hd : decode cc pc = .ok (.getstatic index, 3)) (kk : Z X w I J (pc + 3) lv (.int 1 :: rest)) : Z X w I J pc lv rest := by
  obtain ⟨p, l, e, R, s, m, args, below, meth, c, ⟨cells, slots⟩, Q, A⟩ := X
  obtain ⟨hx, hb, hts, hown, hK, hG, hA, hj, hlk, hR, hc1, hc2⟩ := C
  intro H locs ls hP hS hl
  exact va_gets hx hb hG.2.2.2.2.2.2.2.1 hS hown (hts _ hlink) (fun _ h => h) hd (kk H locs ls hP hS hl)
theorem z_strF {index : Nat} (C : zOk X w cc own rm) (hlink : Cond.fieldLink own index "jdk/internal/util/Preconditions" "SIOOBE_FORMATTER" "Ljava/util/function/BiFunction;" ∈ zT) (hd : decode cc pc = .ok (.getstatic index, 3)) (kn : Z X w I J (pc + 3) lv (.null :: rest)) (kr : ∀ t, Z X w I J (pc + 3) lv (.ref t :: rest)) : Z X w I J pc lv rest := by
  obtain ⟨p, l, e, R, s, m, args, below, meth, c, ⟨cells, slots⟩, Q, A⟩ := X
  obtain ⟨hx, hb, hts, hown, hK, hG, hA, hj, hlk, hR, hc1, hc2⟩ := C
  intro H locs ls hP hS hl
  rcases hG.2.2.2.2.2.2.2.2 with h | ⟨t, h⟩
  · exact va_gets hx hb h hS hown (hts _ hlink) (fun _ h => h) hd (kn H locs ls hP hS hl)
  · exact va_gets hx hb h hS hown (hts _ hlink) (fun _ h => h) hd (kr t H locs ls hP hS hl)
theorem z_callT {index : Nat} {y : MethodName} {bytes : ByteArray} {maxL n : Nat} {ret : Option FieldType} {rmc : Room} {post : Option Value → zI → zJ → Prop} (C : zOk X w cc own rm) (hm : zML X c0) (hc : zCl own index y bytes maxL ret n) (hv : Cond.instanceMethod y ∈ zT ∧ Cond.selects y.cls y y ∈ zT) (i : Nat) (hi : i < 7) (hcl : y.cls = "java/lang/String") (As : List Value) (hn : As.length = n) {st : List Value} (hst : st = As.reverse ++ .ref (w.2.2.2.1 i) :: rest)
    (hM : zMet y bytes maxL ret rmc w (.ref (w.2.2.2.1 i) :: As) I J post) (hrm : rmc.cells = 0 ∧ rmc.slots = 0 ∧ rmc.frames + 1 ≤ rm.frames ∧ 8 + (maxL + 11) + rmc.locals ≤ rm.locals) (hcat : (rest.map fun v => v.category).sum ≤ 8) (hd : decode cc pc = .ok (.invokevirtual index, 3))
    (kk : ∀ r I' J', post r I' J' → Z X w I' J' (pc + 3) lv (r.toList ++ rest)) : Z X w I J pc lv st := by
  obtain ⟨p, l, e, R, s, m, args, below, meth, c, ⟨cells, slots⟩, Q, A⟩ := X
  have C' := C
  obtain ⟨hx, hb, hts, hown, hK, hG, hA, hj, hlk, hR, hc1, hc2⟩ := C
  obtain ⟨g1, g2, g3, g4⟩ := hc
  intro H locs ls hP hS hl
  subst hR
  have hsz : ls.size = c0 := hl.1.trans hm
  refine z_run (va_runV (C := y.cls) (Ts := zT) (As := As) (rest := rest) (n := n) (nL := c0) ⟨hx, hb, hm, hown, hts⟩ (hM l) ⟨callB_of n hts (zT_cons g3) rfl hrm.1 hrm.2.1 (hts _ g2) (hts _ g1) g4 hrm.2.2, hts _ hv.1, hts _ hv.2⟩ ⟨zB_blind, ?_, fun U hU hW => ⟨rfl, zB_start C' hP hS hU hW⟩⟩ rfl hn hsz hst (lv_room hcat) hd ⟨hc1, hc2⟩) hS (fun q ⟨k, hk, e⟩ => e ▸ hA k hk) (fun r I' J' H1 locs1 hp hP1 hS1 => kk r I' J' hp H1 locs1 ls hP1 hS1 hl)
  rw [hcl]
  exact vk_recv hG.2.2.2.2.2.1 hi hS
theorem z_callTi {index : Nat} {y : MethodName} {bytes : ByteArray} {maxL n : Nat} {ret : Option FieldType} {rmc : Room} {f : Int32 → zI → zJ → Prop} (C : zOk X w cc own rm) (hm : zML X c0) (hc : zCl own index y bytes maxL ret n) (hv : Cond.instanceMethod y ∈ zT ∧ Cond.selects y.cls y y ∈ zT) (i : Nat) (hi : i < 7) (hcl : y.cls = "java/lang/String") (As : List Value) (hn : As.length = n) {st : List Value} (hst : st = As.reverse ++ .ref (w.2.2.2.1 i) :: rest)
    (hM : zMet y bytes maxL ret rmc w (.ref (w.2.2.2.1 i) :: As) I J (zpi f)) (hrm : rmc.cells = 0 ∧ rmc.slots = 0 ∧ rmc.frames + 1 ≤ rm.frames ∧ 8 + (maxL + 11) + rmc.locals ≤ rm.locals) (hcat : (rest.map fun v => v.category).sum ≤ 8) (hd : decode cc pc = .ok (.invokevirtual index, 3))
    (kk : ∀ v I' J', f v I' J' → Z X w I' J' (pc + 3) lv (.int v :: rest)) : Z X w I J pc lv st := z_callT C hm hc hv i hi hcl As hn hst hM hrm hcat hd (fun r I' J' ⟨v, e, h⟩ => by subst e; exact kk v I' J' h)
abbrev rm_J0_coder_7d493 : Room := { frames := 4, cells := 0, slots := 0, locals := 200 }
set_option maxRecDepth 100000 in
set_option maxHeartbeats 4000000 in
theorem k_J0_coder_7d493 (w : zW) (I : zI) (J : zJ) (i : Nat)  (hi : i < 7) : zMet yJ0_coder_7d493 cJ0_coder_7d493 1 (some .byte) rm_J0_coder_7d493 w [.ref (w.2.2.2.1 i)] I J (zpi (fun v I' J' => v = 0 ∧ I' = I ∧ J' = J)) := by
  refine zMet_of (by decide) (Nat.le_of_ble_eq_true rfl) (fun X C hm hr => ?_)
  refine z_sub (lv' := [(0, .ref (w.2.2.2.1 i))]) [0] rfl ?_
  refine z_strK C fl_J0_38 dJ0_coder_7d493_0 ?_
  refine z_if_eq (tgt := 13) C dJ0_coder_7d493_3 (by decide) (fun c3 => ?_) (fun c3 => ?_)
  · skip
    exact absurd c3 (by decide)
  · skip
    refine z_aload_n C dJ0_coder_7d493_6 rfl 0 rfl ?_
    refine z_strC C hi fl_J0_15 dJ0_coder_7d493_7 ?_
    refine z_goto (tgt := 14) C dJ0_coder_7d493_10 (by decide) ?_
    refine z_iret C hr (by decide) dJ0_coder_7d493_14 ?_
    refine ⟨_, rfl, ?_⟩
    exact ⟨rfl, rfl, rfl⟩
abbrev rm_J0_isLatin1_aae02 : Room := { frames := 4, cells := 0, slots := 0, locals := 200 }
set_option maxRecDepth 100000 in
set_option maxHeartbeats 4000000 in
theorem k_J0_isLatin1_aae02 (w : zW) (I : zI) (J : zJ) (i : Nat)  (hi : i < 7) : zMet yJ0_isLatin1_aae02 cJ0_isLatin1_aae02 1 (some .boolean) rm_J0_isLatin1_aae02 w [.ref (w.2.2.2.1 i)] I J (zpi (fun v I' J' => v = 1 ∧ I' = I ∧ J' = J)) := by
  refine zMet_of (by decide) (Nat.le_of_ble_eq_true rfl) (fun X C hm hr => ?_)
  refine z_sub (lv' := [(0, .ref (w.2.2.2.1 i))]) [0] rfl ?_
  refine z_strK C fl_J0_38 dJ0_isLatin1_aae02_0 ?_
  refine z_if_eq (tgt := 17) C dJ0_isLatin1_aae02_3 (by decide) (fun c3 => ?_) (fun c3 => ?_)
  · skip
    exact absurd c3 (by decide)
  · skip
    refine z_aload_n C dJ0_isLatin1_aae02_6 rfl 0 rfl ?_
    refine z_strC C hi fl_J0_15 dJ0_isLatin1_aae02_7 ?_
    refine z_if_ne (tgt := 17) C dJ0_isLatin1_aae02_10 (by decide) (fun c10 => ?_) (fun c10 => ?_)
    · skip
      exact absurd rfl c10
    · skip
      refine z_iconst C (v := 1) dJ0_isLatin1_aae02_13 (by decide) ?_
      refine z_goto (tgt := 18) C dJ0_isLatin1_aae02_14 (by decide) ?_
      refine z_iret C hr (by decide) dJ0_isLatin1_aae02_18 ?_
      refine ⟨_, rfl, ?_⟩
      exact ⟨rfl, rfl, rfl⟩
abbrev rm_J0_length_8abf5 : Room := { frames := 5, cells := 0, slots := 0, locals := 220 }
set_option maxRecDepth 100000 in
set_option maxHeartbeats 4000000 in
theorem k_J0_length_8abf5 (w : zW) (I : zI) (J : zJ) (i : Nat)  (hi : i < 7) : zMet yJ0_length_8abf5 cJ0_length_8abf5 1 (some .int) rm_J0_length_8abf5 w [.ref (w.2.2.2.1 i)] I J (zpi (fun v I' J' => v = nI (zLen.getD i 0) ∧ I' = I ∧ J' = J)) := by
  refine zMet_of (by decide) (Nat.le_of_ble_eq_true rfl) (fun X C hm hr => ?_)
  refine z_sub (lv' := [(0, .ref (w.2.2.2.1 i))]) [0] rfl ?_
  have h5 := zLen_le i hi
  refine z_aload_n C dJ0_length_8abf5_0 rfl 0 rfl ?_
  refine z_strV C hi fl_J0_9 dJ0_length_8abf5_1 ?_
  refine z_strl C hi dJ0_length_8abf5_4 ?_
  refine z_aload_n C dJ0_length_8abf5_5 rfl 0 rfl ?_
  refine z_callTi C hm cl_J0_335 cv_J0_coder_7d493 i hi rfl [] rfl (rest := [.int (nI (zLen.getD i 0))]) rfl (k_J0_coder_7d493 w _ _ i  hi) ⟨rfl, rfl, Nat.le_of_ble_eq_true rfl, Nat.le_of_ble_eq_true rfl⟩ (Nat.le_of_ble_eq_true rfl) dJ0_length_8abf5_6 (fun v_1 I_1 J_1 h_1 => ?_)
  obtain ⟨ev_1, ei_1, ej_1⟩ := h_1
  replace ev_1 := ev_1.symm; subst ev_1
  replace ei_1 := ei_1.symm; subst ei_1
  replace ej_1 := ej_1.symm; subst ej_1
  refine z_ishr C dJ0_length_8abf5_9 ?_
  refine z_ti (y := nI (zLen.getD i 0)) (by rw [pk_shrN (by omega) _ 0 (by decide), Nat.pow_zero, Nat.div_one]) ?_
  refine z_iret C hr rfl dJ0_length_8abf5_10 ?_
  refine ⟨_, rfl, ?_⟩
  exact ⟨rfl, rfl, rfl⟩
abbrev rm_J3_checkIndex_n : Room := { frames := 4, cells := 0, slots := 0, locals := 200 }
set_option maxRecDepth 100000 in
set_option maxHeartbeats 4000000 in
theorem k_J3_checkIndex_n (w : zW) (I : zI) (J : zJ)  (k : Nat) (n : Nat) (hk : k < n) (hn : n ≤ 5) : zMet yJ3_checkIndex_8e157 cJ3_checkIndex_8e157 3 (some .int) rm_J3_checkIndex_n w [.int (nI k), .int (nI n), .null] I J (zpi (fun v I' J' => v = nI k ∧ I' = I ∧ J' = J)) := by
  refine zMet_of (by decide) (Nat.le_of_ble_eq_true rfl) (fun X C hm hr => ?_)
  refine z_sub (lv' := [(0, .int (nI k)), (1, .int (nI n)), (2, .null)]) [0, 1, 2] rfl ?_
  refine z_iload_n C dJ3_checkIndex_8e157_0 rfl 0 rfl ?_
  refine z_if_lt (tgt := 9) C dJ3_checkIndex_8e157_1 (by decide) (fun c1 => ?_) (fun c1 => ?_)
  · skip
    exact absurd c1 (nI_pos (by omega))
  · skip
    refine z_iload_n C dJ3_checkIndex_8e157_4 rfl 0 rfl ?_
    refine z_iload_n C dJ3_checkIndex_8e157_5 rfl 1 rfl ?_
    refine z_icmp_lt_n k n (tgt := 16) C rfl rfl (by omega) (by omega) dJ3_checkIndex_8e157_6 (by decide) (fun c6 => ?_) (fun c6 => ?_)
    · skip
      refine z_iload_n C dJ3_checkIndex_8e157_16 rfl 0 rfl ?_
      refine z_iret C hr rfl dJ3_checkIndex_8e157_17 ?_
      refine ⟨_, rfl, ?_⟩
      exact ⟨rfl, rfl, rfl⟩
    · skip
      exact absurd hk (by omega)
abbrev rm_J3_checkIndex_r : Room := { frames := 4, cells := 0, slots := 0, locals := 200 }
set_option maxRecDepth 100000 in
set_option maxHeartbeats 4000000 in
theorem k_J3_checkIndex_r (w : zW) (I : zI) (J : zJ)  (k : Nat) (n : Nat) (ft : Nat) (hk : k < n) (hn : n ≤ 5) : zMet yJ3_checkIndex_8e157 cJ3_checkIndex_8e157 3 (some .int) rm_J3_checkIndex_r w [.int (nI k), .int (nI n), .ref ft] I J (zpi (fun v I' J' => v = nI k ∧ I' = I ∧ J' = J)) := by
  refine zMet_of (by decide) (Nat.le_of_ble_eq_true rfl) (fun X C hm hr => ?_)
  refine z_sub (lv' := [(0, .int (nI k)), (1, .int (nI n)), (2, .ref ft)]) [0, 1, 2] rfl ?_
  refine z_iload_n C dJ3_checkIndex_8e157_0 rfl 0 rfl ?_
  refine z_if_lt (tgt := 9) C dJ3_checkIndex_8e157_1 (by decide) (fun c1 => ?_) (fun c1 => ?_)
  · skip
    exact absurd c1 (nI_pos (by omega))
  · skip
    refine z_iload_n C dJ3_checkIndex_8e157_4 rfl 0 rfl ?_
    refine z_iload_n C dJ3_checkIndex_8e157_5 rfl 1 rfl ?_
    refine z_icmp_lt_n k n (tgt := 16) C rfl rfl (by omega) (by omega) dJ3_checkIndex_8e157_6 (by decide) (fun c6 => ?_) (fun c6 => ?_)
    · skip
      refine z_iload_n C dJ3_checkIndex_8e157_16 rfl 0 rfl ?_
      refine z_iret C hr rfl dJ3_checkIndex_8e157_17 ?_
      refine ⟨_, rfl, ?_⟩
      exact ⟨rfl, rfl, rfl⟩
    · skip
      exact absurd hk (by omega)
abbrev rm_J0_checkIndex_df160 : Room := { frames := 5, cells := 0, slots := 0, locals := 222 }
set_option maxRecDepth 100000 in
set_option maxHeartbeats 4000000 in
theorem k_J0_checkIndex_df160 (w : zW) (I : zI) (J : zJ)  (k : Nat) (n : Nat) (hk : k < n) (hn : n ≤ 5) : zMet yJ0_checkIndex_df160 cJ0_checkIndex_df160 2 none rm_J0_checkIndex_df160 w [.int (nI k), .int (nI n)] I J (zpv (fun I' J' => I' = I ∧ J' = J)) := by
  refine zMet_of (by decide) (Nat.le_of_ble_eq_true rfl) (fun X C hm hr => ?_)
  refine z_sub (lv' := [(0, .int (nI k)), (1, .int (nI n))]) [0, 1] rfl ?_
  refine z_iload_n C dJ0_checkIndex_df160_0 rfl 0 rfl ?_
  refine z_iload_n C dJ0_checkIndex_df160_1 rfl 1 rfl ?_
  refine z_strF C fl_J0_1053 dJ0_checkIndex_df160_2 ?_ (fun ft => ?_)
  · skip
    refine z_callSi C hm cl_J0_1059 cs_J3_checkIndex_8e157 [.int (nI k), .int (nI n), .null] rfl (rest := []) rfl (k_J3_checkIndex_n w _ _ k n  hk hn) ⟨rfl, rfl, Nat.le_of_ble_eq_true rfl, Nat.le_of_ble_eq_true rfl⟩ (Nat.le_of_ble_eq_true rfl) dJ0_checkIndex_df160_5 (fun v_1 I_1 J_1 h_1 => ?_)
    obtain ⟨ev_1, ei_1, ej_1⟩ := h_1
    replace ev_1 := ev_1.symm; subst ev_1
    replace ei_1 := ei_1.symm; subst ei_1
    replace ej_1 := ej_1.symm; subst ej_1
    refine z_pop C dJ0_checkIndex_df160_8 rfl ?_
    refine z_vret C hr dJ0_checkIndex_df160_9 ?_
    refine ⟨rfl, ?_⟩
    exact ⟨rfl, rfl⟩
  · skip
    refine z_callSi C hm cl_J0_1059 cs_J3_checkIndex_8e157 [.int (nI k), .int (nI n), .ref ft] rfl (rest := []) rfl (k_J3_checkIndex_r w _ _ k n ft hk hn) ⟨rfl, rfl, Nat.le_of_ble_eq_true rfl, Nat.le_of_ble_eq_true rfl⟩ (Nat.le_of_ble_eq_true rfl) dJ0_checkIndex_df160_5 (fun v_2 I_2 J_2 h_2 => ?_)
    obtain ⟨ev_2, ei_2, ej_2⟩ := h_2
    replace ev_2 := ev_2.symm; subst ev_2
    replace ei_2 := ei_2.symm; subst ei_2
    replace ej_2 := ej_2.symm; subst ej_2
    refine z_pop C dJ0_checkIndex_df160_8 rfl ?_
    refine z_vret C hr dJ0_checkIndex_df160_9 ?_
    refine ⟨rfl, ?_⟩
    exact ⟨rfl, rfl⟩
abbrev rm_J1_charAt_3b067 : Room := { frames := 6, cells := 0, slots := 0, locals := 243 }
set_option maxRecDepth 100000 in
set_option maxHeartbeats 4000000 in
theorem k_J1_charAt_3b067 (w : zW) (I : zI) (J : zJ) (i : Nat) (k : Nat) (hi : i < 7) (hk : k < zLen.getD i 0) : zMet yJ1_charAt_3b067 cJ1_charAt_3b067 2 (some .char) rm_J1_charAt_3b067 w [.ref (w.2.2.2.2.1 i), .int (nI k)] I J (zpi (fun v I' J' => v = zch i k ∧ I' = I ∧ J' = J)) := by
  refine zMet_of (by decide) (Nat.le_of_ble_eq_true rfl) (fun X C hm hr => ?_)
  refine z_sub (lv' := [(0, .ref (w.2.2.2.2.1 i)), (1, .int (nI k))]) [0, 1] rfl ?_
  have h5 := zLen_le i hi
  refine z_iload_n C dJ1_charAt_3b067_0 rfl 1 rfl ?_
  refine z_aload_n C dJ1_charAt_3b067_1 rfl 0 rfl ?_
  refine z_strl C hi dJ1_charAt_3b067_2 ?_
  refine z_callSv C hm cl_J1_9 cs_J0_checkIndex_df160 [.int (nI k), .int (nI (zLen.getD i 0))] rfl (rest := []) rfl (k_J0_checkIndex_df160 w _ _  k (zLen.getD i 0) hk h5) ⟨rfl, rfl, Nat.le_of_ble_eq_true rfl, Nat.le_of_ble_eq_true rfl⟩ (Nat.le_of_ble_eq_true rfl) dJ1_charAt_3b067_3 (fun I_1 J_1 h_1 => ?_)
  obtain ⟨ei_1, ej_1⟩ := h_1
  replace ei_1 := ei_1.symm; subst ei_1
  replace ej_1 := ej_1.symm; subst ej_1
  refine z_aload_n C dJ1_charAt_3b067_6 rfl 0 rfl ?_
  refine z_iload_n C dJ1_charAt_3b067_7 rfl 1 rfl ?_
  refine z_strb C hi k hk rfl dJ1_charAt_3b067_8 ?_
  refine z_sipush C (v := 255) dJ1_charAt_3b067_9 (by decide) ?_
  refine z_iand C dJ1_charAt_3b067_12 ?_
  refine z_i2c C (v := (((zch i k) &&& 255).toUInt32 % 65536).toInt32) dJ1_charAt_3b067_13 rfl ?_
  refine z_ti (y := zch i k) (zch_ok i hi k hk).1 ?_
  refine z_iret C hr (zch_ok i hi k hk).2 dJ1_charAt_3b067_14 ?_
  refine ⟨_, rfl, ?_⟩
  exact ⟨rfl, rfl, rfl⟩
abbrev rm_J0_charAt_5068e : Room := { frames := 7, cells := 0, slots := 0, locals := 264 }
set_option maxRecDepth 100000 in
set_option maxHeartbeats 4000000 in
theorem k_J0_charAt_5068e (w : zW) (I : zI) (J : zJ) (i : Nat) (k : Nat) (hi : i < 7) (hk : k < zLen.getD i 0) : zMet yJ0_charAt_5068e cJ0_charAt_5068e 2 (some .char) rm_J0_charAt_5068e w [.ref (w.2.2.2.1 i), .int (nI k)] I J (zpi (fun v I' J' => v = zch i k ∧ I' = I ∧ J' = J)) := by
  refine zMet_of (by decide) (Nat.le_of_ble_eq_true rfl) (fun X C hm hr => ?_)
  refine z_sub (lv' := [(0, .ref (w.2.2.2.1 i)), (1, .int (nI k))]) [0, 1] rfl ?_
  refine z_aload_n C dJ0_charAt_5068e_0 rfl 0 rfl ?_
  refine z_callTi C hm cl_J0_492 cv_J0_isLatin1_aae02 i hi rfl [] rfl (rest := []) rfl (k_J0_isLatin1_aae02 w _ _ i  hi) ⟨rfl, rfl, Nat.le_of_ble_eq_true rfl, Nat.le_of_ble_eq_true rfl⟩ (Nat.le_of_ble_eq_true rfl) dJ0_charAt_5068e_1 (fun v_1 I_1 J_1 h_1 => ?_)
  obtain ⟨ev_1, ei_1, ej_1⟩ := h_1
  replace ev_1 := ev_1.symm; subst ev_1
  replace ei_1 := ei_1.symm; subst ei_1
  replace ej_1 := ej_1.symm; subst ej_1
  refine z_if_eq (tgt := 16) C dJ0_charAt_5068e_4 (by decide) (fun c4 => ?_) (fun c4 => ?_)
  · skip
    exact absurd c4 (by decide)
  · skip
    refine z_aload_n C dJ0_charAt_5068e_7 rfl 0 rfl ?_
    refine z_strV C hi fl_J0_9 dJ0_charAt_5068e_8 ?_
    refine z_iload_n C dJ0_charAt_5068e_11 rfl 1 rfl ?_
    refine z_callSi C hm cl_J0_495 cs_J1_charAt_3b067 [.ref (w.2.2.2.2.1 i), .int (nI k)] rfl (rest := []) rfl (k_J1_charAt_3b067 w _ _ i k hi hk) ⟨rfl, rfl, Nat.le_of_ble_eq_true rfl, Nat.le_of_ble_eq_true rfl⟩ (Nat.le_of_ble_eq_true rfl) dJ0_charAt_5068e_12 (fun v_2 I_2 J_2 h_2 => ?_)
    obtain ⟨ev_2, ei_2, ej_2⟩ := h_2
    replace ev_2 := ev_2.symm; subst ev_2
    replace ei_2 := ei_2.symm; subst ei_2
    replace ej_2 := ej_2.symm; subst ej_2
    refine z_iret C hr (zch_ok i hi k hk).2 dJ0_charAt_5068e_15 ?_
    refine ⟨_, rfl, ?_⟩
    exact ⟨rfl, rfl, rfl⟩
