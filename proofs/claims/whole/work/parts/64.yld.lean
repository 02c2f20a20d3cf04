/-! constructors: a world -/
abbrev rm_X6_init : Room := { frames := 1, cells := 8, slots := 158, locals := 23 }
abbrev F_X6_init (ct : Nat → ClassId) (h0 h1 : Nat) : (Nat → Nat) → va_W := fun q => (h0, .inr (6, [.ref (q 0), .ref (q 1), .ref h1, .ref (q 2), .ref (q 3), .ref (q 4), .ref (q 5), .ref (q 6), .int 0, .ref (q 7), .int 0])) :: [((q 0), .inl (ct 0, 64, .inl fun _ => 0)), ((q 2), .inl (ct 0, 16, .inl fun _ => 0)), ((q 3), .inl (ct 0, 16, .inl fun _ => 0)), ((q 4), .inl (ct 0, 16, .inl fun _ => 0)), ((q 5), .inl (ct 0, 16, .inl fun _ => 0)), ((q 6), .inl (ct 0, 16, .inl fun _ => 0)), ((q 7), .inl (ct 0, 6, .inl fun _ => 0)), ((q 1), .inl (ct 0, 8, .inl (zfill (-5) (fun _ => 0) 8)))]
set_option maxHeartbeats 2000000 in
set_option maxRecDepth 100000 in
theorem k_X6_init (D : va_G) (ct : Nat → ClassId) (h0 h1 : Nat) : yMet yX6_init cX6_init 2 rm_X6_init D ct [.ref h0, .ref h1] [(h0, .inr (6, [.null, .null, .null, .null, .null, .null, .null, .null, .int 0, .null, .int 0]))] 8 158 (F_X6_init ct h0 h1) := by
  refine yMet_of (by decide) rfl (Nat.le_of_ble_eq_true rfl) (fun X C hm hin hr => ?_)
  refine y_aload_n C dX6_init_0 rfl 0 rfl ?_
  refine y_obj C hm (zin_r4 _ (List.mem_of_getElem? (i := 9) rfl)) (zin_r1 _ (List.mem_of_getElem? (i := 11) rfl)) (zin_r1 _ (List.mem_of_getElem? (i := 12) rfl)) (by decide) (by decide) dX6_init_1 ?_
  refine y_aload_n C dX6_init_4 rfl 0 rfl ?_
  refine y_bipush C (v := 64) dX6_init_5 (by decide) ?_
  refine y_newI C (N := 64) (by decide) (by decide) (cells' := 1) (slots' := 64) rfl rfl (by decide) (by decide) dX6_init_7 (fun q0 => ?_)
  refine y_putF C hin ff_X6_9 (fun q e => by cases e; rfl) (Nat.le_of_ble_eq_true rfl) rfl rfl [.ref q0, .null, .null, .null, .null, .null, .null, .null, .int 0, .null, .int 0] rfl dX6_init_9 ?_
  refine y_aload_n C dX6_init_12 rfl 0 rfl ?_
  refine y_bipush C (v := 8) dX6_init_13 (by decide) ?_
  refine y_newI C (N := 8) (by decide) (by decide) (cells' := 2) (slots' := 72) rfl rfl (by decide) (by decide) dX6_init_15 (fun q1 => ?_)
  refine y_putF C hin ff_X6_15 (fun q e => by cases e; rfl) (Nat.le_of_ble_eq_true rfl) rfl rfl [.ref q0, .ref q1, .null, .null, .null, .null, .null, .null, .int 0, .null, .int 0] rfl dX6_init_17 ?_
  refine y_aload_n C dX6_init_20 rfl 0 rfl ?_
  refine y_bipush C (v := 16) dX6_init_21 (by decide) ?_
  refine y_newI C (N := 16) (by decide) (by decide) (cells' := 3) (slots' := 88) rfl rfl (by decide) (by decide) dX6_init_23 (fun q2 => ?_)
  refine y_putF C hin ff_X6_18 (fun q e => by cases e; rfl) (Nat.le_of_ble_eq_true rfl) rfl rfl [.ref q0, .ref q1, .null, .ref q2, .null, .null, .null, .null, .int 0, .null, .int 0] rfl dX6_init_25 ?_
  refine y_aload_n C dX6_init_28 rfl 0 rfl ?_
  refine y_bipush C (v := 16) dX6_init_29 (by decide) ?_
  refine y_newI C (N := 16) (by decide) (by decide) (cells' := 4) (slots' := 104) rfl rfl (by decide) (by decide) dX6_init_31 (fun q3 => ?_)
  refine y_putF C hin ff_X6_21 (fun q e => by cases e; rfl) (Nat.le_of_ble_eq_true rfl) rfl rfl [.ref q0, .ref q1, .null, .ref q2, .ref q3, .null, .null, .null, .int 0, .null, .int 0] rfl dX6_init_33 ?_
  refine y_aload_n C dX6_init_36 rfl 0 rfl ?_
  refine y_bipush C (v := 16) dX6_init_37 (by decide) ?_
  refine y_newI C (N := 16) (by decide) (by decide) (cells' := 5) (slots' := 120) rfl rfl (by decide) (by decide) dX6_init_39 (fun q4 => ?_)
  refine y_putF C hin ff_X6_24 (fun q e => by cases e; rfl) (Nat.le_of_ble_eq_true rfl) rfl rfl [.ref q0, .ref q1, .null, .ref q2, .ref q3, .ref q4, .null, .null, .int 0, .null, .int 0] rfl dX6_init_41 ?_
  refine y_aload_n C dX6_init_44 rfl 0 rfl ?_
  refine y_bipush C (v := 16) dX6_init_45 (by decide) ?_
  refine y_newI C (N := 16) (by decide) (by decide) (cells' := 6) (slots' := 136) rfl rfl (by decide) (by decide) dX6_init_47 (fun q5 => ?_)
  refine y_putF C hin ff_X6_27 (fun q e => by cases e; rfl) (Nat.le_of_ble_eq_true rfl) rfl rfl [.ref q0, .ref q1, .null, .ref q2, .ref q3, .ref q4, .ref q5, .null, .int 0, .null, .int 0] rfl dX6_init_49 ?_
  refine y_aload_n C dX6_init_52 rfl 0 rfl ?_
  refine y_bipush C (v := 16) dX6_init_53 (by decide) ?_
  refine y_newI C (N := 16) (by decide) (by decide) (cells' := 7) (slots' := 152) rfl rfl (by decide) (by decide) dX6_init_55 (fun q6 => ?_)
  refine y_putF C hin ff_X6_30 (fun q e => by cases e; rfl) (Nat.le_of_ble_eq_true rfl) rfl rfl [.ref q0, .ref q1, .null, .ref q2, .ref q3, .ref q4, .ref q5, .ref q6, .int 0, .null, .int 0] rfl dX6_init_57 ?_
  refine y_aload_n C dX6_init_60 rfl 0 rfl ?_
  refine y_bipush C (v := 6) dX6_init_61 (by decide) ?_
  refine y_newI C (N := 6) (by decide) (by decide) (cells' := 8) (slots' := 158) rfl rfl (by decide) (by decide) dX6_init_63 (fun q7 => ?_)
  refine y_putF C hin ff_X6_33 (fun q e => by cases e; rfl) (Nat.le_of_ble_eq_true rfl) rfl rfl [.ref q0, .ref q1, .null, .ref q2, .ref q3, .ref q4, .ref q5, .ref q6, .int 0, .ref q7, .int 0] rfl dX6_init_65 ?_
  refine y_aload_n C dX6_init_68 rfl 0 rfl ?_
  refine y_aload_n C dX6_init_69 rfl 1 rfl ?_
  refine y_put C ff_X6_36 (Nat.le_of_ble_eq_true rfl) rfl rfl [.ref q0, .ref q1, .ref h1, .ref q2, .ref q3, .ref q4, .ref q5, .ref q6, .int 0, .ref q7, .int 0] rfl dX6_init_70 ?_
  refine y_aload_n C dX6_init_73 rfl 0 rfl ?_
  refine y_get C ff_X6_15 (v := .ref q1) rfl dX6_init_74 ?_
  refine y_bipush C (v := -5) dX6_init_77 (by decide) ?_
  refine y_callS C hm cl_X6_40 (zin_r4 _ (List.mem_of_getElem? (i := 20) rfl)) (As := [.ref q1, .int (-5)]) rfl (rest := []) rfl (wc := [(q1, .inl (ct 0, 8, .inl fun _ => 0))]) (wr := [(h0, .inr (6, [.ref q0, .ref q1, .ref h1, .ref q2, .ref q3, .ref q4, .ref q5, .ref q6, .int 0, .ref q7, .int 0])), (q0, .inl (ct 0, 64, .inl fun _ => 0)), (q2, .inl (ct 0, 16, .inl fun _ => 0)), (q3, .inl (ct 0, 16, .inl fun _ => 0)), (q4, .inl (ct 0, 16, .inl fun _ => 0)), (q5, .inl (ct 0, 16, .inl fun _ => 0)), (q6, .inl (ct 0, 16, .inl fun _ => 0)), (q7, .inl (ct 0, 6, .inl fun _ => 0))]) (k_yfill D ct q1 8 (fun _ => 0) (-5) (by decide)) ⟨rfl, rfl, by decide, by decide⟩ ⟨by decide, by decide⟩ [2] [0, 1, 3, 4, 5, 6, 7, 8] rfl rfl (by decide) (by decide) (by decide) (by decide) dX6_init_79 (fun q => ?_)
  exact y_ret C hr dX6_init_82 (fun i => [q0, q1, q2, q3, q4, q5, q6, q7].getD i 0) rfl
