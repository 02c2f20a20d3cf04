/-! the law's cases: tapes -/
theorem tape_set {I I1 I2 : zI} {J J1 J2 : zJ} {t L : Nat} {sr z : Int32} (H : zRel I J) (ht : t < 6) (hL : L ≤ 60) (hz : z = nI L) (hs : sr = -1 ∨ zin sr 5) (h0 : sr = -1 → L = 0) (a1 : I1 = zup I (35 + 2 * t) (upd (upd (I (35 + 2 * t)) 0 sr) 1 z)) (a2 : J1 = zupJ J (35 + 2 * t + 1) (zfill 0 (J (35 + 2 * t + 1)) 60)) (b1 : I2 = zup (zup I1 119 (upd (I1 119) t sr)) 120 (upd (I1 120) t z)) (b2 : J2 = zupJ J1 121 (zfp (J1 121) t 60)) : zRel I2 J2 := by
  have c1 : I1 119 = I 119 := by rw [a1, zup_n (by omega)]
  have c2 : I1 120 = I 120 := by rw [a1, zup_n (by omega)]
  have c3 : J1 121 = J 121 := by rw [a2, zupJ_n (by omega)]
  refine zRel_tk H (fun k q1 q2 q3 => by rw [b1, zup_n q3, zup_n q2, a1, zup_n (by omega)]) (rTapes_set (zRel_t H) ht hL hz hs h0 (fun s q1 q2 => by rw [b1, zup_n (by omega), zup_n (by omega), a1, zup_n (by omega)]) ?_ ?_ ?_ ?_ (fun s q1 q2 => by rw [b2, zupJ_n (by omega), a2, zupJ_n (by omega)]) (fun i hi => ?_) ?_)
  · rw [b1, zup_n (by omega), zup_n (by omega), a1, zup_s, upd_n (by decide), upd_s]
  · rw [b1, zup_n (by omega), zup_n (by omega), a1, zup_s, upd_s]
  · rw [b1, zup_n (by decide), zup_s, c1]
  · rw [b1, zup_s, c2]
  · rw [b2, zupJ_n (by omega), a2, zupJ_s]
    exact if_pos hi
  · rw [b2, zupJ_s, c3]
theorem item_set {I : zI} {J J1 J2 : zJ} {t i : Nat} {c : Int64} (H : zRel I J) (ht : t < 6) (hi : i < 60) (a2 : J1 = zupJ J (35 + 2 * t + 1) (vp_updL (J (35 + 2 * t + 1)) i c)) (b2 : J2 = zupJ J1 121 (vp_updL (J1 121) (60 * t + i) c)) : zRel I J2 := by
  obtain ⟨ln, hTp, hTs, hIt⟩ := rTapes_p (zRel_t H)
  have c3 : J1 121 = J 121 := by rw [a2, zupJ_n (by omega)]
  refine zRel_tk H (fun _ _ _ _ => rfl) (rTapes_J (o := t) (new := vp_updL (J (35 + 2 * t + 1)) i c) (zRel_t H) (fun s q1 q2 => by rw [b2, zupJ_n (by omega), a2, zupJ_n (by omega)]) (fun j hj => by rw [b2, zupJ_n (by omega), a2, zupJ_s]) (fun j hj => ?_) (fun s j q1 q2 hj => ?_))
  · rw [b2, zupJ_s, c3]
    by_cases e : j = i
    · rw [e]
      exact (if_pos rfl).trans (if_pos rfl).symm
    · exact (if_neg (by omega)).trans ((hIt t j ht hj).trans (if_neg e).symm)
  · rw [b2, zupJ_s, c3]
    exact if_neg (by omega)
theorem shift_set {I : zI} {J J1 J2 : zJ} {t o k k2 m : Nat} {R : Nat → Int64} (H : zRel I J) (ht : t < 6) (ho : o < 6) (hk : k + m ≤ 60) (hk2 : k2 + m ≤ 60) (a2 : J1 = zupJ J (35 + 2 * o + 1) (va_cpy (J (35 + 2 * t + 1)) (J (35 + 2 * o + 1)) k k2 m)) (b2 : J2 = zupJ (zupJ J1 122 R) 121 (va_cpy (J1 121) (J1 121) (60 * t + k) (60 * o + k2) m)) : zRel I J2 := by
  obtain ⟨ln, hTp, hTs, hIt⟩ := rTapes_p (zRel_t H)
  have c3 : J1 121 = J 121 := by rw [a2, zupJ_n (by omega)]
  refine zRel_tk H (fun _ _ _ _ => rfl) (rTapes_J (o := o) (new := va_cpy (J (35 + 2 * t + 1)) (J (35 + 2 * o + 1)) k k2 m) (zRel_t H) (fun s q1 q2 => by rw [b2, zupJ_n (by omega), zupJ_n (by omega), a2, zupJ_n (by omega)]) (fun j hj => by rw [b2, zupJ_n (by omega), zupJ_n (by omega), a2, zupJ_s]) (fun j hj => ?_) (fun s j q1 q2 hj => ?_))
  · rw [b2, zupJ_s, c3]
    unfold va_cpy
    by_cases e : k2 ≤ j ∧ j < k2 + m
    · rw [if_pos e, if_pos ⟨by omega, by omega⟩, ← hIt t (k + (j - k2)) ht (by omega)]
      exact congrArg (J 121) (by omega)
    · rw [if_neg e, if_neg (by omega), hIt o j ho hj]
  · rw [b2, zupJ_s, c3]
    exact if_neg (by omega)
set_option maxRecDepth 100000 in
set_option maxHeartbeats 1000000 in
theorem lc_judge {X : zX} {w : zW} {I : zI} {J : zJ} {b L i : Nat} {xs : Nat → Int32} (C : zOk X w cL_law RL room_1) (hm : zML X 4) (hs : zScr X b L xs) (hL : L ≤ 3072) (hi : i + 5 < L) (H : zRel I J) (kk : ∀ (K : zI) (M : zJ), zRel K M → Z X w K M 1298 [(3, .int (nI i)), (2, .ref (zad w 82)), (1, .ref (zad w 0)), (0, .ref b)] []) : Z X w I J 894 [(3, .int (nI i)), (2, .ref (zad w 82)), (1, .ref (zad w 0)), (0, .ref b)] [] := by
  obtain ⟨n, tr, h, bk, A, hd, kd, bu, fr, ho, lo, P⟩ := zRel_p H
  obtain ⟨hn, htr, hh, hbk, hN, hT, hH, hK, hL7, hd7, hd99, hKd, hB, hF, hO, hLo, hS, hDg, hKd8, hK8, hBl⟩ := id P
  obtain ⟨ln, hTp, hTs, hIt⟩ := rTapes_p (zRel_t H)
  have hl : ∀ t, t < 6 → ln t ≤ 60 := fun t ht => (hTp t ht).2
  refine z_aload_n C dL_law_894 rfl 2 rfl ?_
  refine z_arg C hs (by omega) 3 0 rfl rfl 1 (by omega) (by decide) dL_law_895 dL_law_896 dL_law_897 dL_law_898 dL_law_899 ?_
  refine z_arg C hs (by omega) 3 0 rfl rfl 2 (by omega) (by decide) dL_law_900 dL_law_901 dL_law_902 dL_law_903 dL_law_904 ?_
  refine z_arg C hs (by omega) 3 0 rfl rfl 3 (by omega) (by decide) dL_law_905 dL_law_906 dL_law_907 dL_law_908 dL_law_909 ?_
  refine z_callVi C hm cl_L_111 cv_X7_judge 0 (by decide) sh0 ⟨_, _, rfl⟩ [.int (xs (i + 1)), .int (xs (i + 2)), .int (xs (i + 3))] rfl (rest := []) rfl (k_X7_judge w _ _ n h A hd ln (xs (i + 1)) (xs (i + 2)) (xs (i + 3)) hN hn hh hH hL7 hd7 hd99 hTp) ⟨rfl, rfl, Nat.le_of_ble_eq_true rfl, Nat.le_of_ble_eq_true rfl⟩ (Nat.le_of_ble_eq_true rfl) dL_law_910 (fun v1 I1 J1 h1 => ?_)
  obtain ⟨e1, e2, e3⟩ := id h1
  replace e2 := e2.symm; subst e2
  replace e3 := e3.symm; subst e3
  refine z_aload_n C dL_law_913 rfl 1 rfl ?_
  refine z_arg C hs (by omega) 3 0 rfl rfl 1 (by omega) (by decide) dL_law_914 dL_law_915 dL_law_916 dL_law_917 dL_law_918 ?_
  refine z_arg C hs (by omega) 3 0 rfl rfl 2 (by omega) (by decide) dL_law_919 dL_law_920 dL_law_921 dL_law_922 dL_law_923 ?_
  refine z_arg C hs (by omega) 3 0 rfl rfl 3 (by omega) (by decide) dL_law_924 dL_law_925 dL_law_926 dL_law_927 dL_law_928 ?_
  refine z_callVi C hm cl_L_114 cv_X8_judge 82 (by decide) sh82 ⟨_, _, rfl⟩ [.int (xs (i + 1)), .int (xs (i + 2)), .int (xs (i + 3))] rfl (rest := [.int v1]) rfl (k_X8_judge w _ _ n tr h A (I 6) (I 1) hd bu ho lo fr (fun t => I (35 + 2 * t) 0) ln (fun t i => J (35 + 2 * t + 1) i) (xs (i + 1)) (xs (i + 2)) (xs (i + 3)) hn htr hh hd99 hS hDg hTs hIt) ⟨rfl, rfl, Nat.le_of_ble_eq_true rfl, Nat.le_of_ble_eq_true rfl⟩ (Nat.le_of_ble_eq_true rfl) dL_law_929 (fun v2 I2 J2 h2 => ?_)
  obtain ⟨w1, w2, w3⟩ := id h2
  have hR : zRel I2 J2 := zRel_sc H (scI_M w2) (scJ_e w3)
  have hv : v1 = v2 := judV_u hn hl (show judV n (fun t => I (35 + 2 * t) 0) ln (fun t i b => zJd n (aSteps A) hd (aGo (I 6) A) (fun p => (J (35 + 2 * t + 1) (i + p)).toInt32) b (ln t - i) 0 0 0) (xs (i + 1)) (xs (i + 2)) (xs (i + 3)) v1 from e1) (show judV n (fun t => I (35 + 2 * t) 0) ln (fun t i b => zJd n (aSteps A) hd (aGo (I 6) A) (fun p => (J (35 + 2 * t + 1) (i + p)).toInt32) b (ln t - i) 0 0 0) (xs (i + 1)) (xs (i + 2)) (xs (i + 3)) v2 from w1)
  refine z_icmp_eq (tgt := 1298) C dL_law_932 (by decide) (fun _ => kk _ _ hR) (fun c => absurd hv c)
set_option maxRecDepth 100000 in
set_option maxHeartbeats 1000000 in
theorem lc_read {X : zX} {w : zW} {I : zI} {J : zJ} {b L i : Nat} {xs : Nat → Int32} (C : zOk X w cL_law RL room_1) (hm : zML X 4) (hs : zScr X b L xs) (hL : L ≤ 3072) (hi : i + 5 < L) (H : zRel I J) (kk : ∀ (K : zI) (M : zJ), zRel K M → Z X w K M 1298 [(3, .int (nI i)), (2, .ref (zad w 82)), (1, .ref (zad w 0)), (0, .ref b)] []) : Z X w I J 1201 [(3, .int (nI i)), (2, .ref (zad w 82)), (1, .ref (zad w 0)), (0, .ref b)] [] := by
  obtain ⟨ln, hTp, hTs, hIt⟩ := rTapes_p (zRel_t H)
  have hl : ∀ t, t < 6 → ln t ≤ 60 := fun t ht => (hTp t ht).2
  refine z_aload_n C dL_law_1201 rfl 2 rfl ?_
  refine z_arg C hs (by omega) 3 0 rfl rfl 1 (by omega) (by decide) dL_law_1202 dL_law_1203 dL_law_1204 dL_law_1205 dL_law_1206 ?_
  refine z_arg C hs (by omega) 3 0 rfl rfl 2 (by omega) (by decide) dL_law_1207 dL_law_1208 dL_law_1209 dL_law_1210 dL_law_1211 ?_
  refine z_callVl C hm cl_L_150 cv_X7_read 0 (by decide) sh0 ⟨_, _, rfl⟩ [.int (xs (i + 1)), .int (xs (i + 2))] rfl (rest := []) rfl (k_X7_read w _ _ ln (xs (i + 1)) (xs (i + 2)) hTp) ⟨rfl, rfl, Nat.le_of_ble_eq_true rfl, Nat.le_of_ble_eq_true rfl⟩ (Nat.le_of_ble_eq_true rfl) dL_law_1212 (fun v1 I1 J1 h1 => ?_)
  obtain ⟨e1, e2, e3⟩ := id h1
  replace e2 := e2.symm; subst e2
  replace e3 := e3.symm; subst e3
  refine z_aload_n C dL_law_1215 rfl 1 rfl ?_
  refine z_arg C hs (by omega) 3 0 rfl rfl 1 (by omega) (by decide) dL_law_1216 dL_law_1217 dL_law_1218 dL_law_1219 dL_law_1220 ?_
  refine z_arg C hs (by omega) 3 0 rfl rfl 2 (by omega) (by decide) dL_law_1221 dL_law_1222 dL_law_1223 dL_law_1224 dL_law_1225 ?_
  refine z_callVl C hm cl_L_154 cv_X8_read 82 (by decide) sh82 ⟨_, _, rfl⟩ [.int (xs (i + 1)), .int (xs (i + 2))] rfl (rest := [.long v1]) rfl (k_X8_read w _ _ (fun t => I (35 + 2 * t) 0) ln (fun t i => J (35 + 2 * t + 1) i) (xs (i + 1)) (xs (i + 2)) hTs hIt) ⟨rfl, rfl, Nat.le_of_ble_eq_true rfl, Nat.le_of_ble_eq_true rfl⟩ (Nat.le_of_ble_eq_true rfl) dL_law_1226 (fun v2 I2 J2 h2 => ?_)
  obtain ⟨w1, w2, w3⟩ := id h2
  have hR : zRel I2 J2 := by rw [w2, w3]; exact H
  have hv : v1 = v2 := reaV_u hl (show reaV ln (fun t i => J (35 + 2 * t + 1) i) (xs (i + 1)) (xs (i + 2)) v1 from e1) (show reaV ln (fun t i => J (35 + 2 * t + 1) i) (xs (i + 1)) (xs (i + 2)) v2 from w1)
  refine z_lcmp C dL_law_1229 ?_
  refine z_if_eq (tgt := 1298) C dL_law_1230 (by decide) (fun _ => kk _ _ hR) (fun c => absurd (lcmp_0 hv) c)
set_option maxRecDepth 100000 in
set_option maxHeartbeats 1000000 in
theorem lc_tape {X : zX} {w : zW} {I : zI} {J : zJ} {b L i : Nat} {xs : Nat → Int32} (C : zOk X w cL_law RL room_1) (hm : zML X 4) (hs : zScr X b L xs) (hL : L ≤ 3072) (hi : i + 5 < L) (H : zRel I J) (kk : ∀ (K : zI) (M : zJ), zRel K M → Z X w K M 1298 [(3, .int (nI i)), (2, .ref (zad w 82)), (1, .ref (zad w 0)), (0, .ref b)] []) : Z X w I J 1085 [(3, .int (nI i)), (2, .ref (zad w 82)), (1, .ref (zad w 0)), (0, .ref b)] [] := by
  skip
  refine z_aload_n C dL_law_1085 rfl 2 rfl ?_
  refine z_arg C hs (by omega) 3 0 rfl rfl 1 (by omega) (by decide) dL_law_1086 dL_law_1087 dL_law_1088 dL_law_1089 dL_law_1090 ?_
  refine z_arg C hs (by omega) 3 0 rfl rfl 2 (by omega) (by decide) dL_law_1091 dL_law_1092 dL_law_1093 dL_law_1094 dL_law_1095 ?_
  refine z_arg C hs (by omega) 3 0 rfl rfl 3 (by omega) (by decide) dL_law_1096 dL_law_1097 dL_law_1098 dL_law_1099 dL_law_1100 ?_
  refine z_callVi C hm cl_L_139 cv_X7_tape 0 (by decide) sh0 ⟨_, _, rfl⟩ [.int (xs (i + 1)), .int (xs (i + 2)), .int (xs (i + 3))] rfl (rest := []) rfl (k_X7_tape w _ _ (xs (i + 1)) (xs (i + 2)) (xs (i + 3))) ⟨rfl, rfl, Nat.le_of_ble_eq_true rfl, Nat.le_of_ble_eq_true rfl⟩ (Nat.le_of_ble_eq_true rfl) dL_law_1101 (fun v1 I1 J1 h1 => ?_)
  skip
  refine z_aload_n C dL_law_1104 rfl 1 rfl ?_
  refine z_arg C hs (by omega) 3 0 rfl rfl 1 (by omega) (by decide) dL_law_1105 dL_law_1106 dL_law_1107 dL_law_1108 dL_law_1109 ?_
  refine z_arg C hs (by omega) 3 0 rfl rfl 2 (by omega) (by decide) dL_law_1110 dL_law_1111 dL_law_1112 dL_law_1113 dL_law_1114 ?_
  refine z_arg C hs (by omega) 3 0 rfl rfl 3 (by omega) (by decide) dL_law_1115 dL_law_1116 dL_law_1117 dL_law_1118 dL_law_1119 ?_
  refine z_callVi C hm cl_L_142 cv_X8_tape 82 (by decide) sh82 ⟨_, _, rfl⟩ [.int (xs (i + 1)), .int (xs (i + 2)), .int (xs (i + 3))] rfl (rest := [.int v1]) rfl (k_X8_tape w _ _ (xs (i + 1)) (xs (i + 2)) (xs (i + 3))) ⟨rfl, rfl, Nat.le_of_ble_eq_true rfl, Nat.le_of_ble_eq_true rfl⟩ (Nat.le_of_ble_eq_true rfl) dL_law_1120 (fun v2 I2 J2 h2 => ?_)
  obtain ⟨hv, hq⟩ := tapV_u (S0 := I1 = I ∧ J1 = J) (S1 := (fun t => I1 = zup I (35 + 2 * t) (upd (upd (I (35 + 2 * t)) 0 (-1)) 1 0) ∧ J1 = zupJ J (35 + 2 * t + 1) (zfill 0 (J (35 + 2 * t + 1)) 60))) (S2 := (fun t => I1 = zup I (35 + 2 * t) (upd (upd (I (35 + 2 * t)) 0 (xs (i + 2))) 1 (xs (i + 3))) ∧ J1 = zupJ J (35 + 2 * t + 1) (zfill 0 (J (35 + 2 * t + 1)) 60))) (T0 := I2 = I1 ∧ J2 = J1) (T1 := (fun t => I2 = zup (zup I1 119 (upd (I1 119) t (-1))) 120 (upd (I1 120) t 0) ∧ J2 = zupJ J1 121 (zfp (J1 121) t 60))) (T2 := (fun t => I2 = zup (zup I1 119 (upd (I1 119) t (xs (i + 2)))) 120 (upd (I1 120) t (xs (i + 3))) ∧ J2 = zupJ J1 121 (zfp (J1 121) t 60))) h1 h2
  have hR : zRel I2 J2 := by
    rcases hq with ⟨⟨a1, a2⟩, b1, b2⟩ | ⟨t, ht, q, ⟨a1, a2⟩, b1, b2⟩ | ⟨t, ht, q, ⟨k, hk, hz⟩, ⟨a1, a2⟩, b1, b2⟩
    · rw [b1, b2, a1, a2]; exact H
    · exact tape_set (L := 0) H ht (by decide) rfl (Or.inl rfl) (fun _ => rfl) a1 a2 b1 b2
    · exact tape_set H ht hk hz (Or.inr q) (fun c => absurd q (zin_neg (by rw [c]; decide) (by decide))) a1 a2 b1 b2
  refine z_icmp_eq (tgt := 1298) C dL_law_1123 (by decide) (fun _ => kk _ _ hR) (fun c => absurd hv c)
set_option maxRecDepth 100000 in
set_option maxHeartbeats 1000000 in
theorem lc_item {X : zX} {w : zW} {I : zI} {J : zJ} {b L i : Nat} {xs : Nat → Int32} (C : zOk X w cL_law RL room_1) (hm : zML X 4) (hs : zScr X b L xs) (hL : L ≤ 3072) (hi : i + 5 < L) (H : zRel I J) (kk : ∀ (K : zI) (M : zJ), zRel K M → Z X w K M 1298 [(3, .int (nI i)), (2, .ref (zad w 82)), (1, .ref (zad w 0)), (0, .ref b)] []) : Z X w I J 1128 [(3, .int (nI i)), (2, .ref (zad w 82)), (1, .ref (zad w 0)), (0, .ref b)] [] := by
  obtain ⟨ln, hTp, hTs, hIt⟩ := rTapes_p (zRel_t H)
  have hl : ∀ t, t < 6 → ln t ≤ 60 := fun t ht => (hTp t ht).2
  refine z_aload_n C dL_law_1128 rfl 2 rfl ?_
  refine z_arg C hs (by omega) 3 0 rfl rfl 1 (by omega) (by decide) dL_law_1129 dL_law_1130 dL_law_1131 dL_law_1132 dL_law_1133 ?_
  refine z_arg C hs (by omega) 3 0 rfl rfl 2 (by omega) (by decide) dL_law_1134 dL_law_1135 dL_law_1136 dL_law_1137 dL_law_1138 ?_
  refine z_arg C hs (by omega) 3 0 rfl rfl 3 (by omega) (by decide) dL_law_1139 dL_law_1140 dL_law_1141 dL_law_1142 dL_law_1143 ?_
  refine z_i2l C dL_law_1144 rfl ?_
  refine z_bipush C (v := 32) dL_law_1145 (by decide) ?_
  refine z_lshl C dL_law_1147 rfl ?_
  refine z_arg C hs (by omega) 3 0 rfl rfl 4 (by omega) (by decide) dL_law_1148 dL_law_1149 dL_law_1150 dL_law_1151 dL_law_1152 ?_
  refine z_i2l C dL_law_1153 rfl ?_
  refine z_ldc2 C (v := 4294967295) kl_L_143 dL_law_1154 ?_
  refine z_land C dL_law_1157 ?_
  refine z_lor C dL_law_1158 ?_
  refine z_callVi C hm cl_L_145 cv_X7_item 0 (by decide) sh0 ⟨_, _, rfl⟩ [.int (xs (i + 1)), .int (xs (i + 2)), .long (((Int32.toInt64 (xs (i + 3))) <<< (Int32.toInt64 32 &&& 63)) ||| ((Int32.toInt64 (xs (i + 4))) &&& 4294967295))] rfl (rest := []) rfl (k_X7_item w _ _ ln (xs (i + 1)) (xs (i + 2)) (((Int32.toInt64 (xs (i + 3))) <<< (Int32.toInt64 32 &&& 63)) ||| ((Int32.toInt64 (xs (i + 4))) &&& 4294967295)) hTp) ⟨rfl, rfl, Nat.le_of_ble_eq_true rfl, Nat.le_of_ble_eq_true rfl⟩ (Nat.le_of_ble_eq_true rfl) dL_law_1159 (fun v1 I1 J1 h1 => ?_)
  have e2 : I1 = I := by
    rcases h1 with ⟨_, _, z, _⟩ | ⟨t, _, _, ⟨_, _, z, _⟩ | ⟨_, ⟨_, _, z, _⟩ | ⟨_, _, _, _, z, _⟩⟩⟩
    all_goals exact z
  replace e2 := e2.symm; subst e2
  refine z_aload_n C dL_law_1162 rfl 1 rfl ?_
  refine z_arg C hs (by omega) 3 0 rfl rfl 1 (by omega) (by decide) dL_law_1163 dL_law_1164 dL_law_1165 dL_law_1166 dL_law_1167 ?_
  refine z_arg C hs (by omega) 3 0 rfl rfl 2 (by omega) (by decide) dL_law_1168 dL_law_1169 dL_law_1170 dL_law_1171 dL_law_1172 ?_
  refine z_arg C hs (by omega) 3 0 rfl rfl 3 (by omega) (by decide) dL_law_1173 dL_law_1174 dL_law_1175 dL_law_1176 dL_law_1177 ?_
  refine z_i2l C dL_law_1178 rfl ?_
  refine z_bipush C (v := 32) dL_law_1179 (by decide) ?_
  refine z_lshl C dL_law_1181 rfl ?_
  refine z_arg C hs (by omega) 3 0 rfl rfl 4 (by omega) (by decide) dL_law_1182 dL_law_1183 dL_law_1184 dL_law_1185 dL_law_1186 ?_
  refine z_i2l C dL_law_1187 rfl ?_
  refine z_ldc2 C (v := 4294967295) kl_L_143 dL_law_1188 ?_
  refine z_land C dL_law_1191 ?_
  refine z_lor C dL_law_1192 ?_
  refine z_callVi C hm cl_L_149 cv_X8_item 82 (by decide) sh82 ⟨_, _, rfl⟩ [.int (xs (i + 1)), .int (xs (i + 2)), .long (((Int32.toInt64 (xs (i + 3))) <<< (Int32.toInt64 32 &&& 63)) ||| ((Int32.toInt64 (xs (i + 4))) &&& 4294967295))] rfl (rest := [.int v1]) rfl (k_X8_item w _ _ (fun t => I (35 + 2 * t) 0) ln (fun t i => J (35 + 2 * t + 1) i) (xs (i + 1)) (xs (i + 2)) (((Int32.toInt64 (xs (i + 3))) <<< (Int32.toInt64 32 &&& 63)) ||| ((Int32.toInt64 (xs (i + 4))) &&& 4294967295)) hTs) ⟨rfl, rfl, Nat.le_of_ble_eq_true rfl, Nat.le_of_ble_eq_true rfl⟩ (Nat.le_of_ble_eq_true rfl) dL_law_1193 (fun v2 I2 J2 h2 => ?_)
  obtain ⟨hv, hq⟩ := itmV_u (so := (fun t => I (35 + 2 * t) 0)) (ln := ln) (S0 := I = I ∧ J1 = J) (S1 := fun t j => I = I ∧ J1 = zupJ J (35 + 2 * t + 1) (vp_updL (J (35 + 2 * t + 1)) j (zcut (I (35 + 2 * t) 0) ((Int32.toInt64 (xs (i + 3)) <<< (Int32.toInt64 32 &&& 63)) ||| (Int32.toInt64 (xs (i + 4)) &&& 4294967295))))) (T0 := I2 = I ∧ J2 = J1) (T1 := fun t j => I2 = I ∧ J2 = zupJ J1 121 (vp_updL (J1 121) (60 * t + j) (zcut (I (35 + 2 * t) 0) ((Int32.toInt64 (xs (i + 3)) <<< (Int32.toInt64 32 &&& 63)) ||| (Int32.toInt64 (xs (i + 4)) &&& 4294967295))))) hl h1 h2
  have hR : zRel I2 J2 := by
    rcases hq with ⟨⟨_, a2⟩, b1, b2⟩ | ⟨t, j, ht, hj, ⟨_, a2⟩, b1, b2⟩
    · rw [b1, b2, a2]; exact H
    · have hl6 := hl t ht
      rw [b1]
      exact item_set H ht (by omega) a2 b2
  refine z_icmp_eq (tgt := 1298) C dL_law_1196 (by decide) (fun _ => kk _ _ hR) (fun c => absurd hv c)
set_option maxRecDepth 100000 in
set_option maxHeartbeats 1000000 in
theorem lc_shift {X : zX} {w : zW} {I : zI} {J : zJ} {b L i : Nat} {xs : Nat → Int32} (C : zOk X w cL_law RL room_1) (hm : zML X 4) (hs : zScr X b L xs) (hL : L ≤ 3072) (hi : i + 5 < L) (H : zRel I J) (kk : ∀ (K : zI) (M : zJ), zRel K M → Z X w K M 1298 [(3, .int (nI i)), (2, .ref (zad w 82)), (1, .ref (zad w 0)), (0, .ref b)] []) : Z X w I J 1235 [(3, .int (nI i)), (2, .ref (zad w 82)), (1, .ref (zad w 0)), (0, .ref b)] [] := by
  obtain ⟨ln, hTp, hTs, hIt⟩ := rTapes_p (zRel_t H)
  have hl : ∀ t, t < 6 → ln t ≤ 60 := fun t ht => (hTp t ht).2
  refine z_aload_n C dL_law_1235 rfl 2 rfl ?_
  refine z_arg C hs (by omega) 3 0 rfl rfl 1 (by omega) (by decide) dL_law_1236 dL_law_1237 dL_law_1238 dL_law_1239 dL_law_1240 ?_
  refine z_arg C hs (by omega) 3 0 rfl rfl 2 (by omega) (by decide) dL_law_1241 dL_law_1242 dL_law_1243 dL_law_1244 dL_law_1245 ?_
  refine z_arg C hs (by omega) 3 0 rfl rfl 3 (by omega) (by decide) dL_law_1246 dL_law_1247 dL_law_1248 dL_law_1249 dL_law_1250 ?_
  refine z_arg C hs (by omega) 3 0 rfl rfl 4 (by omega) (by decide) dL_law_1251 dL_law_1252 dL_law_1253 dL_law_1254 dL_law_1255 ?_
  refine z_arg C hs (by omega) 3 0 rfl rfl 5 (by omega) (by decide) dL_law_1256 dL_law_1257 dL_law_1258 dL_law_1259 dL_law_1260 ?_
  refine z_callVi C hm cl_L_155 cv_X7_shift 0 (by decide) sh0 ⟨_, _, rfl⟩ [.int (xs (i + 1)), .int (xs (i + 2)), .int (xs (i + 3)), .int (xs (i + 4)), .int (xs (i + 5))] rfl (rest := []) rfl (k_X7_shift w _ _ ln (xs (i + 1)) (xs (i + 2)) (xs (i + 3)) (xs (i + 4)) (xs (i + 5)) hTp) ⟨rfl, rfl, Nat.le_of_ble_eq_true rfl, Nat.le_of_ble_eq_true rfl⟩ (Nat.le_of_ble_eq_true rfl) dL_law_1261 (fun v1 I1 J1 h1 => ?_)
  have e2 : I1 = I := by
    rcases h1 with ⟨_, _, z, _⟩ | ⟨t, _, _, q, _, _, ⟨_, _, z, _⟩ | ⟨_, _, ⟨_, _, z, _⟩ | ⟨_, ⟨_, _, z, _⟩ | ⟨_, _, _, _, _, _, _, _, _, z, _⟩⟩⟩⟩
    all_goals exact z
  replace e2 := e2.symm; subst e2
  refine z_aload_n C dL_law_1264 rfl 1 rfl ?_
  refine z_arg C hs (by omega) 3 0 rfl rfl 1 (by omega) (by decide) dL_law_1265 dL_law_1266 dL_law_1267 dL_law_1268 dL_law_1269 ?_
  refine z_arg C hs (by omega) 3 0 rfl rfl 2 (by omega) (by decide) dL_law_1270 dL_law_1271 dL_law_1272 dL_law_1273 dL_law_1274 ?_
  refine z_arg C hs (by omega) 3 0 rfl rfl 3 (by omega) (by decide) dL_law_1275 dL_law_1276 dL_law_1277 dL_law_1278 dL_law_1279 ?_
  refine z_arg C hs (by omega) 3 0 rfl rfl 4 (by omega) (by decide) dL_law_1280 dL_law_1281 dL_law_1282 dL_law_1283 dL_law_1284 ?_
  refine z_arg C hs (by omega) 3 0 rfl rfl 5 (by omega) (by decide) dL_law_1285 dL_law_1286 dL_law_1287 dL_law_1288 dL_law_1289 ?_
  refine z_callVi C hm cl_L_158 cv_X8_shift 82 (by decide) sh82 ⟨_, _, rfl⟩ [.int (xs (i + 1)), .int (xs (i + 2)), .int (xs (i + 3)), .int (xs (i + 4)), .int (xs (i + 5))] rfl (rest := [.int v1]) rfl (k_X8_shift w _ _ (fun t => I (35 + 2 * t) 0) ln (fun t i => J (35 + 2 * t + 1) i) (xs (i + 1)) (xs (i + 2)) (xs (i + 3)) (xs (i + 4)) (xs (i + 5)) hTs) ⟨rfl, rfl, Nat.le_of_ble_eq_true rfl, Nat.le_of_ble_eq_true rfl⟩ (Nat.le_of_ble_eq_true rfl) dL_law_1290 (fun v2 I2 J2 h2 => ?_)
  obtain ⟨hv, hq⟩ := shfV_u (so := (fun t => I (35 + 2 * t) 0)) (ln := ln) (S0 := I = I ∧ J1 = J) (S1 := fun t o k k2 m => I = I ∧ J1 = zupJ J (35 + 2 * o + 1) (va_cpy (J (35 + 2 * t + 1)) (J (35 + 2 * o + 1)) k k2 m)) (T0 := I2 = I ∧ J2 = J1) (T1 := fun t o k k2 m => I2 = I ∧ ∃ R, J2 = zupJ (zupJ J1 122 R) 121 (va_cpy (J1 121) (J1 121) (60 * t + k) (60 * o + k2) m)) hl h1 h2
  have hR : zRel I2 J2 := by
    rcases hq with ⟨⟨_, a2⟩, b1, b2⟩ | ⟨t, o, k, k2, m, ht, ho, y1, y2, ⟨_, a2⟩, b1, R, b2⟩
    · rw [b1, b2, a2]; exact H
    · have hl6 := hl t ht
      have hl7 := hl o ho
      rw [b1]
      exact shift_set H ht ho (by omega) (by omega) a2 b2
  refine z_icmp_eq (tgt := 1298) C dL_law_1293 (by decide) (fun _ => kk _ _ hR) (fun c => absurd hv c)
