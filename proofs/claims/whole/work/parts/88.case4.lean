/-! the law's cases: simple ones; bytes -/
theorem by_dec : ∀ c : Fin 256, (BitVec.ofNat 8 c.1).signExtend 32 = (zNx c.1).toBitVec := by decide +kernel
theorem by_u8 (x : Int32) (j : Nat) (hj : j < 4) : ∃ c, c < 256 ∧ zby x j = nI c ∧ zbm x j = zNx c := by
  have h255 : ∀ i, i < 32 → bt 255 i = decide (i < 8) := fun i hi => by
    have h : ∀ i : Fin 32, bt 255 i.1 = decide (i.1 < 8) := by decide +kernel
    exact h ⟨i, hi⟩
  have e1 : zby x j = nI (zby x j).toBitVec.toNat := by
    apply Int32.toBitVec_inj.mp
    show (zby x j).toBitVec = BitVec.ofNat 32 (zby x j).toBitVec.toNat
    rw [BitVec.ofNat_toNat, BitVec.setWidth_eq]
  have hc : (zby x j).toBitVec.toNat < 256 := by
    unfold zby
    rw [Int32.toBitVec_and, BitVec.toNat_and]
    exact Nat.lt_of_le_of_lt Nat.and_le_right (by decide)
  have hb : ∀ i, i < 8 → (zby x j).toBitVec.getLsbD i = bt x (8 * j + i) := fun i hi => by
    show bt (zby x j) i = bt x (8 * j + i)
    unfold zby zush
    rw [b_and, b_ushr (8 * j) (by omega), h255 i (by omega), decide_eq_true hi, Bool.and_true]
  refine ⟨(zby x j).toBitVec.toNat, hc, e1, ?_⟩
  apply Int32.toBitVec_inj.mp
  rw [← by_dec ⟨(zby x j).toBitVec.toNat, hc⟩]
  unfold zbm
  rw [Int8.toBitVec_toInt32, Int32.toBitVec_toInt8]
  refine congrArg (BitVec.signExtend 32) (BitVec.eq_of_getLsbD_eq fun i hi => ?_)
  rw [BitVec.getLsbD_signExtend, BitVec.getLsbD_ofNat, if_pos (show i < 32 by omega)]
  have h1 : bt (x >>> (nI (8 * j) &&& 31)) i = bt x (8 * j + i) := by
    rw [b_sshr (8 * j) (by omega) x (by omega), if_pos (by omega)]
  show (decide (i < 8) && bt (x >>> (nI (8 * j) &&& 31)) i) = (decide (i < 8) && (zby x j).toBitVec.getLsbD i)
  rw [h1, hb i hi]
set_option maxRecDepth 100000 in
set_option maxHeartbeats 1000000 in
theorem lc_name {X : zX} {w : zW} {I : zI} {J : zJ} {b L i : Nat} {xs : Nat → Int32} (C : zOk X w cL_law RL room_1) (hm : zML X 4) (hs : zScr X b L xs) (hL : L ≤ 3072) (hi : i + 5 < L) (H : zRel I J) (kk : ∀ (K : zI) (M : zJ), zRel K M → Z X w K M 1298 [(3, .int (nI i)), (2, .ref (zad w 82)), (1, .ref (zad w 0)), (0, .ref b)] []) : Z X w I J 184 [(3, .int (nI i)), (2, .ref (zad w 82)), (1, .ref (zad w 0)), (0, .ref b)] [] := by
  obtain ⟨n, hn, hN, st⟩ := st_name H
  refine z_aload_n C dL_law_184 rfl 2 rfl ?_
  refine z_arg C hs (by omega) 3 0 rfl rfl 1 (by omega) (by decide) dL_law_185 dL_law_186 dL_law_187 dL_law_188 dL_law_189 ?_
  refine z_callVi C hm cl_L_13 cv_X7_name 0 (by decide) sh0 ⟨_, _, rfl⟩ [.int (xs (i + 1))] rfl (rest := []) rfl (k_X7_name w _ _ n (xs (i + 1)) hN hn) ⟨rfl, rfl, Nat.le_of_ble_eq_true rfl, Nat.le_of_ble_eq_true rfl⟩ (Nat.le_of_ble_eq_true rfl) dL_law_190 (fun v1 I1 J1 h1 => ?_)
  obtain ⟨mN, st2⟩ := st _ _ _ _ h1
  refine z_aload_n C dL_law_193 rfl 1 rfl ?_
  refine z_arg C hs (by omega) 3 0 rfl rfl 1 (by omega) (by decide) dL_law_194 dL_law_195 dL_law_196 dL_law_197 dL_law_198 ?_
  refine z_callVi C hm cl_L_17 cv_X8_name 82 (by decide) sh82 ⟨_, _, rfl⟩ [.int (xs (i + 1))] rfl (rest := [.int v1]) rfl (k_X8_name w _ _ n (xs (i + 1)) mN hn) ⟨rfl, rfl, Nat.le_of_ble_eq_true rfl, Nat.le_of_ble_eq_true rfl⟩ (Nat.le_of_ble_eq_true rfl) dL_law_199 (fun v2 I2 J2 h2 => ?_)
  obtain ⟨hv, hR⟩ := st2 _ _ _ h2
  refine z_icmp_eq (tgt := 1298) C dL_law_202 (by decide) (fun _ => kk _ _ hR) (fun c => absurd hv c)
set_option maxRecDepth 100000 in
set_option maxHeartbeats 1000000 in
theorem lc_join {X : zX} {w : zW} {I : zI} {J : zJ} {b L i : Nat} {xs : Nat → Int32} (C : zOk X w cL_law RL room_1) (hm : zML X 4) (hs : zScr X b L xs) (hL : L ≤ 3072) (hi : i + 5 < L) (H : zRel I J) (kk : ∀ (K : zI) (M : zJ), zRel K M → Z X w K M 1298 [(3, .int (nI i)), (2, .ref (zad w 82)), (1, .ref (zad w 0)), (0, .ref b)] []) : Z X w I J 207 [(3, .int (nI i)), (2, .ref (zad w 82)), (1, .ref (zad w 0)), (0, .ref b)] [] := by
  obtain ⟨n, hn, hN, st⟩ := st_join H
  refine z_aload_n C dL_law_207 rfl 2 rfl ?_
  refine z_arg C hs (by omega) 3 0 rfl rfl 1 (by omega) (by decide) dL_law_208 dL_law_209 dL_law_210 dL_law_211 dL_law_212 ?_
  refine z_arg C hs (by omega) 3 0 rfl rfl 2 (by omega) (by decide) dL_law_213 dL_law_214 dL_law_215 dL_law_216 dL_law_217 ?_
  refine z_arg C hs (by omega) 3 0 rfl rfl 3 (by omega) (by decide) dL_law_218 dL_law_219 dL_law_220 dL_law_221 dL_law_222 ?_
  refine z_callVi C hm cl_L_18 cv_X7_join 0 (by decide) sh0 ⟨_, _, rfl⟩ [.int (xs (i + 1)), .int (xs (i + 2)), .int (xs (i + 3))] rfl (rest := []) rfl (k_X7_join w _ _ n (xs (i + 1)) (xs (i + 2)) (xs (i + 3)) hN hn) ⟨rfl, rfl, Nat.le_of_ble_eq_true rfl, Nat.le_of_ble_eq_true rfl⟩ (Nat.le_of_ble_eq_true rfl) dL_law_223 (fun v1 I1 J1 h1 => ?_)
  obtain ⟨mN, st2⟩ := st _ _ _ _ _ _ h1
  refine z_aload_n C dL_law_226 rfl 1 rfl ?_
  refine z_arg C hs (by omega) 3 0 rfl rfl 1 (by omega) (by decide) dL_law_227 dL_law_228 dL_law_229 dL_law_230 dL_law_231 ?_
  refine z_arg C hs (by omega) 3 0 rfl rfl 2 (by omega) (by decide) dL_law_232 dL_law_233 dL_law_234 dL_law_235 dL_law_236 ?_
  refine z_arg C hs (by omega) 3 0 rfl rfl 3 (by omega) (by decide) dL_law_237 dL_law_238 dL_law_239 dL_law_240 dL_law_241 ?_
  refine z_callVi C hm cl_L_22 cv_X8_join 82 (by decide) sh82 ⟨_, _, rfl⟩ [.int (xs (i + 1)), .int (xs (i + 2)), .int (xs (i + 3))] rfl (rest := [.int v1]) rfl (k_X8_join w _ _ n (xs (i + 1)) (xs (i + 2)) (xs (i + 3)) mN hn) ⟨rfl, rfl, Nat.le_of_ble_eq_true rfl, Nat.le_of_ble_eq_true rfl⟩ (Nat.le_of_ble_eq_true rfl) dL_law_242 (fun v2 I2 J2 h2 => ?_)
  obtain ⟨hv, hR⟩ := st2 _ _ _ h2
  refine z_icmp_eq (tgt := 1298) C dL_law_245 (by decide) (fun _ => kk _ _ hR) (fun c => absurd hv c)
set_option maxRecDepth 100000 in
set_option maxHeartbeats 1000000 in
theorem lc_news {X : zX} {w : zW} {I : zI} {J : zJ} {b L i : Nat} {xs : Nat → Int32} (C : zOk X w cL_law RL room_1) (hm : zML X 4) (hs : zScr X b L xs) (hL : L ≤ 3072) (hi : i + 5 < L) (H : zRel I J) (kk : ∀ (K : zI) (M : zJ), zRel K M → Z X w K M 1298 [(3, .int (nI i)), (2, .ref (zad w 82)), (1, .ref (zad w 0)), (0, .ref b)] []) : Z X w I J 250 [(3, .int (nI i)), (2, .ref (zad w 82)), (1, .ref (zad w 0)), (0, .ref b)] [] := by
  obtain ⟨n, hn, hN, st⟩ := st_news H
  refine z_aload_n C dL_law_250 rfl 2 rfl ?_
  refine z_arg C hs (by omega) 3 0 rfl rfl 1 (by omega) (by decide) dL_law_251 dL_law_252 dL_law_253 dL_law_254 dL_law_255 ?_
  refine z_arg C hs (by omega) 3 0 rfl rfl 2 (by omega) (by decide) dL_law_256 dL_law_257 dL_law_258 dL_law_259 dL_law_260 ?_
  refine z_callVi C hm cl_L_23 cv_X7_news 0 (by decide) sh0 ⟨_, _, rfl⟩ [.int (xs (i + 1)), .int (xs (i + 2))] rfl (rest := []) rfl (k_X7_news w _ _ n (xs (i + 1)) (xs (i + 2)) hN hn) ⟨rfl, rfl, Nat.le_of_ble_eq_true rfl, Nat.le_of_ble_eq_true rfl⟩ (Nat.le_of_ble_eq_true rfl) dL_law_261 (fun v1 I1 J1 h1 => ?_)
  obtain ⟨mN, st2⟩ := st _ _ _ _ _ h1
  refine z_aload_n C dL_law_264 rfl 1 rfl ?_
  refine z_arg C hs (by omega) 3 0 rfl rfl 1 (by omega) (by decide) dL_law_265 dL_law_266 dL_law_267 dL_law_268 dL_law_269 ?_
  refine z_arg C hs (by omega) 3 0 rfl rfl 2 (by omega) (by decide) dL_law_270 dL_law_271 dL_law_272 dL_law_273 dL_law_274 ?_
  refine z_callVi C hm cl_L_27 cv_X8_news 82 (by decide) sh82 ⟨_, _, rfl⟩ [.int (xs (i + 1)), .int (xs (i + 2))] rfl (rest := [.int v1]) rfl (k_X8_news w _ _ n (xs (i + 1)) (xs (i + 2)) mN hn) ⟨rfl, rfl, Nat.le_of_ble_eq_true rfl, Nat.le_of_ble_eq_true rfl⟩ (Nat.le_of_ble_eq_true rfl) dL_law_275 (fun v2 I2 J2 h2 => ?_)
  obtain ⟨hv, hR⟩ := st2 _ _ _ h2
  refine z_icmp_eq (tgt := 1298) C dL_law_278 (by decide) (fun _ => kk _ _ hR) (fun c => absurd hv c)
set_option maxRecDepth 100000 in
set_option maxHeartbeats 1000000 in
theorem lc_trade {X : zX} {w : zW} {I : zI} {J : zJ} {b L i : Nat} {xs : Nat → Int32} (C : zOk X w cL_law RL room_1) (hm : zML X 4) (hs : zScr X b L xs) (hL : L ≤ 3072) (hi : i + 5 < L) (H : zRel I J) (kk : ∀ (K : zI) (M : zJ), zRel K M → Z X w K M 1298 [(3, .int (nI i)), (2, .ref (zad w 82)), (1, .ref (zad w 0)), (0, .ref b)] []) : Z X w I J 484 [(3, .int (nI i)), (2, .ref (zad w 82)), (1, .ref (zad w 0)), (0, .ref b)] [] := by
  obtain ⟨n, tr, hn, htr, hN, hT, st⟩ := st_trade H
  refine z_aload_n C dL_law_484 rfl 2 rfl ?_
  refine z_arg C hs (by omega) 3 0 rfl rfl 1 (by omega) (by decide) dL_law_485 dL_law_486 dL_law_487 dL_law_488 dL_law_489 ?_
  refine z_arg C hs (by omega) 3 0 rfl rfl 2 (by omega) (by decide) dL_law_490 dL_law_491 dL_law_492 dL_law_493 dL_law_494 ?_
  refine z_arg C hs (by omega) 3 0 rfl rfl 3 (by omega) (by decide) dL_law_495 dL_law_496 dL_law_497 dL_law_498 dL_law_499 ?_
  refine z_arg C hs (by omega) 3 0 rfl rfl 4 (by omega) (by decide) dL_law_500 dL_law_501 dL_law_502 dL_law_503 dL_law_504 ?_
  refine z_arg C hs (by omega) 3 0 rfl rfl 5 (by omega) (by decide) dL_law_505 dL_law_506 dL_law_507 dL_law_508 dL_law_509 ?_
  refine z_callVi C hm cl_L_57 cv_X7_trade 0 (by decide) sh0 ⟨_, _, rfl⟩ [.int (xs (i + 1)), .int (xs (i + 2)), .int (xs (i + 3)), .int (xs (i + 4)), .int (xs (i + 5))] rfl (rest := []) rfl (k_X7_trade w _ _ n tr (xs (i + 1)) (xs (i + 2)) (xs (i + 3)) (xs (i + 4)) (xs (i + 5)) hN hn hT htr) ⟨rfl, rfl, Nat.le_of_ble_eq_true rfl, Nat.le_of_ble_eq_true rfl⟩ (Nat.le_of_ble_eq_true rfl) dL_law_510 (fun v1 I1 J1 h1 => ?_)
  obtain ⟨mN, mT, st2⟩ := st _ _ _ _ _ _ _ _ h1
  refine z_aload_n C dL_law_513 rfl 1 rfl ?_
  refine z_arg C hs (by omega) 3 0 rfl rfl 1 (by omega) (by decide) dL_law_514 dL_law_515 dL_law_516 dL_law_517 dL_law_518 ?_
  refine z_arg C hs (by omega) 3 0 rfl rfl 2 (by omega) (by decide) dL_law_519 dL_law_520 dL_law_521 dL_law_522 dL_law_523 ?_
  refine z_arg C hs (by omega) 3 0 rfl rfl 3 (by omega) (by decide) dL_law_524 dL_law_525 dL_law_526 dL_law_527 dL_law_528 ?_
  refine z_arg C hs (by omega) 3 0 rfl rfl 4 (by omega) (by decide) dL_law_529 dL_law_530 dL_law_531 dL_law_532 dL_law_533 ?_
  refine z_arg C hs (by omega) 3 0 rfl rfl 5 (by omega) (by decide) dL_law_534 dL_law_535 dL_law_536 dL_law_537 dL_law_538 ?_
  refine z_callVi C hm cl_L_61 cv_X8_trade 82 (by decide) sh82 ⟨_, _, rfl⟩ [.int (xs (i + 1)), .int (xs (i + 2)), .int (xs (i + 3)), .int (xs (i + 4)), .int (xs (i + 5))] rfl (rest := [.int v1]) rfl (k_X8_trade w _ _ n tr (xs (i + 1)) (xs (i + 2)) (xs (i + 3)) (xs (i + 4)) (xs (i + 5)) mN hn mT htr) ⟨rfl, rfl, Nat.le_of_ble_eq_true rfl, Nat.le_of_ble_eq_true rfl⟩ (Nat.le_of_ble_eq_true rfl) dL_law_539 (fun v2 I2 J2 h2 => ?_)
  obtain ⟨hv, hR⟩ := st2 _ _ _ h2
  refine z_icmp_eq (tgt := 1298) C dL_law_542 (by decide) (fun _ => kk _ _ hR) (fun c => absurd hv c)
set_option maxRecDepth 100000 in
set_option maxHeartbeats 1000000 in
theorem lc_blank {X : zX} {w : zW} {I : zI} {J : zJ} {b L i : Nat} {xs : Nat → Int32} (C : zOk X w cL_law RL room_1) (hm : zML X 4) (hs : zScr X b L xs) (hL : L ≤ 3072) (hi : i + 5 < L) (H : zRel I J) (kk : ∀ (K : zI) (M : zJ), zRel K M → Z X w K M 1298 [(3, .int (nI i)), (2, .ref (zad w 82)), (1, .ref (zad w 0)), (0, .ref b)] []) : Z X w I J 825 [(3, .int (nI i)), (2, .ref (zad w 82)), (1, .ref (zad w 0)), (0, .ref b)] [] := by
  obtain ⟨bk, hbk, hK, st⟩ := st_blank H
  refine z_aload_n C dL_law_825 rfl 2 rfl ?_
  refine z_arg C hs (by omega) 3 0 rfl rfl 1 (by omega) (by decide) dL_law_826 dL_law_827 dL_law_828 dL_law_829 dL_law_830 ?_
  refine z_callVi C hm cl_L_99 cv_X7_blank 0 (by decide) sh0 ⟨_, _, rfl⟩ [.int (xs (i + 1))] rfl (rest := []) rfl (k_X7_blank w _ _ bk (xs (i + 1)) hK hbk) ⟨rfl, rfl, Nat.le_of_ble_eq_true rfl, Nat.le_of_ble_eq_true rfl⟩ (Nat.le_of_ble_eq_true rfl) dL_law_831 (fun v1 I1 J1 h1 => ?_)
  obtain ⟨mK, st2⟩ := st _ _ _ _ h1
  refine z_aload_n C dL_law_834 rfl 1 rfl ?_
  refine z_arg C hs (by omega) 3 0 rfl rfl 1 (by omega) (by decide) dL_law_835 dL_law_836 dL_law_837 dL_law_838 dL_law_839 ?_
  refine z_callVi C hm cl_L_102 cv_X8_blank 82 (by decide) sh82 ⟨_, _, rfl⟩ [.int (xs (i + 1))] rfl (rest := [.int v1]) rfl (k_X8_blank w _ _ bk (xs (i + 1)) mK hbk) ⟨rfl, rfl, Nat.le_of_ble_eq_true rfl, Nat.le_of_ble_eq_true rfl⟩ (Nat.le_of_ble_eq_true rfl) dL_law_840 (fun v2 I2 J2 h2 => ?_)
  obtain ⟨hv, hR⟩ := st2 _ _ _ h2
  refine z_icmp_eq (tgt := 1298) C dL_law_843 (by decide) (fun _ => kk _ _ hR) (fun c => absurd hv c)
set_option maxRecDepth 100000 in
set_option maxHeartbeats 1000000 in
theorem lc_fridays {X : zX} {w : zW} {I : zI} {J : zJ} {b L i : Nat} {xs : Nat → Int32} (C : zOk X w cL_law RL room_1) (hm : zML X 4) (hs : zScr X b L xs) (hL : L ≤ 3072) (hi : i + 5 < L) (H : zRel I J) (kk : ∀ (K : zI) (M : zJ), zRel K M → Z X w K M 1298 [(3, .int (nI i)), (2, .ref (zad w 82)), (1, .ref (zad w 0)), (0, .ref b)] []) : Z X w I J 603 [(3, .int (nI i)), (2, .ref (zad w 82)), (1, .ref (zad w 0)), (0, .ref b)] [] := by
  obtain ⟨n, tr, hn, htr, hN, mN, hT, mT, st⟩ := st_fridays H
  refine z_aload_n C dL_law_603 rfl 2 rfl ?_
  refine z_arg C hs (by omega) 3 0 rfl rfl 1 (by omega) (by decide) dL_law_604 dL_law_605 dL_law_606 dL_law_607 dL_law_608 ?_
  refine z_callVi C hm cl_L_70 cv_X7_fridays 0 (by decide) sh0 ⟨_, _, rfl⟩ [.int (xs (i + 1))] rfl (rest := []) rfl (k_X7_fridays w _ _ n tr (xs (i + 1)) hN hn hT htr) ⟨rfl, rfl, Nat.le_of_ble_eq_true rfl, Nat.le_of_ble_eq_true rfl⟩ (Nat.le_of_ble_eq_true rfl) dL_law_609 (fun v1 I1 J1 h1 => ?_)
  obtain ⟨e1, e2, e3⟩ := id h1
  replace e2 := e2.symm; subst e2
  replace e3 := e3.symm; subst e3
  refine z_aload_n C dL_law_612 rfl 1 rfl ?_
  refine z_arg C hs (by omega) 3 0 rfl rfl 1 (by omega) (by decide) dL_law_613 dL_law_614 dL_law_615 dL_law_616 dL_law_617 ?_
  refine z_callVi C hm cl_L_73 cv_X8_fridays 82 (by decide) sh82 ⟨_, _, rfl⟩ [.int (xs (i + 1))] rfl (rest := [.int v1]) rfl (k_X8_fridays w _ _ n tr (xs (i + 1)) mN hn mT htr) ⟨rfl, rfl, Nat.le_of_ble_eq_true rfl, Nat.le_of_ble_eq_true rfl⟩ (Nat.le_of_ble_eq_true rfl) dL_law_618 (fun v2 I2 J2 h2 => ?_)
  obtain ⟨w1, w2, w3⟩ := id h2
  have hR : zRel I2 J2 := by rw [w2, w3]; exact H
  have hv : v1 = v2 := e1.trans ((st _).trans w1.symm)
  refine z_icmp_eq (tgt := 1298) C dL_law_621 (by decide) (fun _ => kk _ _ hR) (fun c => absurd hv c)
set_option maxRecDepth 100000 in
set_option maxHeartbeats 1000000 in
theorem lc_trace {X : zX} {w : zW} {I : zI} {J : zJ} {b L i : Nat} {xs : Nat → Int32} (C : zOk X w cL_law RL room_1) (hm : zML X 4) (hs : zScr X b L xs) (hL : L ≤ 3072) (hi : i + 5 < L) (H : zRel I J) (kk : ∀ (K : zI) (M : zJ), zRel K M → Z X w K M 1298 [(3, .int (nI i)), (2, .ref (zad w 82)), (1, .ref (zad w 0)), (0, .ref b)] []) : Z X w I J 1006 [(3, .int (nI i)), (2, .ref (zad w 82)), (1, .ref (zad w 0)), (0, .ref b)] [] := by
  obtain ⟨bg, hbg, hb1, mbg, st⟩ := st_trace H
  refine z_aload_n C dL_law_1006 rfl 2 rfl ?_
  refine z_arg C hs (by omega) 3 0 rfl rfl 1 (by omega) (by decide) dL_law_1007 dL_law_1008 dL_law_1009 dL_law_1010 dL_law_1011 ?_
  refine z_callVi C hm cl_L_127 cv_X7_trace 0 (by decide) sh0 ⟨_, _, rfl⟩ [.int (xs (i + 1))] rfl (rest := []) rfl (k_X7_trace w _ _ bg (xs (i + 1)) hbg hb1) ⟨rfl, rfl, Nat.le_of_ble_eq_true rfl, Nat.le_of_ble_eq_true rfl⟩ (Nat.le_of_ble_eq_true rfl) dL_law_1012 (fun v1 I1 J1 h1 => ?_)
  obtain ⟨e1, e2, e3⟩ := id h1
  replace e2 := e2.symm; subst e2
  replace e3 := e3.symm; subst e3
  refine z_aload_n C dL_law_1015 rfl 1 rfl ?_
  refine z_arg C hs (by omega) 3 0 rfl rfl 1 (by omega) (by decide) dL_law_1016 dL_law_1017 dL_law_1018 dL_law_1019 dL_law_1020 ?_
  refine z_callVi C hm cl_L_130 cv_X8_trace 82 (by decide) sh82 ⟨_, _, rfl⟩ [.int (xs (i + 1))] rfl (rest := [.int v1]) rfl (k_X8_trace w _ _ bg (xs (i + 1)) mbg hb1) ⟨rfl, rfl, Nat.le_of_ble_eq_true rfl, Nat.le_of_ble_eq_true rfl⟩ (Nat.le_of_ble_eq_true rfl) dL_law_1021 (fun v2 I2 J2 h2 => ?_)
  obtain ⟨w1, w2, w3⟩ := id h2
  have hR : zRel I2 J2 := by rw [w2, w3]; exact H
  have hv : v1 = v2 := e1.trans ((st _).trans w1.symm)
  refine z_icmp_eq (tgt := 1298) C dL_law_1024 (by decide) (fun _ => kk _ _ hR) (fun c => absurd hv c)
set_option maxRecDepth 100000 in
set_option maxHeartbeats 1000000 in
theorem lc_taken {X : zX} {w : zW} {I : zI} {J : zJ} {b L i : Nat} {xs : Nat → Int32} (C : zOk X w cL_law RL room_1) (hm : zML X 4) (hs : zScr X b L xs) (hL : L ≤ 3072) (hi : i + 5 < L) (H : zRel I J) (kk : ∀ (K : zI) (M : zJ), zRel K M → Z X w K M 1298 [(3, .int (nI i)), (2, .ref (zad w 82)), (1, .ref (zad w 0)), (0, .ref b)] []) : Z X w I J 1029 [(3, .int (nI i)), (2, .ref (zad w 82)), (1, .ref (zad w 0)), (0, .ref b)] [] := by
  obtain ⟨tr, kd, htr, hT, mT, hKd, mKd⟩ := st_kinds H
  refine z_aload_n C dL_law_1029 rfl 2 rfl ?_
  refine z_arg C hs (by omega) 3 0 rfl rfl 1 (by omega) (by decide) dL_law_1030 dL_law_1031 dL_law_1032 dL_law_1033 dL_law_1034 ?_
  refine z_arg C hs (by omega) 3 0 rfl rfl 2 (by omega) (by decide) dL_law_1035 dL_law_1036 dL_law_1037 dL_law_1038 dL_law_1039 ?_
  refine z_callVi C hm cl_L_131 cv_X7_taken 0 (by decide) sh0 ⟨_, _, rfl⟩ [.int (xs (i + 1)), .int (xs (i + 2))] rfl (rest := []) rfl (k_X7_taken w _ _ tr kd (xs (i + 1)) (xs (i + 2)) hT htr hKd) ⟨rfl, rfl, Nat.le_of_ble_eq_true rfl, Nat.le_of_ble_eq_true rfl⟩ (Nat.le_of_ble_eq_true rfl) dL_law_1040 (fun v1 I1 J1 h1 => ?_)
  obtain ⟨e1, e2, e3⟩ := id h1
  replace e2 := e2.symm; subst e2
  replace e3 := e3.symm; subst e3
  refine z_aload_n C dL_law_1043 rfl 1 rfl ?_
  refine z_arg C hs (by omega) 3 0 rfl rfl 1 (by omega) (by decide) dL_law_1044 dL_law_1045 dL_law_1046 dL_law_1047 dL_law_1048 ?_
  refine z_arg C hs (by omega) 3 0 rfl rfl 2 (by omega) (by decide) dL_law_1049 dL_law_1050 dL_law_1051 dL_law_1052 dL_law_1053 ?_
  refine z_callVi C hm cl_L_134 cv_X8_taken 82 (by decide) sh82 ⟨_, _, rfl⟩ [.int (xs (i + 1)), .int (xs (i + 2))] rfl (rest := [.int v1]) rfl (k_X8_taken w _ _ tr kd (xs (i + 1)) (xs (i + 2)) mT htr mKd) ⟨rfl, rfl, Nat.le_of_ble_eq_true rfl, Nat.le_of_ble_eq_true rfl⟩ (Nat.le_of_ble_eq_true rfl) dL_law_1054 (fun v2 I2 J2 h2 => ?_)
  obtain ⟨w1, w2, w3⟩ := id h2
  have hR : zRel I2 J2 := by rw [w2, w3]; exact H
  have hv : v1 = v2 := e1.trans w1.symm
  refine z_icmp_eq (tgt := 1298) C dL_law_1057 (by decide) (fun _ => kk _ _ hR) (fun c => absurd hv c)
set_option maxRecDepth 100000 in
set_option maxHeartbeats 1000000 in
theorem lc_count {X : zX} {w : zW} {I : zI} {J : zJ} {b L i : Nat} {xs : Nat → Int32} (C : zOk X w cL_law RL room_1) (hm : zML X 4) (hs : zScr X b L xs) (hL : L ≤ 3072) (hi : i + 5 < L) (H : zRel I J) (kk : ∀ (K : zI) (M : zJ), zRel K M → Z X w K M 1298 [(3, .int (nI i)), (2, .ref (zad w 82)), (1, .ref (zad w 0)), (0, .ref b)] []) : Z X w I J 1062 [(3, .int (nI i)), (2, .ref (zad w 82)), (1, .ref (zad w 0)), (0, .ref b)] [] := by
  skip
  refine z_aload_n C dL_law_1062 rfl 2 rfl ?_
  refine z_arg C hs (by omega) 3 0 rfl rfl 1 (by omega) (by decide) dL_law_1063 dL_law_1064 dL_law_1065 dL_law_1066 dL_law_1067 ?_
  refine z_callVi C hm cl_L_135 cv_X7_count 0 (by decide) sh0 ⟨_, _, rfl⟩ [.int (xs (i + 1))] rfl (rest := []) rfl (k_X7_count w _ _ (xs (i + 1))) ⟨rfl, rfl, Nat.le_of_ble_eq_true rfl, Nat.le_of_ble_eq_true rfl⟩ (Nat.le_of_ble_eq_true rfl) dL_law_1068 (fun v1 I1 J1 h1 => ?_)
  obtain ⟨e1, e2, e3⟩ := id h1
  replace e2 := e2.symm; subst e2
  replace e3 := e3.symm; subst e3
  refine z_aload_n C dL_law_1071 rfl 1 rfl ?_
  refine z_arg C hs (by omega) 3 0 rfl rfl 1 (by omega) (by decide) dL_law_1072 dL_law_1073 dL_law_1074 dL_law_1075 dL_law_1076 ?_
  refine z_callVi C hm cl_L_138 cv_X8_count 82 (by decide) sh82 ⟨_, _, rfl⟩ [.int (xs (i + 1))] rfl (rest := [.int v1]) rfl (k_X8_count w _ _ (xs (i + 1))) ⟨rfl, rfl, Nat.le_of_ble_eq_true rfl, Nat.le_of_ble_eq_true rfl⟩ (Nat.le_of_ble_eq_true rfl) dL_law_1077 (fun v2 I2 J2 h2 => ?_)
  obtain ⟨w1, w2, w3⟩ := id h2
  have hR : zRel I2 J2 := by rw [w2, w3]; exact H
  have hv : v1 = v2 := e1.trans ((st_count H _).trans w1.symm)
  refine z_icmp_eq (tgt := 1298) C dL_law_1080 (by decide) (fun _ => kk _ _ hR) (fun c => absurd hv c)
