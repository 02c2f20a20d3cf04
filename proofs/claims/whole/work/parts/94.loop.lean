/-! the law's loop -/
theorem and63 (x : Int32) : ∃ k, k < 64 ∧ x &&& 63 = nI k := by
  refine ⟨(x &&& 63).toBitVec.toNat, ?_, ?_⟩
  · rw [Int32.toBitVec_and, BitVec.toNat_and]
    exact Nat.lt_of_le_of_lt Nat.and_le_right (by decide)
  · apply Int32.toBitVec_inj.mp
    show (x &&& 63).toBitVec = BitVec.ofNat 32 (x &&& 63).toBitVec.toNat
    rw [BitVec.ofNat_toNat, BitVec.setWidth_eq]
theorem law_case {X : zX} {w : zW} {I : zI} {J : zJ} {b L i : Nat} {xs : Nat → Int32} (C : zOk X w cL_law RL room_1) (hm : zML X 4) (hs : zScr X b L xs) (hL : L ≤ 3072) (hi : i + 5 < L) (H : zRel I J) (kk : ∀ (K : zI) (M : zJ), zRel K M → Z X w K M 1298 [(3, .int (nI i)), (2, .ref (zad w 82)), (1, .ref (zad w 0)), (0, .ref b)] []) : Z X w I J 33 [(3, .int (nI i)), (2, .ref (zad w 82)), (1, .ref (zad w 0)), (0, .ref b)] [.int (xs i &&& 63)] := by
  obtain ⟨k, hk, ek⟩ := and63 (xs i)
  rw [ek]
  match k, hk with
  | 0, _ => exact z_tableIn (tgt := 184) (off := 151) C dL_law_33 (by decide) (by decide) (by decide) (by decide) (lc_name C hm hs hL hi H kk)
  | 1, _ => exact z_tableIn (tgt := 207) (off := 174) C dL_law_33 (by decide) (by decide) (by decide) (by decide) (lc_join C hm hs hL hi H kk)
  | 2, _ => exact z_tableIn (tgt := 250) (off := 217) C dL_law_33 (by decide) (by decide) (by decide) (by decide) (lc_news C hm hs hL hi H kk)
  | 3, _ => exact z_tableIn (tgt := 283) (off := 250) C dL_law_33 (by decide) (by decide) (by decide) (by decide) (lc_feed C hm hs hL hi H kk)
  | 4, _ => exact z_tableIn (tgt := 316) (off := 283) C dL_law_33 (by decide) (by decide) (by decide) (by decide) (lc_law C hm hs hL hi H kk)
  | 5, _ => exact z_tableIn (tgt := 329) (off := 296) C dL_law_33 (by decide) (by decide) (by decide) (by decide) (lc_goes C hm hs hL hi H kk)
  | 6, _ => exact z_tableIn (tgt := 362) (off := 329) C dL_law_33 (by decide) (by decide) (by decide) (by decide) (lc_habit C hm hs hL hi H kk)
  | 7, _ => exact z_tableIn (tgt := 395) (off := 362) C dL_law_33 (by decide) (by decide) (by decide) (by decide) (lc_knows C hm hs hL hi H kk)
  | 8, _ => exact z_tableIn (tgt := 418) (off := 385) C dL_law_33 (by decide) (by decide) (by decide) (by decide) (lc_way C hm hs hL hi H kk)
  | 9, _ => exact z_tableIn (tgt := 451) (off := 418) C dL_law_33 (by decide) (by decide) (by decide) (by decide) (lc_silent C hm hs hL hi H kk)
  | 10, _ => exact z_tableIn (tgt := 484) (off := 451) C dL_law_33 (by decide) (by decide) (by decide) (by decide) (lc_trade C hm hs hL hi H kk)
  | 11, _ => exact z_tableIn (tgt := 547) (off := 514) C dL_law_33 (by decide) (by decide) (by decide) (by decide) (lc_of C hm hs hL hi H kk)
  | 12, _ => exact z_tableIn (tgt := 580) (off := 547) C dL_law_33 (by decide) (by decide) (by decide) (by decide) (lc_sure C hm hs hL hi H kk)
  | 13, _ => exact z_tableIn (tgt := 603) (off := 570) C dL_law_33 (by decide) (by decide) (by decide) (by decide) (lc_fridays C hm hs hL hi H kk)
  | 14, _ => exact z_tableIn (tgt := 626) (off := 593) C dL_law_33 (by decide) (by decide) (by decide) (by decide) (lc_again C hm hs hL hi H kk)
  | 15, _ => exact z_tableIn (tgt := 680) (off := 647) C dL_law_33 (by decide) (by decide) (by decide) (by decide) (lc_oddest C hm hs hL hi H kk)
  | 16, _ => exact z_tableIn (tgt := 703) (off := 670) C dL_law_33 (by decide) (by decide) (by decide) (by decide) (lc_ring C hm hs hL hi H kk)
  | 17, _ => exact z_tableIn (tgt := 726) (off := 693) C dL_law_33 (by decide) (by decide) (by decide) (by decide) (lc_parted C hm hs hL hi H kk)
  | 18, _ => exact z_tableIn (tgt := 759) (off := 726) C dL_law_33 (by decide) (by decide) (by decide) (by decide) (lc_watch C hm hs hL hi H kk)
  | 19, _ => exact z_tableIn (tgt := 802) (off := 769) C dL_law_33 (by decide) (by decide) (by decide) (by decide) (lc_ask C hm hs hL hi H kk)
  | 20, _ => exact z_tableIn (tgt := 825) (off := 792) C dL_law_33 (by decide) (by decide) (by decide) (by decide) (lc_blank C hm hs hL hi H kk)
  | 21, _ => exact z_tableIn (tgt := 848) (off := 815) C dL_law_33 (by decide) (by decide) (by decide) (by decide) (lc_fills C hm hs hL hi H kk)
  | 22, _ => exact z_tableIn (tgt := 871) (off := 838) C dL_law_33 (by decide) (by decide) (by decide) (by decide) (lc_filled C hm hs hL hi H kk)
  | 23, _ => exact z_tableIn (tgt := 894) (off := 861) C dL_law_33 (by decide) (by decide) (by decide) (by decide) (lc_judge C hm hs hL hi H kk)
  | 24, _ => exact z_tableIn (tgt := 937) (off := 904) C dL_law_33 (by decide) (by decide) (by decide) (by decide) (lc_image C hm hs hL hi H kk)
  | 25, _ => exact z_tableIn (tgt := 950) (off := 917) C dL_law_33 (by decide) (by decide) (by decide) (by decide) (lc_undo C hm hs hL hi H kk)
  | 26, _ => exact z_tableIn (tgt := 963) (off := 930) C dL_law_33 (by decide) (by decide) (by decide) (by decide) (lc_act C hm hs hL hi H kk)
  | 27, _ => exact z_tableIn (tgt := 1006) (off := 973) C dL_law_33 (by decide) (by decide) (by decide) (by decide) (lc_trace C hm hs hL hi H kk)
  | 28, _ => exact z_tableIn (tgt := 1029) (off := 996) C dL_law_33 (by decide) (by decide) (by decide) (by decide) (lc_taken C hm hs hL hi H kk)
  | 29, _ => exact z_tableIn (tgt := 1062) (off := 1029) C dL_law_33 (by decide) (by decide) (by decide) (by decide) (lc_count C hm hs hL hi H kk)
  | 30, _ => exact z_tableIn (tgt := 1085) (off := 1052) C dL_law_33 (by decide) (by decide) (by decide) (by decide) (lc_tape C hm hs hL hi H kk)
  | 31, _ => exact z_tableIn (tgt := 1128) (off := 1095) C dL_law_33 (by decide) (by decide) (by decide) (by decide) (lc_item C hm hs hL hi H kk)
  | 32, _ => exact z_tableIn (tgt := 1201) (off := 1168) C dL_law_33 (by decide) (by decide) (by decide) (by decide) (lc_read C hm hs hL hi H kk)
  | 33, _ => exact z_tableIn (tgt := 1235) (off := 1202) C dL_law_33 (by decide) (by decide) (by decide) (by decide) (lc_shift C hm hs hL hi H kk)
  | k + 34, hk => exact z_tableOut (tgt := 1298) C dL_law_33 (Or.inr (by rw [nI_toInt (by omega)]; omega)) (by decide) (kk I J H)
theorem law_loop {X : zX} {w : zW} {b L : Nat} {xs : Nat → Int32} (C : zOk X w cL_law RL room_1) (hm : zML X 4) (hs : zScr X b L xs) (hL : L ≤ 3072) (kend : ∀ (K : zI) (M : zJ) (i : Nat), Z X w K M 1304 [(3, .int (nI i)), (2, .ref (zad w 82)), (1, .ref (zad w 0)), (0, .ref b)] []) : ∀ (d i : Nat) (I : zI) (J : zJ), L - i < d → i ≤ L → zRel I J → Z X w I J 18 [(3, .int (nI i)), (2, .ref (zad w 82)), (1, .ref (zad w 0)), (0, .ref b)] [] := by
  intro d
  induction d with
  | zero => intro i I J hd; exact absurd hd (Nat.not_lt_zero _)
  | succ d ih =>
    intro i I J hd hiL H
    refine z_iload_n C dL_law_18 rfl 0 rfl ?_
    refine z_aload_n C dL_law_19 rfl 3 rfl ?_
    refine z_slen C hs dL_law_20 ?_
    refine z_bipush C (v := 6) dL_law_21 (by decide) ?_
    refine z_isub C dL_law_23 ?_
    refine z_icmp_gt (tgt := 1304) C dL_law_24 (by decide) (fun _ => kend _ _ _) (fun c => ?_)
    have hi : i + 5 < L := by
      have c2 : ¬ (nI L - nI 6 < nI i) := c
      rw [Int32.lt_iff_toInt_lt, pk_sub_toInt (by omega) (by decide), nI_toInt (by omega)] at c2
      omega
    refine z_aload_n C dL_law_27 rfl 3 rfl ?_
    refine z_iload_n C dL_law_28 rfl 0 rfl ?_
    refine z_sld C hs i rfl (by omega) (by omega) dL_law_29 ?_
    refine z_bipush C (v := 63) dL_law_30 (by decide) ?_
    refine z_iand C dL_law_32 ?_
    refine law_case C hm hs hL hi H (fun K M HK => ?_)
    refine z_iinc C hm 0 (v := nI (i + 6)) (lv' := [(3, .int (nI (i + 6))), (2, .ref (zad w 82)), (1, .ref (zad w 0)), (0, .ref b)]) dL_law_1298 rfl (nI_add i 6) (by decide) rfl ?_
    refine z_goto (tgt := 18) C dL_law_1301 (by decide) ?_
    exact ih (i + 6) K M (by omega) (by omega) HK
