/-! feeding, again -/
theorem m1s (x : Int32) : x - 1 = x + Int32.ofInt (-1) := by rw [Int32.sub_eq_add_neg]; rfl
noncomputable def zby (x : Int32) (j : Nat) : Int32 := zush x (nI (8 * j)) &&& 255
/-- ways to have come so often, of all that are told in hundredths -/
def zwN (h : Nat → Nat) : Nat → Nat → Nat
  | 0, k => if k = 0 then 1 else 0
  | d + 1, k => zwN h d k * (100 - h d) + (if k = 0 then 0 else zwN h d (k - 1) * h d)
def zsN (f : Nat → Nat) (t : Nat) : Nat → Nat
  | 0 => 0
  | c + 1 => zsN f t c + f (t + c)
theorem zwN_hi {h : Nat → Nat} : ∀ d k, d < k → zwN h d k = 0
  | 0, k, hk => if_neg (by omega)
  | d + 1, k, hk => by rw [zwN, zwN_hi d k (by omega), if_neg (by omega), zwN_hi d (k - 1) (by omega)]; omega
theorem zsN_step {h : Nat → Nat} {d : Nat} : ∀ c, zsN (zwN h (d + 1)) 0 (c + 1) = zsN (zwN h d) 0 (c + 1) * (100 - h d) + zsN (zwN h d) 0 c * h d
  | 0 => by simp [zsN, zwN]
  | c + 1 => by
    rw [zsN, zsN_step c, zwN, if_neg (by omega)]
    have e1 : zsN (zwN h d) 0 (c + 1 + 1) = zsN (zwN h d) 0 (c + 1) + zwN h d (0 + (c + 1)) := rfl
    have e2 : zsN (zwN h d) 0 (c + 1) = zsN (zwN h d) 0 c + zwN h d (0 + c) := rfl
    rw [e1, Nat.add_mul]
    have e3 : zsN (zwN h d) 0 (c + 1) * h d = zsN (zwN h d) 0 c * h d + zwN h d (0 + c) * h d := by rw [e2, Nat.add_mul]
    rw [e3, show 0 + (c + 1) - 1 = 0 + c by omega]
    omega
theorem zsN_all {h : Nat → Nat} (hh : ∀ f, h f ≤ 100) : ∀ d, zsN (zwN h d) 0 (d + 1) = 100 ^ d
  | 0 => by simp [zsN, zwN]
  | d + 1 => by
    rw [zsN_step]
    have e1 : zsN (zwN h d) 0 (d + 1 + 1) = zsN (zwN h d) 0 (d + 1) + zwN h d (0 + (d + 1)) := rfl
    rw [e1, zwN_hi d (0 + (d + 1)) (by omega), Nat.add_zero, zsN_all hh d, ← Nat.mul_add, Nat.pow_succ]
    have := hh d
    rw [show 100 - h d + h d = 100 by omega]
theorem zsN_le {f : Nat → Nat} {t : Nat} : ∀ c, zsN f t c ≤ zsN f 0 (t + c)
  | 0 => Nat.zero_le _
  | c + 1 => by
    have := zsN_le (f := f) (t := t) c
    show zsN f t c + f (t + c) ≤ zsN f 0 (t + c) + f (0 + (t + c))
    rw [Nat.zero_add]; omega
theorem p100_le {k : Nat} (h : k ≤ 9) : 100 ^ k ≤ 1000000000000000000 := Nat.le_trans (Nat.pow_le_pow_right (by decide) h) (by decide)
theorem aTail_N {W : Nat → Int64} {f : Nat → Nat} {t : Nat} : ∀ c, (∀ i, i < t + c → W i = lN (f i)) → aTail W t c = lN (zsN f t c)
  | 0, _ => rfl
  | c + 1, h => by rw [aTail, aTail_N c (fun i hi => h i (by omega)), h (t + c) (by omega), lN_add]; rfl
/-- the weight above the line -/
noncomputable def zAb (h : Nat → Nat) (D : Nat → Bool) (k : Nat) : Nat := zsN (zwN h k) (zpop (zset D k)) (k + 1 - zpop (zset D k))
theorem zAb_le {h : Nat → Nat} {D : Nat → Bool} {k : Nat} (hh : ∀ f, h f ≤ 100) (hp : zpop (zset D k) ≤ k + 1) : zAb h D k ≤ 100 ^ k := by
  rw [← zsN_all hh k]
  refine Nat.le_trans (zsN_le _) ?_
  rw [show zpop (zset D k) + (k + 1 - zpop (zset D k)) = k + 1 by omega]
  exact Nat.le_refl _
theorem zpop_k : ∀ n, n < 10 → ∀ s, s < 2 ^ n → zpop s ≤ n := by decide +kernel
theorem zW_step {h : Nat} {W : Nat → Int64} {H : Nat → Nat} {f : Nat} (hf : f < 9) (hH : H f ≤ 100) (e : h = H f) (hW : ∀ i, i ≤ 9 → W i = lN (zwN H f i)) : ∀ i, i ≤ 9 → aWp (nI h) W 0 (f + 1) i = lN (zwN H (f + 1) i) := by
  intro i hi
  subst e
  unfold aWp
  by_cases q : i ≤ f + 1
  · rw [if_pos ⟨Nat.zero_le _, q⟩]
    unfold aWk
    have e1 : (100 : Int32) - nI (H f) = nI (100 - H f) := pk_sub (a := 100) hH
    rw [e1, nI_l (by omega), nI_l (by omega), hW i hi, lN_mul, zwN]
    by_cases z : i = 0
    · rw [if_pos z, if_pos z]
      show _ + lN 0 = _
      rw [lN_add]
    · rw [if_neg z, if_neg z, hW (i - 1) (by omega), lN_mul, lN_add]
  · rw [if_neg (by omega), hW i hi, zwN_hi f i (by omega), zwN_hi (f + 1) i (by omega)]
theorem aW0_N {g : Nat → Int64} {H : Nat → Nat} : ∀ i, i ≤ 9 → aW0 g i = lN (zwN H 0 i) := by
  intro i hi
  unfold aW0 vp_updL zfill zwN
  by_cases q : i = 0
  · rw [if_pos q, if_pos q]; rfl
  · rw [if_neg q, if_neg q, if_pos (by omega)]; rfl
abbrev rm_X5_append : Room := { frames := 4, cells := 0, slots := 0, locals := 200 }
set_option maxRecDepth 100000 in
set_option maxHeartbeats 4000000 in
theorem k_X5_append (w : zW) (I : zI) (J : zJ) (L : Nat) (b : Int32) (hL : I 2 1 = nI L) (hl : L < 100) : zMet yX5_append cX5_append 2 none rm_X5_append w [.ref (zad w 2), .int b] I J (zpv (fun I' J' => I' = zup (zup I 3 (upd (I 3) L b)) 2 (upd (I 2) 1 (nI (L + 1))) ∧ J' = J)) := by
  refine zMet_of (by decide) (Nat.le_of_ble_eq_true rfl) (fun X C hm hr => ?_)
  refine z_sub (lv' := [(0, .ref (zad w 2)), (1, .int b)]) [0, 1] rfl ?_
  refine z_aload_n C dX5_append_0 rfl 0 rfl ?_
  refine z_geti C ff_X5_15 2 (by decide) sh2 rfl (v := nI L) hL dX5_append_1 ?_
  refine z_aload_n C dX5_append_4 rfl 0 rfl ?_
  refine z_getr C ff_X5_9 2 (by decide) sh2 rfl dX5_append_5 ?_
  refine z_alen C 3 (by decide) sh3 (by decide) (v := 100) (by decide) dX5_append_8 ?_
  refine z_icmp_ge_n L 100 (tgt := 32) C rfl rfl (by omega) (by omega) dX5_append_9 (by decide) (fun c9 => ?_) (fun c9 => ?_)
  · skip
    exact absurd c9 (by omega)
  · skip
    refine z_aload_n C dX5_append_12 rfl 0 rfl ?_
    refine z_getr C ff_X5_9 2 (by decide) sh2 rfl dX5_append_13 ?_
    refine z_aload_n C dX5_append_16 rfl 0 rfl ?_
    refine z_geti C ff_X5_15 2 (by decide) sh2 rfl (v := nI L) hL dX5_append_17 ?_
    refine z_iload_n C dX5_append_20 rfl 1 rfl ?_
    refine z_iast C 3 (by decide) sh3 L (by omega) (by decide) rfl dX5_append_21 ?_
    refine z_I (I' := zup I 3 (upd (I 3) L b)) rfl ?_
    refine z_aload_n C dX5_append_22 rfl 0 rfl ?_
    refine z_dup C dX5_append_23 rfl ?_
    refine z_geti C ff_X5_15 2 (by decide) sh2 rfl (v := nI L) (by first | exact hL | (simp [zup, zupJ, upd, vp_updL]; exact hL)) dX5_append_24 ?_
    refine z_iconst C (v := 1) dX5_append_27 (by decide) ?_
    refine z_iadd C dX5_append_28 ?_
    refine z_ti (y := nI (L + 1)) (nI_add L 1) ?_
    refine z_puti C ff_X5_15 2 (by decide) sh2 rfl rfl rfl dX5_append_29 ?_
    refine z_I (I' := zup (zup I 3 (upd (I 3) L b)) 2 (upd (I 2) 1 (nI (L + 1)))) (by first | rfl | (rw [zup_n] <;> omega)) ?_
    refine z_vret C hr dX5_append_32 ?_
    refine ⟨rfl, ?_⟩
    exact ⟨rfl, rfl⟩
theorem upd_id {f : Nat → Int32} {k : Nat} : upd f k (f k) = f := by
  funext j; unfold upd; split
  · rename_i h; rw [h]
  · rfl
abbrev rm_X7_feed : Room := { frames := 5, cells := 0, slots := 0, locals := 221 }
set_option maxRecDepth 100000 in
set_option maxHeartbeats 4000000 in
theorem k_X7_feed (w : zW) (I : zI) (J : zJ) (L : Nat) (x : Int32) (wn : Int32) (hL : I 2 1 = nI L) (hl : L ≤ 100) : zMet yX7_feed cX7_feed 4 (some .int) rm_X7_feed w [.ref (zad w 0), .int x, .int wn] I J (zpi (fun v I' J' => J' = J ∧ ((¬ zin wn 5 ∧ v = -2 ∧ I' = I) ∨ ∃ k, k < 5 ∧ wn = nI k ∧ ((100 < L + k ∧ v = -4 ∧ I' = I) ∨ (L + k ≤ 100 ∧ v = nI (L + k) ∧ ∃ R, I' = zup (zup I 3 R) 2 (upd (I 2) 1 (nI (L + k))) ∧ (∀ j, j < L → R j = I 3 j) ∧ ∀ q, q < k → R (L + q) = zby x (k - 1 - q)))))) := by
  refine zMet_of (by decide) (Nat.le_of_ble_eq_true rfl) (fun X C hm hr => ?_)
  refine z_sub (lv' := [(0, .ref (zad w 0)), (1, .int x), (2, .int wn)]) [0, 1, 2] rfl ?_
  refine z_iload_n C dX7_feed_0 rfl 2 rfl ?_
  refine z_if_lt (tgt := 9) C dX7_feed_1 (by decide) (fun c1 => ?_) (fun c1 => ?_)
  · skip
    refine z_bipush C (v := -2) dX7_feed_9 (by decide) ?_
    refine z_iret C hr rfl dX7_feed_11 ?_
    refine ⟨_, rfl, ?_⟩
    exact ⟨rfl, Or.inl ⟨zin_neg c1 (by decide), rfl, rfl⟩⟩
  · skip
    refine z_iload_n C dX7_feed_4 rfl 2 rfl ?_
    refine z_iconst C (v := 4) dX7_feed_5 (by decide) ?_
    refine z_icmp_le (tgt := 12) C dX7_feed_6 (by decide) (fun c6 => ?_) (fun c6 => ?_)
    · skip
      obtain ⟨k, hk, rfl⟩ := zin_le (m := 4) c1 (Int32.not_lt.mpr c6) (by decide)
      refine z_aload_n C dX7_feed_12 rfl 0 rfl ?_
      refine z_getr C ff_X7_18 0 (by decide) sh0 rfl dX7_feed_13 ?_
      refine z_geti C ff_X7_90 2 (by decide) sh2 rfl (v := nI L) hL dX7_feed_16 ?_
      refine z_iload_n C dX7_feed_19 rfl 2 rfl ?_
      refine z_iadd C dX7_feed_20 ?_
      refine z_ti (y := nI (L + k)) (nI_add L k) ?_
      refine z_bipush C (v := 100) dX7_feed_21 (by decide) ?_
      refine z_icmp_le_n (L + k) 100 (tgt := 29) C rfl rfl (by omega) (by omega) dX7_feed_23 (by decide) (fun c23 => ?_) (fun c23 => ?_)
      · skip
        refine z_iload_n C dX7_feed_29 rfl 2 rfl ?_
        refine z_iconst C (v := 1) dX7_feed_30 (by decide) ?_
        refine z_isub C dX7_feed_31 ?_
        refine z_istore_n C hm (lv' := [(3, .int ((nI k) - 1)), (0, .ref (zad w 0)), (1, .int x), (2, .int (nI k))]) dX7_feed_32 rfl (by decide) rfl ?_
        have L33 : ∀ (d : Nat) (m : Nat) (R : Nat → Int32) (v33_3 : Int32) (I33 : zI), m < d → (m ≤ k) → (∀ j, j < L → R j = I 3 j) → (∀ q, q < k - m → R (L + q) = zby x (k - 1 - q)) → v33_3 = nI m + Int32.ofInt (-1) → I33 = zup (zup I 3 R) 2 (upd (I 2) 1 (nI (L + (k - m)))) → Z X w I33 J 33 [(0, .ref (zad w 0)), (1, .int x), (2, .int (nI k)), (3, .int v33_3)] [] := by
          intro d
          induction d with
          | zero => intro m R v33_3 I33 hd; exact absurd hd (Nat.not_lt_zero _)
          | succ d ih33 => 
            intro m R v33_3 I33 hd33 hm2 hR1 hR2 e_v33_3 e_I33
            replace e_v33_3 := e_v33_3.symm; subst e_v33_3
            replace e_I33 := e_I33.symm; subst e_I33
            refine z_iload_n C dX7_feed_33 rfl 3 rfl ?_
            refine z_if_lt (tgt := 60) C dX7_feed_34 (by decide) (fun c34 => ?_) (fun c34 => ?_)
            · skip
              have hm0 : m = 0 := by
                cases m with
                | zero => rfl
                | succ j => exact absurd c34 (by rw [pm1]; exact nI_pos (by omega))
              subst hm0
              refine z_aload_n C dX7_feed_60 rfl 0 rfl ?_
              refine z_getr C ff_X7_18 0 (by decide) sh0 rfl dX7_feed_61 ?_
              refine z_geti C ff_X7_90 2 (by decide) sh2 rfl (v := nI (L + k)) (by first | exact rfl | (simp [zup, zupJ, upd, vp_updL]; exact rfl)) dX7_feed_64 ?_
              refine z_iret C hr rfl dX7_feed_67 ?_
              refine ⟨_, rfl, ?_⟩
              exact ⟨rfl, Or.inr ⟨k, hk, rfl, Or.inr ⟨by omega, rfl, R, rfl, hR1, hR2⟩⟩⟩
            · skip
              obtain ⟨j, rfl⟩ : ∃ j, m = j + 1 := by
                cases m with
                | zero => exact absurd pm1_0 c34
                | succ j => exact ⟨j, rfl⟩
              rw [pm1]
              refine z_aload_n C dX7_feed_37 rfl 0 rfl ?_
              refine z_getr C ff_X7_18 0 (by decide) sh0 rfl dX7_feed_38 ?_
              refine z_iload_n C dX7_feed_41 rfl 1 rfl ?_
              refine z_bipush C (v := 8) dX7_feed_42 (by decide) ?_
              refine z_iload_n C dX7_feed_44 rfl 3 rfl ?_
              refine z_imul C dX7_feed_45 ?_
              refine z_ti (y := nI (8 * j)) (pk_mul 8 j) ?_
              refine z_iushr C (v := (x.toUInt32 >>> ((nI (8 * j)).toUInt32 &&& Int32.toUInt32 31)).toInt32) dX7_feed_46 rfl ?_
              refine z_sipush C (v := 255) dX7_feed_47 (by decide) ?_
              refine z_iand C dX7_feed_50 ?_
              refine z_ti (y := zby x j) rfl ?_
              refine z_callVv C hm cl_X7_93 cv_X5_append 2 (by decide) sh2 ⟨_, _, rfl⟩ [.int (zby x j)] rfl (rest := []) rfl (k_X5_append w _ _ (L + (k - (j + 1))) (zby x j) (by exact rfl) (by omega)) ⟨rfl, rfl, Nat.le_of_ble_eq_true rfl, Nat.le_of_ble_eq_true rfl⟩ (Nat.le_of_ble_eq_true rfl) dX7_feed_51 (fun I_1 J_1 h_1 => ?_)
              obtain ⟨ei_1, ej_1⟩ := h_1
              replace ei_1 := ei_1.symm; subst ei_1
              replace ej_1 := ej_1.symm; subst ej_1
              refine z_I (I' := zup (zup I 3 (upd R (L + (k - (j + 1))) (zby x j))) 2 (upd (upd (I 2) 1 (nI (L + (k - (j + 1))))) 1 (nI ((L + (k - (j + 1))) + 1)))) (by funext zk; simp only [zup]; split <;> simp_all [zup]) ?_
              refine z_iinc C hm 3 (v := (nI j) + Int32.ofInt (-1)) (lv' := [(3, .int ((nI j) + Int32.ofInt (-1))), (0, .ref (zad w 0)), (1, .int x), (2, .int (nI k))]) dX7_feed_54 rfl rfl (by decide) rfl ?_
              refine z_goto (tgt := 33) C dX7_feed_57 (by decide) ?_
              exact z_sub [1, 2, 3, 0] rfl (ih33  j (upd R (L + (k - (j + 1))) (zby x j)) _ _ (by omega) (by omega) (fun q hq => by rw [upd_n (by omega)]; exact hR1 q hq) (fun q hq => by
                  by_cases z : q = k - (j + 1)
                  · subst z; rw [upd_s]; congr 1; omega
                  · rw [upd_n (by omega)]; exact hR2 q (by omega)) rfl (by rw [show k - j = k - (j + 1) + 1 by omega, upd_2]; rfl))
        exact z_sub [1, 2, 3, 0] rfl (L33 _ k (I 3) _ _ (Nat.lt_succ_self _) (by omega) (fun _ _ => rfl) (fun q hq => absurd hq (by omega)) (m1s _) (by rw [show k - k = 0 by omega, Nat.add_zero, ← hL, upd_id, zup_id, zup_id]))
      · skip
        refine z_bipush C (v := -4) dX7_feed_26 (by decide) ?_
        refine z_iret C hr rfl dX7_feed_28 ?_
        refine ⟨_, rfl, ?_⟩
        exact ⟨rfl, Or.inr ⟨k, hk, rfl, Or.inl ⟨by omega, rfl, rfl⟩⟩⟩
    · skip
      refine z_bipush C (v := -2) dX7_feed_9 (by decide) ?_
      refine z_iret C hr rfl dX7_feed_11 ?_
      refine ⟨_, rfl, ?_⟩
      exact ⟨rfl, Or.inl ⟨zin_gt (m := 4) (Int32.not_le.mp c6) (by decide), rfl, rfl⟩⟩
abbrev rm_X7_weighAgain : Room := { frames := 8, cells := 0, slots := 0, locals := 303 }
set_option maxRecDepth 100000 in
set_option maxHeartbeats 4000000 in
theorem k_X7_weighAgain (w : zW) (I : zI) (J : zJ) (n tr : Nat) (h : Nat) (A : List zCla) (bu fr : Nat → Nat) (a : Nat) (k : Nat) (hn : n ≤ 8) (hT : I 5 8 = nI tr) (htr : tr ≤ 16) (hh : h < 7) (hH : I 5 2 = nI h) (hL : cLaw I h A) (hB : ∀ t, t < tr → I 9 t = nI (bu t) ∧ bu t < n) (hF : ∀ t, t < tr → I 10 t = nI (fr t) ∧ fr t < 9) (ha : a < n) (hk : k ≤ 9) : zMet yX7_weighAgain cX7_weighAgain 4 none rm_X7_weighAgain w [.ref (zad w 0), .int (nI a), .int (nI k)] I J (zpv (fun I' J' => (∃ R, I' = zup I 30 R) ∧ ∃ W O, J' = zupJ (zupJ J 31 W) 30 O ∧ O 2 = lN (zAb (fun f => aHab (nI a) (I 1 a) (nI f) A) (zDy bu fr a tr) k) ∧ O 3 = lN (100 ^ k))) := by
  refine zMet_of (by decide) (Nat.le_of_ble_eq_true rfl) (fun X C hm hr => ?_)
  refine z_sub (lv' := [(0, .ref (zad w 0)), (1, .int (nI a)), (2, .int (nI k))]) [0, 1, 2] rfl ?_
  have hh100 : ∀ f, (fun f => aHab (nI a) (I 1 a) (nI f) A) f ≤ 100 := fun f => aHab_le
  have hbu8 : ∀ t, t < tr → I 9 t = nI (bu t) ∧ bu t < 8 := fun t ht => ⟨(hB t ht).1, by have := (hB t ht).2; omega⟩
  refine z_aload_n C dX7_weighAgain_0 rfl 0 rfl ?_
  refine z_getr C ff_X7_38 0 (by decide) sh0 rfl dX7_weighAgain_1 ?_
  refine z_callVv C hm cl_X7_219 cv_X2_start 30 (by decide) sh30 ⟨_, _, rfl⟩ [] rfl (rest := []) rfl (k_X2_start w _ _   ) ⟨rfl, rfl, Nat.le_of_ble_eq_true rfl, Nat.le_of_ble_eq_true rfl⟩ (Nat.le_of_ble_eq_true rfl) dX7_weighAgain_4 (fun I_1 J_1 h_1 => ?_)
  obtain ⟨ei_1, ej_1⟩ := h_1
  replace ei_1 := ei_1.symm; subst ei_1
  replace ej_1 := ej_1.symm; subst ej_1
  refine z_iconst C (v := 0) dX7_weighAgain_7 (by decide) ?_
  refine z_istore_n C hm (lv' := [(3, .int 0), (0, .ref (zad w 0)), (1, .int (nI a)), (2, .int (nI k))]) dX7_weighAgain_8 rfl (by decide) rfl ?_
  have L9 : ∀ (d : Nat) (f : Nat) (W O : Nat → Int64) (v9_3 : Int32) (I9 : zI) (J9 : zJ), (k - f) < d → (f ≤ k) → (∀ i, i ≤ 9 → W i = lN (zwN (fun f => aHab (nI a) (I 1 a) (nI f) A) f i)) → (O 3 = lN (100 ^ f)) → v9_3 = nI f → I9 = zup I 30 (upd (I 30) 1 (nI f)) → J9 = zupJ (zupJ J 31 W) 30 O → Z X w I9 J9 9 [(0, .ref (zad w 0)), (1, .int (nI a)), (2, .int (nI k)), (3, .int v9_3)] [] := by
    intro d
    induction d with
    | zero => intro f W O v9_3 I9 J9 hd; exact absurd hd (Nat.not_lt_zero _)
    | succ d ih9 => 
      intro f W O v9_3 I9 J9 hd9 hf hW hX e_v9_3 e_I9 e_J9
      replace e_v9_3 := e_v9_3.symm; subst e_v9_3
      replace e_I9 := e_I9.symm; subst e_I9
      replace e_J9 := e_J9.symm; subst e_J9
      refine z_iload_n C dX7_weighAgain_9 rfl 3 rfl ?_
      refine z_iload_n C dX7_weighAgain_10 rfl 2 rfl ?_
      refine z_icmp_ge_n f k (tgt := 33) C rfl rfl (by omega) (by omega) dX7_weighAgain_11 (by decide) (fun c11 => ?_) (fun c11 => ?_)
      · skip
        have hfk : f = k := by omega
        subst hfk
        refine z_aload_n C dX7_weighAgain_33 rfl 0 rfl ?_
        refine z_getr C ff_X7_62 0 (by decide) sh0 rfl dX7_weighAgain_34 ?_
        refine z_iload_n C dX7_weighAgain_37 rfl 1 rfl ?_
        refine z_callVi C hm cl_X7_184 cv_X6_fridaysOf 5 (by decide) sh5 ⟨_, _, rfl⟩ [.int (nI a)] rfl (rest := []) rfl (k_X6_fridaysOf w _ _ tr (nI a) htr (by exact hT)) ⟨rfl, rfl, Nat.le_of_ble_eq_true rfl, Nat.le_of_ble_eq_true rfl⟩ (Nat.le_of_ble_eq_true rfl) dX7_weighAgain_38 (fun v_2 I_2 J_2 h_2 => ?_)
        obtain ⟨ev_2, ei_2, ej_2⟩ := h_2
        replace ev_2 := ev_2.symm; subst ev_2
        replace ei_2 := ei_2.symm; subst ei_2
        replace ej_2 := ej_2.symm; subst ej_2
        refine z_ti (y := nI (zset (zDy bu fr a tr) 9)) (aDays_n (by omega) hbu8 hF tr (Nat.le_refl _)) ?_
        refine z_iconst C (v := 1) dX7_weighAgain_41 (by decide) ?_
        refine z_iload_n C dX7_weighAgain_42 rfl 2 rfl ?_
        refine z_ishl C dX7_weighAgain_43 ?_
        refine z_ti (y := nI (2 ^ f)) (shl1 (by omega)) ?_
        refine z_iconst C (v := 1) dX7_weighAgain_44 (by decide) ?_
        refine z_isub C dX7_weighAgain_45 ?_
        refine z_ti (y := nI (2 ^ f - 1)) (pk_sub (b := 1) (Nat.one_le_two_pow)) ?_
        refine z_iand C dX7_weighAgain_46 ?_
        refine z_ti (y := nI (zset (zDy bu fr a tr) f)) (by
            rw [pk_andN (Nat.lt_of_lt_of_le (zset_lt 9) (by decide)) f (by
              show (BitVec.ofNat 32 (2 ^ f - 1)).toNat = _
              rw [BitVec.toNat_ofNat]; exact Nat.mod_eq_of_lt (Nat.lt_of_le_of_lt (Nat.sub_le _ _) (Nat.pow_lt_pow_right (by decide) (by omega)))), zset_mod (by omega)]) ?_
        refine z_callSi C hm cl_X7_138 cs_J6_bitCount_0f7a4 [.int (nI (zset (zDy bu fr a tr) f))] rfl (rest := []) rfl (k_J6_bitCount_0f7a4 w _ _  (nI (zset (zDy bu fr a tr) f)) ) ⟨rfl, rfl, Nat.le_of_ble_eq_true rfl, Nat.le_of_ble_eq_true rfl⟩ (Nat.le_of_ble_eq_true rfl) dX7_weighAgain_47 (fun v_3 I_3 J_3 h_3 => ?_)
        obtain ⟨ev_3, ei_3, ej_3⟩ := h_3
        replace ev_3 := ev_3.symm; subst ev_3
        replace ei_3 := ei_3.symm; subst ei_3
        replace ej_3 := ej_3.symm; subst ej_3
        refine z_ti (y := nI (zpop (zset (zDy bu fr a tr) f))) (zbc_pop _ (Nat.lt_of_lt_of_le (zset_lt f) (Nat.le_trans (Nat.pow_le_pow_right (by decide) (show f ≤ 9 by omega)) (by decide)))) ?_
        refine z_istore_n C hm (lv' := [(3, .int (nI (zpop (zset (zDy bu fr a tr) f)))), (0, .ref (zad w 0)), (1, .int (nI a)), (2, .int (nI f))]) dX7_weighAgain_50 rfl (by decide) rfl ?_
        refine z_aload_n C dX7_weighAgain_51 rfl 1 rfl ?_
        refine z_getr C ff_X7_38 0 (by decide) sh0 rfl dX7_weighAgain_52 ?_
        refine z_iload_n C dX7_weighAgain_55 rfl 0 rfl ?_
        refine z_callVv C hm cl_X7_225 cv_X2_atLeast 30 (by decide) sh30 ⟨_, _, rfl⟩ [.int (nI (zpop (zset (zDy bu fr a tr) f)))] rfl (rest := []) rfl (k_X2_atLeast w _ _ f (zpop (zset (zDy bu fr a tr) f)) (by exact rfl) hk (by have := zpop_k f (by omega) _ (zset_lt (P := (zDy bu fr a tr)) f); omega)) ⟨rfl, rfl, Nat.le_of_ble_eq_true rfl, Nat.le_of_ble_eq_true rfl⟩ (Nat.le_of_ble_eq_true rfl) dX7_weighAgain_56 (fun I_4 J_4 h_4 => ?_)
        obtain ⟨ei_4, ej_4⟩ := h_4
        replace ei_4 := ei_4.symm; subst ei_4
        replace ej_4 := ej_4.symm; subst ej_4
        refine z_J (J' := zupJ (zupJ J 31 W) 30 (vp_updL O 2 (aTail W (zpop (zset (zDy bu fr a tr) f)) (f + 1 - (zpop (zset (zDy bu fr a tr) f)))))) (by funext zk; simp only [zupJ]; split <;> simp_all [zupJ]) ?_
        refine z_vret C hr dX7_weighAgain_59 ?_
        refine ⟨rfl, ?_⟩
        exact ⟨⟨_, rfl⟩, W, _, rfl, aTail_N _ (fun i hi => hW i (by have := zpop_k f (by omega) _ (zset_lt (P := (zDy bu fr a tr)) f); omega)), hX⟩
      · skip
        refine z_aload_n C dX7_weighAgain_14 rfl 0 rfl ?_
        refine z_getr C ff_X7_38 0 (by decide) sh0 rfl dX7_weighAgain_15 ?_
        refine z_aload_n C dX7_weighAgain_18 rfl 0 rfl ?_
        refine z_iload_n C dX7_weighAgain_19 rfl 1 rfl ?_
        refine z_iload_n C dX7_weighAgain_20 rfl 3 rfl ?_
        refine z_callVi C hm cl_X7_115 cv_X7_habitOf 0 (by decide) sh0 ⟨_, _, rfl⟩ [.int (nI a), .int (nI f)] rfl (rest := [.ref (zad w 30)]) rfl (k_X7_habitOf w _ _ h A a (nI f) (by omega) hh (by exact hH) (cLaw_z (Or.inl (by decide)) hh hL)) ⟨rfl, rfl, Nat.le_of_ble_eq_true rfl, Nat.le_of_ble_eq_true rfl⟩ (Nat.le_of_ble_eq_true rfl) dX7_weighAgain_21 (fun v_5 I_5 J_5 h_5 => ?_)
        obtain ⟨ev_5, ei_5, ej_5⟩ := h_5
        replace ev_5 := ev_5.symm; subst ev_5
        replace ei_5 := ei_5.symm; subst ei_5
        replace ej_5 := ej_5.symm; subst ej_5
        refine z_callVv C hm cl_X7_222 cv_X2_addFriday 30 (by decide) sh30 ⟨_, _, rfl⟩ [.int (nI (aHab (nI a) (I 1 a) (nI f) A))] rfl (rest := []) rfl (k_X2_addFriday w _ _ f (nI (aHab (nI a) (I 1 a) (nI f) A)) (by exact rfl) (by omega)) ⟨rfl, rfl, Nat.le_of_ble_eq_true rfl, Nat.le_of_ble_eq_true rfl⟩ (Nat.le_of_ble_eq_true rfl) dX7_weighAgain_24 (fun I_6 J_6 h_6 => ?_)
        obtain ⟨ei_6, ej_6⟩ := h_6
        replace ei_6 := ei_6.symm; subst ei_6
        replace ej_6 := ej_6.symm; subst ej_6
        refine z_I (I' := zup I 30 (upd (upd (I 30) 1 (nI f)) 1 (nI (f + 1)))) (by funext zk; simp only [zup]; split <;> simp_all [zup]) ?_
        refine z_J (J' := zupJ (zupJ J 31 (aWp (nI (aHab (nI a) (I 1 a) (nI f) A)) W 0 (f + 1))) 30 (vp_updL O 3 ((O 3) * 100))) (by funext zk; simp only [zupJ]; split <;> simp_all [zupJ]) ?_
        refine z_iinc C hm 3 (v := nI (f + 1)) (lv' := [(3, .int (nI (f + 1))), (0, .ref (zad w 0)), (1, .int (nI a)), (2, .int (nI k))]) dX7_weighAgain_27 rfl (nI_add f 1) (by decide) rfl ?_
        refine z_goto (tgt := 9) C dX7_weighAgain_30 (by decide) ?_
        exact z_sub [1, 2, 3, 0] rfl (ih9  (f + 1) (aWp (nI ((fun f => aHab (nI a) (I 1 a) (nI f) A) f)) W 0 (f + 1)) (vp_updL O 3 (O 3 * 100)) _ _ _ (by omega) (by omega) (zW_step (H := fun f => aHab (nI a) (I 1 a) (nI f) A) (by omega) (hh100 f) rfl hW) (by show O 3 * 100 = _; rw [hX]; show lN _ * lN 100 = _; rw [lN_mul, Nat.pow_succ]) rfl (by rw [upd_2]) rfl)
  exact z_sub [1, 2, 3, 0] rfl (L9 _ 0 (aW0 (J 31)) (vp_updL (J 30) 3 1) _ _ _ (Nat.lt_succ_self _) (by omega) aW0_N rfl rfl rfl rfl)
