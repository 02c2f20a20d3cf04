/-! again, oddest, rings -/
def frO (I' I : zI) : Prop := ∀ k, k ≠ 30 → I' k = I k
def frP (J' J : zJ) : Prop := ∀ k, k ≠ 30 → k ≠ 31 → J' k = J k
theorem frO_id {I : zI} : frO I I := fun _ _ => rfl
theorem frP_id {J : zJ} : frP J J := fun _ _ _ => rfl
theorem frO_u {I : zI} {R : Nat → Int32} : frO (zup I 30 R) I := fun k h => by simp only [zup]; rw [if_neg h]
theorem frP_u {J : zJ} {W O : Nat → Int64} : frP (zupJ (zupJ J 31 W) 30 O) J := fun k h h2 => by simp only [zupJ]; rw [if_neg h, if_neg h2]
def zAgT (S B n : Nat) (wh : Int32) : Nat := if wh = 1 then min (S * n) B else S
def zAg (S B n : Nat) (wh pt : Int32) : Int64 := if pt = 0 then lN (zAgT S B n wh / Nat.gcd (zAgT S B n wh) B) else lN (B / Nat.gcd (zAgT S B n wh) B)
theorem mul_N {x y : Int64} {S B n : Nat} (hx : x = lN S) (hy : y = lN B) (hS : S ≤ B) (hB : B ≤ 1000000000000000000) (hn : n ≤ 8) : (if y < x * (nI n).toInt64 then y else x * (nI n).toInt64) = lN (min (S * n) B) := by
  have hm : S * n ≤ 1000000000000000000 * 8 := Nat.mul_le_mul (Nat.le_trans hS hB) hn
  rw [hx, hy, nI_l (by omega), lN_mul]
  by_cases q : B < S * n
  · rw [if_pos ((pk_lLT (by omega) (by omega)).mpr q), Nat.min_eq_right (by omega)]
  · rw [if_neg (fun z => q ((pk_lLT (by omega) (by omega)).mp z)), Nat.min_eq_left (by omega)]
/-- those with the same days, of a name that has any -/
def zAl (D : Nat → Nat) (a : Nat) : Nat → Bool := fun o => decide (D a ≠ 0 ∧ D o = D a)
def zPr (D : Nat → Nat) (n : Nat) : Nat → Nat
  | 0 => 0
  | a + 1 => zPr D n a + zpop (zset (zAl D a) n / 2 ^ (a + 1))
def zRg (D : Nat → Nat) (n : Nat) : Nat → Nat
  | 0 => 0
  | a + 1 => if 2 ≤ zpop (zset (zAl D a) n) ∧ (zpop (zRg D n a) < zpop (zset (zAl D a) n) ∨ (zpop (zset (zAl D a) n) = zpop (zRg D n a) ∧ zset (zAl D a) n < zRg D n a)) then zset (zAl D a) n else zRg D n a
theorem zRg_lt {D : Nat → Nat} {n : Nat} : ∀ a, zRg D n a < 2 ^ n
  | 0 => Nat.two_pow_pos n
  | a + 1 => by
    rw [zRg]; split
    · exact zset_lt n
    · exact zRg_lt a
theorem zPr_le {D : Nat → Nat} {n : Nat} : ∀ a, zPr D n a ≤ 9 * a
  | 0 => Nat.le_refl _
  | a + 1 => by
    have := zPr_le (D := D) (n := n) a
    have := zpop_le (zset (zAl D a) n / 2 ^ (a + 1))
    rw [zPr]; omega
abbrev rm_X7_again : Room := { frames := 9, cells := 0, slots := 0, locals := 326 }
set_option maxRecDepth 100000 in
set_option maxHeartbeats 4000000 in
theorem k_X7_again (w : zW) (I : zI) (J : zJ) (n tr : Nat) (h : Nat) (A : List zCla) (bu fr : Nat → Nat) (x : Int32) (y : Int32) (wh : Int32) (pt : Int32) (hN : I 0 1 = nI n) (hn : n ≤ 8) (hT : I 5 8 = nI tr) (htr : tr ≤ 16) (hh : h < 7) (hH : I 5 2 = nI h) (hL : cLaw I h A) (hB : ∀ t, t < tr → I 9 t = nI (bu t) ∧ bu t < n) (hF : ∀ t, t < tr → I 10 t = nI (fr t) ∧ fr t < 9) : zMet yX7_again cX7_again 5 (some .long) rm_X7_again w [.ref (zad w 0), .int x, .int y, .int wh, .int pt] I J (zpl (fun v I' J' => v = cif (zin x n ∧ zin y 10 ∧ zin wh 2 ∧ zin pt 2) (zAg (zAb (fun f => aHab x (I 1 (zn x)) (nI f) A) (zDy bu fr (zn x) tr) (zn y)) (100 ^ zn y) n wh pt) (-9223372036854775808) ∧ frO I' I ∧ frP J' J)) := by
  refine zMet_of (by decide) (Nat.le_of_ble_eq_true rfl) (fun X C hm hr => ?_)
  refine z_sub (lv' := [(0, .ref (zad w 0)), (1, .int x), (2, .int y), (3, .int wh), (4, .int pt)]) [0, 1, 2, 3, 4] rfl ?_
  refine z_aload_n C dX7_again_0 rfl 0 rfl ?_
  refine z_iload_n C dX7_again_1 rfl 1 rfl ?_
  refine z_callVi C hm cl_X7_77 cv_X7_isName 0 (by decide) sh0 ⟨_, _, rfl⟩ [.int x] rfl (rest := []) rfl (k_X7_isName w _ _ n x hN hn) ⟨rfl, rfl, Nat.le_of_ble_eq_true rfl, Nat.le_of_ble_eq_true rfl⟩ (Nat.le_of_ble_eq_true rfl) dX7_again_2 (fun v_1 I_1 J_1 h_1 => ?_)
  obtain ⟨ev_1, ei_1, ej_1⟩ := h_1
  replace ev_1 := ev_1.symm; subst ev_1
  replace ei_1 := ei_1.symm; subst ei_1
  replace ej_1 := ej_1.symm; subst ej_1
  refine z_ifeq_b (tgt := 38) C dX7_again_5 (by decide) (fun c5 => ?_) (fun c5 => ?_)
  · skip
    refine z_ldc2 C (v := -9223372036854775808) kl_X7_187 dX7_again_38 ?_
    refine z_lret C hr dX7_again_41 ?_
    refine ⟨_, rfl, ?_⟩
    exact ⟨by rw [cif_f (fun q => c5 q.1)], frO_id, frP_id⟩
  · skip
    obtain ⟨a, ha, rfl⟩ := c5
    refine z_iload_n C dX7_again_8 rfl 2 rfl ?_
    refine z_if_lt (tgt := 38) C dX7_again_9 (by decide) (fun c9 => ?_) (fun c9 => ?_)
    · skip
      refine z_ldc2 C (v := -9223372036854775808) kl_X7_187 dX7_again_38 ?_
      refine z_lret C hr dX7_again_41 ?_
      refine ⟨_, rfl, ?_⟩
      exact ⟨by rw [cif_f (fun q => zin_neg c9 (by decide) q.2.1)], frO_id, frP_id⟩
    · skip
      refine z_iload_n C dX7_again_12 rfl 2 rfl ?_
      refine z_bipush C (v := 9) dX7_again_13 (by decide) ?_
      refine z_icmp_gt (tgt := 38) C dX7_again_15 (by decide) (fun c15 => ?_) (fun c15 => ?_)
      · skip
        refine z_ldc2 C (v := -9223372036854775808) kl_X7_187 dX7_again_38 ?_
        refine z_lret C hr dX7_again_41 ?_
        refine ⟨_, rfl, ?_⟩
        exact ⟨by rw [cif_f (fun q => zin_gt (m := 9) c15 (by decide) q.2.1)], frO_id, frP_id⟩
      · skip
        refine z_iload_n C dX7_again_18 rfl 3 rfl ?_
        refine z_if_lt (tgt := 38) C dX7_again_19 (by decide) (fun c19 => ?_) (fun c19 => ?_)
        · skip
          refine z_ldc2 C (v := -9223372036854775808) kl_X7_187 dX7_again_38 ?_
          refine z_lret C hr dX7_again_41 ?_
          refine ⟨_, rfl, ?_⟩
          exact ⟨by rw [cif_f (fun q => zin_neg c19 (by decide) q.2.2.1)], frO_id, frP_id⟩
        · skip
          refine z_iload_n C dX7_again_22 rfl 3 rfl ?_
          refine z_iconst C (v := 1) dX7_again_23 (by decide) ?_
          refine z_icmp_gt (tgt := 38) C dX7_again_24 (by decide) (fun c24 => ?_) (fun c24 => ?_)
          · skip
            refine z_ldc2 C (v := -9223372036854775808) kl_X7_187 dX7_again_38 ?_
            refine z_lret C hr dX7_again_41 ?_
            refine ⟨_, rfl, ?_⟩
            exact ⟨by rw [cif_f (fun q => zin_gt (m := 1) c24 (by decide) q.2.2.1)], frO_id, frP_id⟩
          · skip
            refine z_iload C dX7_again_27 4 rfl ?_
            refine z_if_lt (tgt := 38) C dX7_again_29 (by decide) (fun c29 => ?_) (fun c29 => ?_)
            · skip
              refine z_ldc2 C (v := -9223372036854775808) kl_X7_187 dX7_again_38 ?_
              refine z_lret C hr dX7_again_41 ?_
              refine ⟨_, rfl, ?_⟩
              exact ⟨by rw [cif_f (fun q => zin_neg c29 (by decide) q.2.2.2)], frO_id, frP_id⟩
            · skip
              refine z_iload C dX7_again_32 4 rfl ?_
              refine z_iconst C (v := 1) dX7_again_34 (by decide) ?_
              refine z_icmp_le (tgt := 42) C dX7_again_35 (by decide) (fun c35 => ?_) (fun c35 => ?_)
              · skip
                obtain ⟨k, hk, rfl⟩ := zin_le (m := 9) c9 c15 (by decide)
                have hS := zAb_le (h := fun f => aHab (nI a) (I 1 a) (nI f) A) (D := zDy bu fr a tr) (k := k) (fun f => aHab_le) (by have := zpop_k k (by omega) _ (zset_lt (P := zDy bu fr a tr) k); omega)
                have hB9 := p100_le (k := k) (by omega)
                have hB0 : 0 < 100 ^ k := Nat.pow_pos (by decide)
                refine z_aload_n C dX7_again_42 rfl 0 rfl ?_
                refine z_iload_n C dX7_again_43 rfl 1 rfl ?_
                refine z_iload_n C dX7_again_44 rfl 2 rfl ?_
                refine z_callVv C hm cl_X7_189 cv_X7_weighAgain 0 (by decide) sh0 ⟨_, _, rfl⟩ [.int (nI a), .int (nI k)] rfl (rest := []) rfl (k_X7_weighAgain w _ _ n tr h A bu fr a k hn (by exact hT) (by exact htr) hh (by exact hH) hL (by exact hB) (by exact hF) ha (by omega)) ⟨rfl, rfl, Nat.le_of_ble_eq_true rfl, Nat.le_of_ble_eq_true rfl⟩ (Nat.le_of_ble_eq_true rfl) dX7_again_45 (fun I_2 J_2 h_2 => ?_)
                obtain ⟨⟨R_2, eI_2⟩, W_2, O_2, eJ_2, hA_2, hB_2⟩ := h_2
                replace eJ_2 := eJ_2.symm; subst eJ_2
                replace eI_2 := eI_2.symm; subst eI_2
                refine z_iload_n C dX7_again_48 rfl 3 rfl ?_
                refine z_iconst C (v := 1) dX7_again_49 (by decide) ?_
                refine z_icmp_ne (tgt := 64) C dX7_again_50 (by decide) (fun c50 => ?_) (fun c50 => ?_)
                · skip
                  refine z_aload_n C dX7_again_64 rfl 0 rfl ?_
                  refine z_getr C ff_X7_38 0 (by decide) sh0 rfl dX7_again_65 ?_
                  refine z_callVv C hm cl_X7_196 cv_X2_reduce 30 (by decide) sh30 ⟨_, _, rfl⟩ [] rfl (rest := []) rfl (k_X2_reduce w _ _ (zAb (fun f => aHab (nI a) (I 1 a) (nI f) A) (zDy bu fr a tr) k) (100 ^ k)  (by exact hA_2) (by exact hB_2) hS hB0 (by omega)) ⟨rfl, rfl, Nat.le_of_ble_eq_true rfl, Nat.le_of_ble_eq_true rfl⟩ (Nat.le_of_ble_eq_true rfl) dX7_again_68 (fun I_3 J_3 h_3 => ?_)
                  obtain ⟨ei_3, ej_3⟩ := h_3
                  replace ei_3 := ei_3.symm; subst ei_3
                  replace ej_3 := ej_3.symm; subst ej_3
                  refine z_J (J' := zupJ (zupJ J 31 W_2) 30 (vp_updL (vp_updL O_2 2 (lN ((zAb (fun f => aHab (nI a) (I 1 a) (nI f) A) (zDy bu fr a tr) k) / Nat.gcd (zAb (fun f => aHab (nI a) (I 1 a) (nI f) A) (zDy bu fr a tr) k) (100 ^ k)))) 3 (lN ((100 ^ k) / Nat.gcd (zAb (fun f => aHab (nI a) (I 1 a) (nI f) A) (zDy bu fr a tr) k) (100 ^ k))))) (by funext zk; simp only [zupJ]; split <;> simp_all [zupJ]) ?_
                  refine z_iload C dX7_again_71 4 rfl ?_
                  refine z_if_ne (tgt := 86) C dX7_again_73 (by decide) (fun c73 => ?_) (fun c73 => ?_)
                  · skip
                    refine z_aload_n C dX7_again_86 rfl 0 rfl ?_
                    refine z_getr C ff_X7_38 0 (by decide) sh0 rfl dX7_again_87 ?_
                    refine z_getl C ff_X7_203 30 (by decide) sh30 rfl (v := lN ((100 ^ k) / Nat.gcd (zAb (fun f => aHab (nI a) (I 1 a) (nI f) A) (zDy bu fr a tr) k) (100 ^ k))) (by first | rfl | (simp [zup, zupJ, upd, vp_updL]; done)) dX7_again_90 ?_
                    refine z_lret C hr dX7_again_93 ?_
                    refine ⟨_, rfl, ?_⟩
                    exact ⟨by
                        rw [cif_t ⟨⟨a, ha, rfl⟩, ⟨k, hk, rfl⟩, zin_le (m := 1) c19 c24 (by decide), zin_le (m := 1) c29 (Int32.not_lt.mpr c35) (by decide)⟩, zn_n (by omega), zn_n (by omega), zAg, zAgT, if_neg c73, if_neg c50]
                        try rfl, frO_u, frP_u⟩
                  · skip
                    refine z_aload_n C dX7_again_76 rfl 0 rfl ?_
                    refine z_getr C ff_X7_38 0 (by decide) sh0 rfl dX7_again_77 ?_
                    refine z_getl C ff_X7_199 30 (by decide) sh30 rfl (v := lN ((zAb (fun f => aHab (nI a) (I 1 a) (nI f) A) (zDy bu fr a tr) k) / Nat.gcd (zAb (fun f => aHab (nI a) (I 1 a) (nI f) A) (zDy bu fr a tr) k) (100 ^ k))) (by first | rfl | (simp [zup, zupJ, upd, vp_updL]; done)) dX7_again_80 ?_
                    refine z_goto (tgt := 93) C dX7_again_83 (by decide) ?_
                    refine z_lret C hr dX7_again_93 ?_
                    refine ⟨_, rfl, ?_⟩
                    exact ⟨by
                        rw [cif_t ⟨⟨a, ha, rfl⟩, ⟨k, hk, rfl⟩, zin_le (m := 1) c19 c24 (by decide), zin_le (m := 1) c29 (Int32.not_lt.mpr c35) (by decide)⟩, zn_n (by omega), zn_n (by omega), zAg, zAgT, if_pos c73, if_neg c50]
                        try rfl, frO_u, frP_u⟩
                · skip
                  refine z_aload_n C dX7_again_53 rfl 0 rfl ?_
                  refine z_getr C ff_X7_38 0 (by decide) sh0 rfl dX7_again_54 ?_
                  refine z_aload_n C dX7_again_57 rfl 0 rfl ?_
                  refine z_geti C ff_X7_73 0 (by decide) sh0 rfl (v := nI n) (by first | exact hN | (simp [zup, zupJ, upd, vp_updL]; exact hN)) dX7_again_58 ?_
                  refine z_callVv C hm cl_X7_193 cv_X2_multiply 30 (by decide) sh30 ⟨_, _, rfl⟩ [.int (nI n)] rfl (rest := []) rfl (k_X2_multiply w _ _  (nI n) ) ⟨rfl, rfl, Nat.le_of_ble_eq_true rfl, Nat.le_of_ble_eq_true rfl⟩ (Nat.le_of_ble_eq_true rfl) dX7_again_61 (fun I_4 J_4 h_4 => ?_)
                  obtain ⟨ei_4, ej_4⟩ := h_4
                  replace ei_4 := ei_4.symm; subst ei_4
                  replace ej_4 := ej_4.symm; subst ej_4
                  refine z_J (J' := zupJ (zupJ J 31 W_2) 30 (vp_updL O_2 2 (if O_2 3 < O_2 2 * (nI n).toInt64 then O_2 3 else O_2 2 * (nI n).toInt64))) (by funext zk; simp only [zupJ]; split <;> simp_all [zupJ]) ?_
                  refine z_aload_n C dX7_again_64 rfl 0 rfl ?_
                  refine z_getr C ff_X7_38 0 (by decide) sh0 rfl dX7_again_65 ?_
                  refine z_callVv C hm cl_X7_196 cv_X2_reduce 30 (by decide) sh30 ⟨_, _, rfl⟩ [] rfl (rest := []) rfl (k_X2_reduce w _ _ (min ((zAb (fun f => aHab (nI a) (I 1 a) (nI f) A) (zDy bu fr a tr) k) * n) (100 ^ k)) (100 ^ k)  (by exact mul_N hA_2 hB_2 hS hB9 hn) (by exact hB_2) (Nat.min_le_right _ _) hB0 (by omega)) ⟨rfl, rfl, Nat.le_of_ble_eq_true rfl, Nat.le_of_ble_eq_true rfl⟩ (Nat.le_of_ble_eq_true rfl) dX7_again_68 (fun I_5 J_5 h_5 => ?_)
                  obtain ⟨ei_5, ej_5⟩ := h_5
                  replace ei_5 := ei_5.symm; subst ei_5
                  replace ej_5 := ej_5.symm; subst ej_5
                  refine z_J (J' := zupJ (zupJ J 31 W_2) 30 (vp_updL (vp_updL (vp_updL O_2 2 (if O_2 3 < O_2 2 * (nI n).toInt64 then O_2 3 else O_2 2 * (nI n).toInt64)) 2 (lN ((min ((zAb (fun f => aHab (nI a) (I 1 a) (nI f) A) (zDy bu fr a tr) k) * n) (100 ^ k)) / Nat.gcd (min ((zAb (fun f => aHab (nI a) (I 1 a) (nI f) A) (zDy bu fr a tr) k) * n) (100 ^ k)) (100 ^ k)))) 3 (lN ((100 ^ k) / Nat.gcd (min ((zAb (fun f => aHab (nI a) (I 1 a) (nI f) A) (zDy bu fr a tr) k) * n) (100 ^ k)) (100 ^ k))))) (by funext zk; simp only [zupJ]; split <;> simp_all [zupJ]) ?_
                  refine z_iload C dX7_again_71 4 rfl ?_
                  refine z_if_ne (tgt := 86) C dX7_again_73 (by decide) (fun c73 => ?_) (fun c73 => ?_)
                  · skip
                    refine z_aload_n C dX7_again_86 rfl 0 rfl ?_
                    refine z_getr C ff_X7_38 0 (by decide) sh0 rfl dX7_again_87 ?_
                    refine z_getl C ff_X7_203 30 (by decide) sh30 rfl (v := lN ((100 ^ k) / Nat.gcd (min ((zAb (fun f => aHab (nI a) (I 1 a) (nI f) A) (zDy bu fr a tr) k) * n) (100 ^ k)) (100 ^ k))) (by first | rfl | (simp [zup, zupJ, upd, vp_updL]; done)) dX7_again_90 ?_
                    refine z_lret C hr dX7_again_93 ?_
                    refine ⟨_, rfl, ?_⟩
                    exact ⟨by
                        rw [cif_t ⟨⟨a, ha, rfl⟩, ⟨k, hk, rfl⟩, zin_le (m := 1) c19 c24 (by decide), zin_le (m := 1) c29 (Int32.not_lt.mpr c35) (by decide)⟩, zn_n (by omega), zn_n (by omega), zAg, zAgT, if_neg c73, if_pos c50]
                        try rfl, frO_u, frP_u⟩
                  · skip
                    refine z_aload_n C dX7_again_76 rfl 0 rfl ?_
                    refine z_getr C ff_X7_38 0 (by decide) sh0 rfl dX7_again_77 ?_
                    refine z_getl C ff_X7_199 30 (by decide) sh30 rfl (v := lN ((min ((zAb (fun f => aHab (nI a) (I 1 a) (nI f) A) (zDy bu fr a tr) k) * n) (100 ^ k)) / Nat.gcd (min ((zAb (fun f => aHab (nI a) (I 1 a) (nI f) A) (zDy bu fr a tr) k) * n) (100 ^ k)) (100 ^ k))) (by first | rfl | (simp [zup, zupJ, upd, vp_updL]; done)) dX7_again_80 ?_
                    refine z_goto (tgt := 93) C dX7_again_83 (by decide) ?_
                    refine z_lret C hr dX7_again_93 ?_
                    refine ⟨_, rfl, ?_⟩
                    exact ⟨by
                        rw [cif_t ⟨⟨a, ha, rfl⟩, ⟨k, hk, rfl⟩, zin_le (m := 1) c19 c24 (by decide), zin_le (m := 1) c29 (Int32.not_lt.mpr c35) (by decide)⟩, zn_n (by omega), zn_n (by omega), zAg, zAgT, if_pos c73, if_pos c50]
                        try rfl, frO_u, frP_u⟩
              · skip
                refine z_ldc2 C (v := -9223372036854775808) kl_X7_187 dX7_again_38 ?_
                refine z_lret C hr dX7_again_41 ?_
                refine ⟨_, rfl, ?_⟩
                exact ⟨by rw [cif_f (fun q => zin_gt (m := 1) (Int32.not_le.mp c35) (by decide) q.2.2.2)], frO_id, frP_id⟩
abbrev rm_X7_oddest : Room := { frames := 9, cells := 0, slots := 0, locals := 326 }
set_option maxRecDepth 100000 in
set_option maxHeartbeats 4000000 in
theorem k_X7_oddest (w : zW) (I : zI) (J : zJ) (n tr : Nat) (h : Nat) (A : List zCla) (bu fr : Nat → Nat) (y : Int32) (hN : I 0 1 = nI n) (hn : n ≤ 8) (hT : I 5 8 = nI tr) (htr : tr ≤ 16) (hh : h < 7) (hH : I 5 2 = nI h) (hL : cLaw I h A) (hB : ∀ t, t < tr → I 9 t = nI (bu t) ∧ bu t < n) (hF : ∀ t, t < tr → I 10 t = nI (fr t) ∧ fr t < 9) : zMet yX7_oddest cX7_oddest 6 (some .int) rm_X7_oddest w [.ref (zad w 0), .int y] I J (zpi (fun v I' J' => frO I' I ∧ frP J' J ∧ ((n = 0 ∧ v = -1) ∨ (n ≠ 0 ∧ ¬ zin y 10 ∧ v = -2) ∨ (n ≠ 0 ∧ ∃ k, k < 10 ∧ y = nI k ∧ ∃ fb, fb < n ∧ v = nI fb ∧ ∀ b, b < n → (zAb (fun f => aHab (nI fb) (I 1 fb) (nI f) A) (zDy bu fr fb tr) k) ≤ (zAb (fun f => aHab (nI b) (I 1 b) (nI f) A) (zDy bu fr b tr) k) ∧ (b < fb → (zAb (fun f => aHab (nI fb) (I 1 fb) (nI f) A) (zDy bu fr fb tr) k) < (zAb (fun f => aHab (nI b) (I 1 b) (nI f) A) (zDy bu fr b tr) k)))))) := by
  refine zMet_of (by decide) (Nat.le_of_ble_eq_true rfl) (fun X C hm hr => ?_)
  refine z_sub (lv' := [(0, .ref (zad w 0)), (1, .int y)]) [0, 1] rfl ?_
  refine z_aload_n C dX7_oddest_0 rfl 0 rfl ?_
  refine z_geti C ff_X7_73 0 (by decide) sh0 rfl (v := nI n) hN dX7_oddest_1 ?_
  refine z_if_ne (tgt := 9) C dX7_oddest_4 (by decide) (fun c4 => ?_) (fun c4 => ?_)
  · skip
    have hn0 : n ≠ 0 := fun q => c4 ((nI_0eq (by omega)).mpr q)
    refine z_iload_n C dX7_oddest_9 rfl 1 rfl ?_
    refine z_if_lt (tgt := 19) C dX7_oddest_10 (by decide) (fun c10 => ?_) (fun c10 => ?_)
    · skip
      refine z_bipush C (v := -2) dX7_oddest_19 (by decide) ?_
      refine z_iret C hr rfl dX7_oddest_21 ?_
      refine ⟨_, rfl, ?_⟩
      exact ⟨frO_id, frP_id, Or.inr (Or.inl ⟨hn0, zin_neg c10 (by decide), rfl⟩)⟩
    · skip
      refine z_iload_n C dX7_oddest_13 rfl 1 rfl ?_
      refine z_bipush C (v := 9) dX7_oddest_14 (by decide) ?_
      refine z_icmp_le (tgt := 22) C dX7_oddest_16 (by decide) (fun c16 => ?_) (fun c16 => ?_)
      · skip
        obtain ⟨k, hk, rfl⟩ := zin_le (m := 9) c10 (Int32.not_lt.mpr c16) (by decide)
        refine z_iconst C (v := 0) dX7_oddest_22 (by decide) ?_
        refine z_istore_n C hm (lv' := [(2, .int 0), (0, .ref (zad w 0)), (1, .int (nI k))]) dX7_oddest_23 rfl (by decide) rfl ?_
        refine z_lconst C (v := 0) dX7_oddest_24 (by decide) ?_
        refine z_lstore_n C hm (lv' := [(3, .long 0), (2, .int 0), (0, .ref (zad w 0)), (1, .int (nI k))]) dX7_oddest_25 rfl (by decide) rfl ?_
        refine z_iconst C (v := 0) dX7_oddest_26 (by decide) ?_
        refine z_istore C hm (lv' := [(5, .int 0), (3, .long 0), (2, .int 0), (0, .ref (zad w 0)), (1, .int (nI k))]) dX7_oddest_27 (by decide) rfl ?_
        have L29 : ∀ (d : Nat) (a fb : Nat) (R : Nat → Int32) (W O : Nat → Int64) (ls : Int64) (v29_2 : Int32) (v29_3 : Int64) (v29_5 : Int32) (I29 : zI) (J29 : zJ), (n - a) < d → (a ≤ n) → ((a = 0 ∧ fb = 0) ∨ (fb < a ∧ ls = lN (zAb (fun f => aHab (nI fb) (I 1 fb) (nI f) A) (zDy bu fr fb tr) k) ∧ ∀ b, b < a → (zAb (fun f => aHab (nI fb) (I 1 fb) (nI f) A) (zDy bu fr fb tr) k) ≤ (zAb (fun f => aHab (nI b) (I 1 b) (nI f) A) (zDy bu fr b tr) k) ∧ (b < fb → (zAb (fun f => aHab (nI fb) (I 1 fb) (nI f) A) (zDy bu fr fb tr) k) < (zAb (fun f => aHab (nI b) (I 1 b) (nI f) A) (zDy bu fr b tr) k)))) → v29_2 = nI fb → v29_3 = ls → v29_5 = nI a → I29 = zup I 30 R → J29 = zupJ (zupJ J 31 W) 30 O → Z X w I29 J29 29 [(0, .ref (zad w 0)), (1, .int (nI k)), (2, .int v29_2), (3, .long v29_3), (5, .int v29_5)] [] := by
          intro d
          induction d with
          | zero => intro a fb R W O ls v29_2 v29_3 v29_5 I29 J29 hd; exact absurd hd (Nat.not_lt_zero _)
          | succ d ih29 => 
            intro a fb R W O ls v29_2 v29_3 v29_5 I29 J29 hd29 ha hi e_v29_2 e_v29_3 e_v29_5 e_I29 e_J29
            replace e_v29_2 := e_v29_2.symm; subst e_v29_2
            replace e_v29_3 := e_v29_3.symm; subst e_v29_3
            replace e_v29_5 := e_v29_5.symm; subst e_v29_5
            replace e_I29 := e_I29.symm; subst e_I29
            replace e_J29 := e_J29.symm; subst e_J29
            refine z_iload C dX7_oddest_29 4 rfl ?_
            refine z_aload_n C dX7_oddest_31 rfl 0 rfl ?_
            refine z_geti C ff_X7_73 0 (by decide) sh0 rfl (v := nI n) (by first | exact hN | (simp [zup, zupJ, upd, vp_updL]; exact hN)) dX7_oddest_32 ?_
            refine z_icmp_ge_n a n (tgt := 79) C rfl rfl (by omega) (by omega) dX7_oddest_35 (by decide) (fun c35 => ?_) (fun c35 => ?_)
            · skip
              have han : a = n := by omega
              obtain ⟨hf1, _, hf3⟩ := hi.resolve_left (fun q => by omega)
              refine z_iload_n C dX7_oddest_79 rfl 2 rfl ?_
              refine z_iret C hr rfl dX7_oddest_80 ?_
              refine ⟨_, rfl, ?_⟩
              exact ⟨frO_u, frP_u, Or.inr (Or.inr ⟨hn0, k, hk, rfl, fb, by omega, rfl, by rw [han] at hf3; exact hf3⟩)⟩
            · skip
              have hSa : (zAb (fun f => aHab (nI a) (I 1 a) (nI f) A) (zDy bu fr a tr) k) ≤ 100 ^ k := zAb_le (fun f => aHab_le) (by have := zpop_k k (by omega) _ (zset_lt (P := zDy bu fr a tr) k); omega)
              have hB9 := p100_le (k := k) (by omega)
              refine z_aload_n C dX7_oddest_38 rfl 0 rfl ?_
              refine z_iload C dX7_oddest_39 4 rfl ?_
              refine z_iload_n C dX7_oddest_41 rfl 1 rfl ?_
              refine z_callVv C hm cl_X7_189 cv_X7_weighAgain 0 (by decide) sh0 ⟨_, _, rfl⟩ [.int (nI a), .int (nI k)] rfl (rest := []) rfl (k_X7_weighAgain w _ _ n tr h A bu fr a k hn (by exact hT) (by exact htr) hh (by exact hH) (cLaw_z (Or.inl (by decide)) hh hL) (by exact hB) (by exact hF) (by omega) (by omega)) ⟨rfl, rfl, Nat.le_of_ble_eq_true rfl, Nat.le_of_ble_eq_true rfl⟩ (Nat.le_of_ble_eq_true rfl) dX7_oddest_42 (fun I_1 J_1 h_1 => ?_)
              obtain ⟨⟨R_1, eI_1⟩, W_1, O_1, eJ_1, hA_1, hB_1⟩ := h_1
              replace eJ_1 := eJ_1.symm; subst eJ_1
              replace eI_1 := eI_1.symm; subst eI_1
              refine z_I (I' := zup I 30 R_1) (by funext zk; simp only [zup]; split <;> simp_all [zup]) ?_
              refine z_J (J' := zupJ (zupJ J 31 W_1) 30 O_1) (by funext zk; simp only [zupJ]; split <;> simp_all [zupJ]) ?_
              replace hA_1 : O_1 2 = lN (zAb (fun f => aHab (nI a) (I 1 a) (nI f) A) (zDy bu fr a tr) k) := hA_1
              refine z_iload C dX7_oddest_45 4 rfl ?_
              refine z_if_eq (tgt := 62) C dX7_oddest_47 (by decide) (fun c47 => ?_) (fun c47 => ?_)
              · skip
                have ha0 : a = 0 := (nI_0eq (by omega)).mp c47
                refine z_aload_n C dX7_oddest_62 rfl 0 rfl ?_
                refine z_getr C ff_X7_38 0 (by decide) sh0 rfl dX7_oddest_63 ?_
                refine z_getl C ff_X7_199 30 (by decide) sh30 rfl (v := O_1 2) (by first | rfl | (simp [zup, zupJ, upd, vp_updL]; done)) dX7_oddest_66 ?_
                refine z_lstore_n C hm (lv' := [(3, .long (O_1 2)), (0, .ref (zad w 0)), (1, .int (nI k)), (2, .int (nI fb)), (5, .int (nI a))]) dX7_oddest_69 rfl (by decide) rfl ?_
                refine z_iload C dX7_oddest_70 4 rfl ?_
                refine z_istore_n C hm (lv' := [(2, .int (nI a)), (3, .long (O_1 2)), (0, .ref (zad w 0)), (1, .int (nI k)), (5, .int (nI a))]) dX7_oddest_72 rfl (by decide) rfl ?_
                refine z_iinc C hm 4 (v := nI (a + 1)) (lv' := [(5, .int (nI (a + 1))), (2, .int (nI a)), (3, .long (O_1 2)), (0, .ref (zad w 0)), (1, .int (nI k))]) dX7_oddest_73 rfl (nI_add a 1) (by decide) rfl ?_
                refine z_goto (tgt := 29) C dX7_oddest_76 (by decide) ?_
                exact z_sub [3, 4, 1, 2, 0] rfl (ih29  (a + 1) a R_1 W_1 O_1 (O_1 2) _ _ _ _ _ (by omega) (by omega) (Or.inr ⟨by omega, hA_1, fun b hb => by
                    have : b = a := by omega
                    subst this
                    exact ⟨Nat.le_refl _, fun q => absurd q (Nat.lt_irrefl _)⟩⟩) rfl rfl rfl rfl rfl)
              · skip
                obtain ⟨hfa, hls, hmin⟩ := hi.resolve_left (fun q => c47 (by rw [q.1]; rfl))
                have hSf : (zAb (fun f => aHab (nI fb) (I 1 fb) (nI f) A) (zDy bu fr fb tr) k) ≤ 100 ^ k := zAb_le (fun f => aHab_le) (by have := zpop_k k (by omega) _ (zset_lt (P := zDy bu fr fb tr) k); omega)
                refine z_aload_n C dX7_oddest_50 rfl 0 rfl ?_
                refine z_getr C ff_X7_38 0 (by decide) sh0 rfl dX7_oddest_51 ?_
                refine z_getl C ff_X7_199 30 (by decide) sh30 rfl (v := O_1 2) (by first | rfl | (simp [zup, zupJ, upd, vp_updL]; done)) dX7_oddest_54 ?_
                refine z_lload_n C dX7_oddest_57 rfl 3 rfl ?_
                refine z_lcmp C dX7_oddest_58 ?_
                refine z_if_ge (tgt := 73) C dX7_oddest_59 (by decide) (fun c59 => ?_) (fun c59 => ?_)
                · skip
                  have hge : (zAb (fun f => aHab (nI fb) (I 1 fb) (nI f) A) (zDy bu fr fb tr) k) ≤ (zAb (fun f => aHab (nI a) (I 1 a) (nI f) A) (zDy bu fr a tr) k) := by
                    have q := (lg_cmp_ge _ _).mp c59
                    rw [hA_1, hls] at q
                    exact (pk_lLE (by omega) (by omega)).mp q
                  refine z_iinc C hm 4 (v := nI (a + 1)) (lv' := [(5, .int (nI (a + 1))), (0, .ref (zad w 0)), (1, .int (nI k)), (2, .int (nI fb)), (3, .long ls)]) dX7_oddest_73 rfl (nI_add a 1) (by decide) rfl ?_
                  refine z_goto (tgt := 29) C dX7_oddest_76 (by decide) ?_
                  exact z_sub [1, 2, 3, 4, 0] rfl (ih29  (a + 1) fb R_1 W_1 O_1 ls _ _ _ _ _ (by omega) (by omega) (Or.inr ⟨by omega, hls, lt_s hmin ⟨hge, fun q => absurd q (by omega)⟩⟩) rfl rfl rfl rfl rfl)
                · skip
                  have hlt : (zAb (fun f => aHab (nI a) (I 1 a) (nI f) A) (zDy bu fr a tr) k) < (zAb (fun f => aHab (nI fb) (I 1 fb) (nI f) A) (zDy bu fr fb tr) k) := by
                    have q : ¬ ls ≤ O_1 2 := fun z => c59 ((lg_cmp_ge _ _).mpr z)
                    rw [hA_1, hls] at q
                    exact Nat.lt_of_not_le (fun z => q ((pk_lLE (by omega) (by omega)).mpr z))
                  refine z_aload_n C dX7_oddest_62 rfl 0 rfl ?_
                  refine z_getr C ff_X7_38 0 (by decide) sh0 rfl dX7_oddest_63 ?_
                  refine z_getl C ff_X7_199 30 (by decide) sh30 rfl (v := O_1 2) (by first | rfl | (simp [zup, zupJ, upd, vp_updL]; done)) dX7_oddest_66 ?_
                  refine z_lstore_n C hm (lv' := [(3, .long (O_1 2)), (0, .ref (zad w 0)), (1, .int (nI k)), (2, .int (nI fb)), (5, .int (nI a))]) dX7_oddest_69 rfl (by decide) rfl ?_
                  refine z_iload C dX7_oddest_70 4 rfl ?_
                  refine z_istore_n C hm (lv' := [(2, .int (nI a)), (3, .long (O_1 2)), (0, .ref (zad w 0)), (1, .int (nI k)), (5, .int (nI a))]) dX7_oddest_72 rfl (by decide) rfl ?_
                  refine z_iinc C hm 4 (v := nI (a + 1)) (lv' := [(5, .int (nI (a + 1))), (2, .int (nI a)), (3, .long (O_1 2)), (0, .ref (zad w 0)), (1, .int (nI k))]) dX7_oddest_73 rfl (nI_add a 1) (by decide) rfl ?_
                  refine z_goto (tgt := 29) C dX7_oddest_76 (by decide) ?_
                  exact z_sub [3, 4, 1, 2, 0] rfl (ih29  (a + 1) a R_1 W_1 O_1 (O_1 2) _ _ _ _ _ (by omega) (by omega) (Or.inr ⟨by omega, hA_1, fun b hb => by
                      by_cases q : b = a
                      · subst q
                        exact ⟨Nat.le_refl _, fun z => absurd z (Nat.lt_irrefl _)⟩
                      · have := (hmin b (by omega)).1
                        exact ⟨by omega, fun _ => by omega⟩⟩) rfl rfl rfl rfl rfl)
        exact z_sub [3, 4, 2, 1, 0] rfl (L29 _ 0 0 (I 30) (J 31) (J 30) 0 _ _ _ _ _ (Nat.lt_succ_self _) (by omega) (Or.inl ⟨rfl, rfl⟩) rfl rfl rfl (by rw [zup_id]) (by rw [zupJ_id, zupJ_id]))
      · skip
        refine z_bipush C (v := -2) dX7_oddest_19 (by decide) ?_
        refine z_iret C hr rfl dX7_oddest_21 ?_
        refine ⟨_, rfl, ?_⟩
        exact ⟨frO_id, frP_id, Or.inr (Or.inl ⟨hn0, zin_gt (m := 9) (Int32.not_le.mp c16) (by decide), rfl⟩)⟩
  · skip
    have hn0 : n = 0 := (nI_0eq (by omega)).mp c4
    refine z_iconst C (v := -1) dX7_oddest_7 (by decide) ?_
    refine z_iret C hr rfl dX7_oddest_8 ?_
    refine ⟨_, rfl, ?_⟩
    exact ⟨frO_id, frP_id, Or.inl ⟨hn0, rfl⟩⟩
abbrev rm_X7_alikeWith : Room := { frames := 5, cells := 0, slots := 0, locals := 223 }
set_option maxRecDepth 100000 in
set_option maxHeartbeats 4000000 in
theorem k_X7_alikeWith (w : zW) (I : zI) (J : zJ) (n tr : Nat) (bu fr : Nat → Nat) (a : Nat) (hN : I 0 1 = nI n) (hn : n ≤ 8) (hT : I 5 8 = nI tr) (htr : tr ≤ 16) (hB : ∀ t, t < tr → I 9 t = nI (bu t) ∧ bu t < n) (hF : ∀ t, t < tr → I 10 t = nI (fr t) ∧ fr t < 9) (ha : a < n) : zMet yX7_alikeWith cX7_alikeWith 5 (some .int) rm_X7_alikeWith w [.ref (zad w 0), .int (nI a)] I J (zpi (fun v I' J' => v = nI (zset (zAl (fun a => zset (zDy bu fr a tr) 9) a) n) ∧ I' = I ∧ J' = J)) := by
  refine zMet_of (by decide) (Nat.le_of_ble_eq_true rfl) (fun X C hm hr => ?_)
  refine z_sub (lv' := [(0, .ref (zad w 0)), (1, .int (nI a))]) [0, 1] rfl ?_
  have hbu8 : ∀ t, t < tr → I 9 t = nI (bu t) ∧ bu t < 8 := fun t ht => ⟨(hB t ht).1, by have := (hB t ht).2; omega⟩
  refine z_aload_n C dX7_alikeWith_0 rfl 0 rfl ?_
  refine z_getr C ff_X7_62 0 (by decide) sh0 rfl dX7_alikeWith_1 ?_
  refine z_iload_n C dX7_alikeWith_4 rfl 1 rfl ?_
  refine z_callVi C hm cl_X7_184 cv_X6_fridaysOf 5 (by decide) sh5 ⟨_, _, rfl⟩ [.int (nI a)] rfl (rest := []) rfl (k_X6_fridaysOf w _ _ tr (nI a) htr hT) ⟨rfl, rfl, Nat.le_of_ble_eq_true rfl, Nat.le_of_ble_eq_true rfl⟩ (Nat.le_of_ble_eq_true rfl) dX7_alikeWith_5 (fun v_1 I_1 J_1 h_1 => ?_)
  obtain ⟨ev_1, ei_1, ej_1⟩ := h_1
  replace ev_1 := ev_1.symm; subst ev_1
  replace ei_1 := ei_1.symm; subst ei_1
  replace ej_1 := ej_1.symm; subst ej_1
  refine z_ti (y := nI (zset (zDy bu fr a tr) 9)) (aDays_n (by omega) hbu8 hF tr (Nat.le_refl _)) ?_
  refine z_istore_n C hm (lv' := [(2, .int (nI (zset (zDy bu fr a tr) 9))), (0, .ref (zad w 0)), (1, .int (nI a))]) dX7_alikeWith_8 rfl (by decide) rfl ?_
  refine z_iconst C (v := 0) dX7_alikeWith_9 (by decide) ?_
  refine z_istore_n C hm (lv' := [(3, .int 0), (2, .int (nI (zset (zDy bu fr a tr) 9))), (0, .ref (zad w 0)), (1, .int (nI a))]) dX7_alikeWith_10 rfl (by decide) rfl ?_
  refine z_iconst C (v := 0) dX7_alikeWith_11 (by decide) ?_
  refine z_istore C hm (lv' := [(4, .int 0), (3, .int 0), (2, .int (nI (zset (zDy bu fr a tr) 9))), (0, .ref (zad w 0)), (1, .int (nI a))]) dX7_alikeWith_12 (by decide) rfl ?_
  have L14 : ∀ (d : Nat) (o : Nat) (v14_3 : Int32) (v14_4 : Int32), (n - o) < d → (o ≤ n) → v14_3 = nI (zset (zAl (fun a => zset (zDy bu fr a tr) 9) a) o) → v14_4 = nI o → Z X w I J 14 [(0, .ref (zad w 0)), (1, .int (nI a)), (2, .int (nI (zset (zDy bu fr a tr) 9))), (3, .int v14_3), (4, .int v14_4)] [] := by
    intro d
    induction d with
    | zero => intro o v14_3 v14_4 hd; exact absurd hd (Nat.not_lt_zero _)
    | succ d ih14 => 
      intro o v14_3 v14_4 hd14 ho e_v14_3 e_v14_4
      replace e_v14_3 := e_v14_3.symm; subst e_v14_3
      replace e_v14_4 := e_v14_4.symm; subst e_v14_4
      refine z_iload C dX7_alikeWith_14 4 rfl ?_
      refine z_aload_n C dX7_alikeWith_16 rfl 0 rfl ?_
      refine z_geti C ff_X7_73 0 (by decide) sh0 rfl (v := nI n) hN dX7_alikeWith_17 ?_
      refine z_icmp_ge_n o n (tgt := 53) C rfl rfl (by omega) (by omega) dX7_alikeWith_20 (by decide) (fun c20 => ?_) (fun c20 => ?_)
      · skip
        have hon : o = n := by omega
        refine z_iload_n C dX7_alikeWith_53 rfl 3 rfl ?_
        refine z_iret C hr rfl dX7_alikeWith_54 ?_
        refine ⟨_, rfl, ?_⟩
        exact ⟨by rw [hon], rfl, rfl⟩
      · skip
        refine z_iload_n C dX7_alikeWith_23 rfl 2 rfl ?_
        refine z_if_eq (tgt := 47) C dX7_alikeWith_24 (by decide) (fun c24 => ?_) (fun c24 => ?_)
        · skip
          refine z_iinc C hm 4 (v := nI (o + 1)) (lv' := [(4, .int (nI (o + 1))), (0, .ref (zad w 0)), (1, .int (nI a)), (2, .int (nI (zset (zDy bu fr a tr) 9))), (3, .int (nI (zset (zAl (fun a => zset (zDy bu fr a tr) 9) a) o)))]) dX7_alikeWith_47 rfl (nI_add o 1) (by decide) rfl ?_
          refine z_goto (tgt := 14) C dX7_alikeWith_50 (by decide) ?_
          exact z_sub [1, 2, 3, 4, 0] rfl (ih14  (o + 1) _ _ (by omega) (by omega) (by rw [zset, if_neg (fun q => (of_decide_eq_true q).1 ((nI_0eq (Nat.lt_of_lt_of_le (zset_lt 9) (by decide))).mp c24)), Nat.add_zero]) rfl)
        · skip
          refine z_aload_n C dX7_alikeWith_27 rfl 0 rfl ?_
          refine z_getr C ff_X7_62 0 (by decide) sh0 rfl dX7_alikeWith_28 ?_
          refine z_iload C dX7_alikeWith_31 4 rfl ?_
          refine z_callVi C hm cl_X7_184 cv_X6_fridaysOf 5 (by decide) sh5 ⟨_, _, rfl⟩ [.int (nI o)] rfl (rest := []) rfl (k_X6_fridaysOf w _ _ tr (nI o) htr hT) ⟨rfl, rfl, Nat.le_of_ble_eq_true rfl, Nat.le_of_ble_eq_true rfl⟩ (Nat.le_of_ble_eq_true rfl) dX7_alikeWith_33 (fun v_2 I_2 J_2 h_2 => ?_)
          obtain ⟨ev_2, ei_2, ej_2⟩ := h_2
          replace ev_2 := ev_2.symm; subst ev_2
          replace ei_2 := ei_2.symm; subst ei_2
          replace ej_2 := ej_2.symm; subst ej_2
          refine z_ti (y := nI (zset (zDy bu fr o tr) 9)) (aDays_n (by omega) hbu8 hF tr (Nat.le_refl _)) ?_
          refine z_iload_n C dX7_alikeWith_36 rfl 2 rfl ?_
          refine z_icmp_ne_n (zset (zDy bu fr o tr) 9) (zset (zDy bu fr a tr) 9) (tgt := 47) C rfl rfl (Nat.lt_of_lt_of_le (zset_lt 9) (by decide)) (Nat.lt_of_lt_of_le (zset_lt 9) (by decide)) dX7_alikeWith_37 (by decide) (fun c37 => ?_) (fun c37 => ?_)
          · skip
            refine z_iinc C hm 4 (v := nI (o + 1)) (lv' := [(4, .int (nI (o + 1))), (0, .ref (zad w 0)), (1, .int (nI a)), (2, .int (nI (zset (zDy bu fr a tr) 9))), (3, .int (nI (zset (zAl (fun a => zset (zDy bu fr a tr) 9) a) o)))]) dX7_alikeWith_47 rfl (nI_add o 1) (by decide) rfl ?_
            refine z_goto (tgt := 14) C dX7_alikeWith_50 (by decide) ?_
            exact z_sub [1, 2, 3, 4, 0] rfl (ih14  (o + 1) _ _ (by omega) (by omega) (by rw [zset, if_neg (fun q => c37 (of_decide_eq_true q).2), Nat.add_zero]) rfl)
          · skip
            refine z_iload_n C dX7_alikeWith_40 rfl 3 rfl ?_
            refine z_iconst C (v := 1) dX7_alikeWith_41 (by decide) ?_
            refine z_iload C dX7_alikeWith_42 4 rfl ?_
            refine z_ishl C dX7_alikeWith_44 ?_
            refine z_ior C dX7_alikeWith_45 ?_
            refine z_istore_n C hm (lv' := [(3, .int ((nI (zset (zAl (fun a => zset (zDy bu fr a tr) 9) a) o)) ||| (1 <<< ((nI o) &&& 31)))), (0, .ref (zad w 0)), (1, .int (nI a)), (2, .int (nI (zset (zDy bu fr a tr) 9))), (4, .int (nI o))]) dX7_alikeWith_46 rfl (by decide) rfl ?_
            refine z_iinc C hm 4 (v := nI (o + 1)) (lv' := [(4, .int (nI (o + 1))), (3, .int ((nI (zset (zAl (fun a => zset (zDy bu fr a tr) 9) a) o)) ||| (1 <<< ((nI o) &&& 31)))), (0, .ref (zad w 0)), (1, .int (nI a)), (2, .int (nI (zset (zDy bu fr a tr) 9)))]) dX7_alikeWith_47 rfl (nI_add o 1) (by decide) rfl ?_
            refine z_goto (tgt := 14) C dX7_alikeWith_50 (by decide) ?_
            exact z_sub [2, 3, 4, 1, 0] rfl (ih14  (o + 1) _ _ (by omega) (by omega) (by rw [zset, if_pos (show zAl (fun a => zset (zDy bu fr a tr) 9) a o = true from decide_eq_true ⟨fun q => c24 ((nI_0eq (Nat.lt_of_lt_of_le (zset_lt 9) (by decide))).mpr q), c37⟩)]; exact or_bit (zset_lt o) (by omega)) rfl)
  exact z_sub [3, 4, 2, 1, 0] rfl (L14 _ 0 _ _ (Nat.lt_succ_self _) (by omega) rfl rfl)
abbrev rm_X7_alikePairs : Room := { frames := 6, cells := 0, slots := 0, locals := 247 }
set_option maxRecDepth 100000 in
set_option maxHeartbeats 4000000 in
theorem k_X7_alikePairs (w : zW) (I : zI) (J : zJ) (n tr : Nat) (bu fr : Nat → Nat)  (hN : I 0 1 = nI n) (hn : n ≤ 8) (hT : I 5 8 = nI tr) (htr : tr ≤ 16) (hB : ∀ t, t < tr → I 9 t = nI (bu t) ∧ bu t < n) (hF : ∀ t, t < tr → I 10 t = nI (fr t) ∧ fr t < 9) : zMet yX7_alikePairs cX7_alikePairs 3 (some .int) rm_X7_alikePairs w [.ref (zad w 0)] I J (zpi (fun v I' J' => v = nI (zPr (fun a => zset (zDy bu fr a tr) 9) n n) ∧ I' = I ∧ J' = J)) := by
  refine zMet_of (by decide) (Nat.le_of_ble_eq_true rfl) (fun X C hm hr => ?_)
  refine z_sub (lv' := [(0, .ref (zad w 0))]) [0] rfl ?_
  refine z_iconst C (v := 0) dX7_alikePairs_0 (by decide) ?_
  refine z_istore_n C hm (lv' := [(1, .int 0), (0, .ref (zad w 0))]) dX7_alikePairs_1 rfl (by decide) rfl ?_
  refine z_iconst C (v := 0) dX7_alikePairs_2 (by decide) ?_
  refine z_istore_n C hm (lv' := [(2, .int 0), (1, .int 0), (0, .ref (zad w 0))]) dX7_alikePairs_3 rfl (by decide) rfl ?_
  have L4 : ∀ (d : Nat) (a : Nat) (v4_1 : Int32) (v4_2 : Int32), (n - a) < d → (a ≤ n) → v4_1 = nI (zPr (fun a => zset (zDy bu fr a tr) 9) n a) → v4_2 = nI a → Z X w I J 4 [(0, .ref (zad w 0)), (1, .int v4_1), (2, .int v4_2)] [] := by
    intro d
    induction d with
    | zero => intro a v4_1 v4_2 hd; exact absurd hd (Nat.not_lt_zero _)
    | succ d ih4 => 
      intro a v4_1 v4_2 hd4 ha e_v4_1 e_v4_2
      replace e_v4_1 := e_v4_1.symm; subst e_v4_1
      replace e_v4_2 := e_v4_2.symm; subst e_v4_2
      refine z_iload_n C dX7_alikePairs_4 rfl 2 rfl ?_
      refine z_aload_n C dX7_alikePairs_5 rfl 0 rfl ?_
      refine z_geti C ff_X7_73 0 (by decide) sh0 rfl (v := nI n) hN dX7_alikePairs_6 ?_
      refine z_icmp_ge_n a n (tgt := 33) C rfl rfl (by omega) (by omega) dX7_alikePairs_9 (by decide) (fun c9 => ?_) (fun c9 => ?_)
      · skip
        have han : a = n := by omega
        refine z_iload_n C dX7_alikePairs_33 rfl 1 rfl ?_
        refine z_iret C hr rfl dX7_alikePairs_34 ?_
        refine ⟨_, rfl, ?_⟩
        exact ⟨by rw [han], rfl, rfl⟩
      · skip
        have hp8 := p2_8 hn
        have hsl := zset_lt (P := zAl (fun a => zset (zDy bu fr a tr) 9) a) n
        refine z_iload_n C dX7_alikePairs_12 rfl 1 rfl ?_
        refine z_aload_n C dX7_alikePairs_13 rfl 0 rfl ?_
        refine z_iload_n C dX7_alikePairs_14 rfl 2 rfl ?_
        refine z_callVi C hm cl_X7_228 cv_X7_alikeWith 0 (by decide) sh0 ⟨_, _, rfl⟩ [.int (nI a)] rfl (rest := [.int (nI (zPr (fun a => zset (zDy bu fr a tr) 9) n a))]) rfl (k_X7_alikeWith w _ _ n tr bu fr a hN hn hT htr hB hF (by omega)) ⟨rfl, rfl, Nat.le_of_ble_eq_true rfl, Nat.le_of_ble_eq_true rfl⟩ (Nat.le_of_ble_eq_true rfl) dX7_alikePairs_15 (fun v_1 I_1 J_1 h_1 => ?_)
        obtain ⟨ev_1, ei_1, ej_1⟩ := h_1
        replace ev_1 := ev_1.symm; subst ev_1
        replace ei_1 := ei_1.symm; subst ei_1
        replace ej_1 := ej_1.symm; subst ej_1
        refine z_iload_n C dX7_alikePairs_18 rfl 2 rfl ?_
        refine z_iconst C (v := 1) dX7_alikePairs_19 (by decide) ?_
        refine z_iadd C dX7_alikePairs_20 ?_
        refine z_ti (y := nI (a + 1)) (nI_add a 1) ?_
        refine z_ishr C dX7_alikePairs_21 ?_
        refine z_ti (y := nI ((zset (zAl (fun a => zset (zDy bu fr a tr) 9) a) n) / 2 ^ (a + 1))) (pk_shrN (by omega) _ (a + 1) (s_l (a + 1) (by omega))) ?_
        refine z_callSi C hm cl_X7_138 cs_J6_bitCount_0f7a4 [.int (nI ((zset (zAl (fun a => zset (zDy bu fr a tr) 9) a) n) / 2 ^ (a + 1)))] rfl (rest := [.int (nI (zPr (fun a => zset (zDy bu fr a tr) 9) n a))]) rfl (k_J6_bitCount_0f7a4 w _ _  (nI ((zset (zAl (fun a => zset (zDy bu fr a tr) 9) a) n) / 2 ^ (a + 1))) ) ⟨rfl, rfl, Nat.le_of_ble_eq_true rfl, Nat.le_of_ble_eq_true rfl⟩ (Nat.le_of_ble_eq_true rfl) dX7_alikePairs_22 (fun v_2 I_2 J_2 h_2 => ?_)
        obtain ⟨ev_2, ei_2, ej_2⟩ := h_2
        replace ev_2 := ev_2.symm; subst ev_2
        replace ei_2 := ei_2.symm; subst ei_2
        replace ej_2 := ej_2.symm; subst ej_2
        refine z_ti (y := nI (zpop ((zset (zAl (fun a => zset (zDy bu fr a tr) 9) a) n) / 2 ^ (a + 1)))) (zbc_pop _ (by have := Nat.div_le_self (zset (zAl (fun a => zset (zDy bu fr a tr) 9) a) n) (2 ^ (a + 1)); omega)) ?_
        refine z_iadd C dX7_alikePairs_25 ?_
        refine z_ti (y := nI ((zPr (fun a => zset (zDy bu fr a tr) 9) n a) + (zpop ((zset (zAl (fun a => zset (zDy bu fr a tr) 9) a) n) / 2 ^ (a + 1))))) (nI_add (zPr (fun a => zset (zDy bu fr a tr) 9) n a) (zpop ((zset (zAl (fun a => zset (zDy bu fr a tr) 9) a) n) / 2 ^ (a + 1)))) ?_
        refine z_istore_n C hm (lv' := [(1, .int (nI ((zPr (fun a => zset (zDy bu fr a tr) 9) n a) + (zpop ((zset (zAl (fun a => zset (zDy bu fr a tr) 9) a) n) / 2 ^ (a + 1)))))), (0, .ref (zad w 0)), (2, .int (nI a))]) dX7_alikePairs_26 rfl (by decide) rfl ?_
        refine z_iinc C hm 2 (v := nI (a + 1)) (lv' := [(2, .int (nI (a + 1))), (1, .int (nI ((zPr (fun a => zset (zDy bu fr a tr) 9) n a) + (zpop ((zset (zAl (fun a => zset (zDy bu fr a tr) 9) a) n) / 2 ^ (a + 1)))))), (0, .ref (zad w 0))]) dX7_alikePairs_27 rfl (nI_add a 1) (by decide) rfl ?_
        refine z_goto (tgt := 4) C dX7_alikePairs_30 (by decide) ?_
        exact z_sub [2, 1, 0] rfl (ih4  (a + 1) _ _ (by omega) (by omega) rfl rfl)
  exact z_sub [2, 1, 0] rfl (L4 _ 0 _ _ (Nat.lt_succ_self _) (by omega) rfl rfl)
abbrev rm_X7_greatestRing : Room := { frames := 6, cells := 0, slots := 0, locals := 247 }
set_option maxRecDepth 100000 in
set_option maxHeartbeats 4000000 in
theorem k_X7_greatestRing (w : zW) (I : zI) (J : zJ) (n tr : Nat) (bu fr : Nat → Nat)  (hN : I 0 1 = nI n) (hn : n ≤ 8) (hT : I 5 8 = nI tr) (htr : tr ≤ 16) (hB : ∀ t, t < tr → I 9 t = nI (bu t) ∧ bu t < n) (hF : ∀ t, t < tr → I 10 t = nI (fr t) ∧ fr t < 9) : zMet yX7_greatestRing cX7_greatestRing 6 (some .int) rm_X7_greatestRing w [.ref (zad w 0)] I J (zpi (fun v I' J' => v = nI (zRg (fun a => zset (zDy bu fr a tr) 9) n n) ∧ I' = I ∧ J' = J)) := by
  refine zMet_of (by decide) (Nat.le_of_ble_eq_true rfl) (fun X C hm hr => ?_)
  refine z_sub (lv' := [(0, .ref (zad w 0))]) [0] rfl ?_
  refine z_iconst C (v := 0) dX7_greatestRing_0 (by decide) ?_
  refine z_istore_n C hm (lv' := [(1, .int 0), (0, .ref (zad w 0))]) dX7_greatestRing_1 rfl (by decide) rfl ?_
  refine z_iconst C (v := 0) dX7_greatestRing_2 (by decide) ?_
  refine z_istore_n C hm (lv' := [(2, .int 0), (1, .int 0), (0, .ref (zad w 0))]) dX7_greatestRing_3 rfl (by decide) rfl ?_
  have L4 : ∀ (d : Nat) (a : Nat) (v4_1 : Int32) (v4_2 : Int32), (n - a) < d → (a ≤ n) → v4_1 = nI (zRg (fun a => zset (zDy bu fr a tr) 9) n a) → v4_2 = nI a → Z X w I J 4 [(0, .ref (zad w 0)), (1, .int v4_1), (2, .int v4_2)] [] := by
    intro d
    induction d with
    | zero => intro a v4_1 v4_2 hd; exact absurd hd (Nat.not_lt_zero _)
    | succ d ih4 => 
      intro a v4_1 v4_2 hd4 ha e_v4_1 e_v4_2
      replace e_v4_1 := e_v4_1.symm; subst e_v4_1
      replace e_v4_2 := e_v4_2.symm; subst e_v4_2
      refine z_iload_n C dX7_greatestRing_4 rfl 2 rfl ?_
      refine z_aload_n C dX7_greatestRing_5 rfl 0 rfl ?_
      refine z_geti C ff_X7_73 0 (by decide) sh0 rfl (v := nI n) hN dX7_greatestRing_6 ?_
      refine z_icmp_ge_n a n (tgt := 63) C rfl rfl (by omega) (by omega) dX7_greatestRing_9 (by decide) (fun c9 => ?_) (fun c9 => ?_)
      · skip
        have han : a = n := by omega
        refine z_iload_n C dX7_greatestRing_63 rfl 1 rfl ?_
        refine z_iret C hr rfl dX7_greatestRing_64 ?_
        refine ⟨_, rfl, ?_⟩
        exact ⟨by rw [han], rfl, rfl⟩
      · skip
        have hp8 := p2_8 hn
        have hsl := zset_lt (P := zAl (fun a => zset (zDy bu fr a tr) 9) a) n
        have hrl := zRg_lt (D := (fun a => zset (zDy bu fr a tr) 9)) (n := n) a
        have hq1 := zpop_le (zset (zAl (fun a => zset (zDy bu fr a tr) 9) a) n)
        have hq2 := zpop_le (zRg (fun a => zset (zDy bu fr a tr) 9) n a)
        refine z_aload_n C dX7_greatestRing_12 rfl 0 rfl ?_
        refine z_iload_n C dX7_greatestRing_13 rfl 2 rfl ?_
        refine z_callVi C hm cl_X7_228 cv_X7_alikeWith 0 (by decide) sh0 ⟨_, _, rfl⟩ [.int (nI a)] rfl (rest := []) rfl (k_X7_alikeWith w _ _ n tr bu fr a hN hn hT htr hB hF (by omega)) ⟨rfl, rfl, Nat.le_of_ble_eq_true rfl, Nat.le_of_ble_eq_true rfl⟩ (Nat.le_of_ble_eq_true rfl) dX7_greatestRing_14 (fun v_1 I_1 J_1 h_1 => ?_)
        obtain ⟨ev_1, ei_1, ej_1⟩ := h_1
        replace ev_1 := ev_1.symm; subst ev_1
        replace ei_1 := ei_1.symm; subst ei_1
        replace ej_1 := ej_1.symm; subst ej_1
        refine z_istore_n C hm (lv' := [(3, .int (nI (zset (zAl (fun a => zset (zDy bu fr a tr) 9) a) n))), (0, .ref (zad w 0)), (1, .int (nI (zRg (fun a => zset (zDy bu fr a tr) 9) n a))), (2, .int (nI a))]) dX7_greatestRing_17 rfl (by decide) rfl ?_
        refine z_iload_n C dX7_greatestRing_18 rfl 0 rfl ?_
        refine z_callSi C hm cl_X7_138 cs_J6_bitCount_0f7a4 [.int (nI (zset (zAl (fun a => zset (zDy bu fr a tr) 9) a) n))] rfl (rest := []) rfl (k_J6_bitCount_0f7a4 w _ _  (nI (zset (zAl (fun a => zset (zDy bu fr a tr) 9) a) n)) ) ⟨rfl, rfl, Nat.le_of_ble_eq_true rfl, Nat.le_of_ble_eq_true rfl⟩ (Nat.le_of_ble_eq_true rfl) dX7_greatestRing_19 (fun v_2 I_2 J_2 h_2 => ?_)
        obtain ⟨ev_2, ei_2, ej_2⟩ := h_2
        replace ev_2 := ev_2.symm; subst ev_2
        replace ei_2 := ei_2.symm; subst ei_2
        replace ej_2 := ej_2.symm; subst ej_2
        refine z_ti (y := nI (zpop (zset (zAl (fun a => zset (zDy bu fr a tr) 9) a) n))) (zbc_pop _ (by omega)) ?_
        refine z_istore C hm (lv' := [(4, .int (nI (zpop (zset (zAl (fun a => zset (zDy bu fr a tr) 9) a) n)))), (3, .int (nI (zset (zAl (fun a => zset (zDy bu fr a tr) 9) a) n))), (0, .ref (zad w 0)), (1, .int (nI (zRg (fun a => zset (zDy bu fr a tr) 9) n a))), (2, .int (nI a))]) dX7_greatestRing_22 (by decide) rfl ?_
        refine z_iload_n C dX7_greatestRing_24 rfl 3 rfl ?_
        refine z_callSi C hm cl_X7_138 cs_J6_bitCount_0f7a4 [.int (nI (zRg (fun a => zset (zDy bu fr a tr) 9) n a))] rfl (rest := []) rfl (k_J6_bitCount_0f7a4 w _ _  (nI (zRg (fun a => zset (zDy bu fr a tr) 9) n a)) ) ⟨rfl, rfl, Nat.le_of_ble_eq_true rfl, Nat.le_of_ble_eq_true rfl⟩ (Nat.le_of_ble_eq_true rfl) dX7_greatestRing_25 (fun v_3 I_3 J_3 h_3 => ?_)
        obtain ⟨ev_3, ei_3, ej_3⟩ := h_3
        replace ev_3 := ev_3.symm; subst ev_3
        replace ei_3 := ei_3.symm; subst ei_3
        replace ej_3 := ej_3.symm; subst ej_3
        refine z_ti (y := nI (zpop (zRg (fun a => zset (zDy bu fr a tr) 9) n a))) (zbc_pop _ (by omega)) ?_
        refine z_istore C hm (lv' := [(5, .int (nI (zpop (zRg (fun a => zset (zDy bu fr a tr) 9) n a)))), (4, .int (nI (zpop (zset (zAl (fun a => zset (zDy bu fr a tr) 9) a) n)))), (3, .int (nI (zset (zAl (fun a => zset (zDy bu fr a tr) 9) a) n))), (0, .ref (zad w 0)), (1, .int (nI (zRg (fun a => zset (zDy bu fr a tr) 9) n a))), (2, .int (nI a))]) dX7_greatestRing_28 (by decide) rfl ?_
        refine z_iload C dX7_greatestRing_30 1 rfl ?_
        refine z_iconst C (v := 2) dX7_greatestRing_32 (by decide) ?_
        refine z_icmp_lt_n (zpop (zset (zAl (fun a => zset (zDy bu fr a tr) 9) a) n)) 2 (tgt := 57) C rfl rfl (by omega) (by omega) dX7_greatestRing_33 (by decide) (fun c33 => ?_) (fun c33 => ?_)
        · skip
          refine z_iinc C hm 5 (v := nI (a + 1)) (lv' := [(2, .int (nI (a + 1))), (5, .int (nI (zpop (zRg (fun a => zset (zDy bu fr a tr) 9) n a)))), (4, .int (nI (zpop (zset (zAl (fun a => zset (zDy bu fr a tr) 9) a) n)))), (3, .int (nI (zset (zAl (fun a => zset (zDy bu fr a tr) 9) a) n))), (0, .ref (zad w 0)), (1, .int (nI (zRg (fun a => zset (zDy bu fr a tr) 9) n a)))]) dX7_greatestRing_57 rfl (nI_add a 1) (by decide) rfl ?_
          refine z_goto (tgt := 4) C dX7_greatestRing_60 (by decide) ?_
          exact z_sub [4, 5, 0] rfl (ih4  (a + 1) _ _ (by omega) (by omega) (by rw [zRg, if_neg (by omega)]) rfl)
        · skip
          refine z_iload C dX7_greatestRing_36 1 rfl ?_
          refine z_iload C dX7_greatestRing_38 0 rfl ?_
          refine z_icmp_gt_n (zpop (zset (zAl (fun a => zset (zDy bu fr a tr) 9) a) n)) (zpop (zRg (fun a => zset (zDy bu fr a tr) 9) n a)) (tgt := 55) C rfl rfl (by omega) (by omega) dX7_greatestRing_40 (by decide) (fun c40 => ?_) (fun c40 => ?_)
          · skip
            refine z_iload_n C dX7_greatestRing_55 rfl 2 rfl ?_
            refine z_istore_n C hm (lv' := [(1, .int (nI (zset (zAl (fun a => zset (zDy bu fr a tr) 9) a) n))), (5, .int (nI (zpop (zRg (fun a => zset (zDy bu fr a tr) 9) n a)))), (4, .int (nI (zpop (zset (zAl (fun a => zset (zDy bu fr a tr) 9) a) n)))), (3, .int (nI (zset (zAl (fun a => zset (zDy bu fr a tr) 9) a) n))), (0, .ref (zad w 0)), (2, .int (nI a))]) dX7_greatestRing_56 rfl (by decide) rfl ?_
            refine z_iinc C hm 5 (v := nI (a + 1)) (lv' := [(2, .int (nI (a + 1))), (1, .int (nI (zset (zAl (fun a => zset (zDy bu fr a tr) 9) a) n))), (5, .int (nI (zpop (zRg (fun a => zset (zDy bu fr a tr) 9) n a)))), (4, .int (nI (zpop (zset (zAl (fun a => zset (zDy bu fr a tr) 9) a) n)))), (3, .int (nI (zset (zAl (fun a => zset (zDy bu fr a tr) 9) a) n))), (0, .ref (zad w 0))]) dX7_greatestRing_57 rfl (nI_add a 1) (by decide) rfl ?_
            refine z_goto (tgt := 4) C dX7_greatestRing_60 (by decide) ?_
            exact z_sub [5, 1, 0] rfl (ih4  (a + 1) _ _ (by omega) (by omega) (by rw [zRg, if_pos (by omega)]) rfl)
          · skip
            refine z_iload C dX7_greatestRing_43 1 rfl ?_
            refine z_iload C dX7_greatestRing_45 0 rfl ?_
            refine z_icmp_ne_n (zpop (zset (zAl (fun a => zset (zDy bu fr a tr) 9) a) n)) (zpop (zRg (fun a => zset (zDy bu fr a tr) 9) n a)) (tgt := 57) C rfl rfl (by omega) (by omega) dX7_greatestRing_47 (by decide) (fun c47 => ?_) (fun c47 => ?_)
            · skip
              refine z_iinc C hm 5 (v := nI (a + 1)) (lv' := [(2, .int (nI (a + 1))), (5, .int (nI (zpop (zRg (fun a => zset (zDy bu fr a tr) 9) n a)))), (4, .int (nI (zpop (zset (zAl (fun a => zset (zDy bu fr a tr) 9) a) n)))), (3, .int (nI (zset (zAl (fun a => zset (zDy bu fr a tr) 9) a) n))), (0, .ref (zad w 0)), (1, .int (nI (zRg (fun a => zset (zDy bu fr a tr) 9) n a)))]) dX7_greatestRing_57 rfl (nI_add a 1) (by decide) rfl ?_
              refine z_goto (tgt := 4) C dX7_greatestRing_60 (by decide) ?_
              exact z_sub [4, 5, 0] rfl (ih4  (a + 1) _ _ (by omega) (by omega) (by rw [zRg, if_neg (by omega)]) rfl)
            · skip
              refine z_iload_n C dX7_greatestRing_50 rfl 2 rfl ?_
              refine z_iload_n C dX7_greatestRing_51 rfl 4 rfl ?_
              refine z_icmp_ge_n (zset (zAl (fun a => zset (zDy bu fr a tr) 9) a) n) (zRg (fun a => zset (zDy bu fr a tr) 9) n a) (tgt := 57) C rfl rfl (by omega) (by omega) dX7_greatestRing_52 (by decide) (fun c52 => ?_) (fun c52 => ?_)
              · skip
                refine z_iinc C hm 5 (v := nI (a + 1)) (lv' := [(2, .int (nI (a + 1))), (5, .int (nI (zpop (zRg (fun a => zset (zDy bu fr a tr) 9) n a)))), (4, .int (nI (zpop (zset (zAl (fun a => zset (zDy bu fr a tr) 9) a) n)))), (3, .int (nI (zset (zAl (fun a => zset (zDy bu fr a tr) 9) a) n))), (0, .ref (zad w 0)), (1, .int (nI (zRg (fun a => zset (zDy bu fr a tr) 9) n a)))]) dX7_greatestRing_57 rfl (nI_add a 1) (by decide) rfl ?_
                refine z_goto (tgt := 4) C dX7_greatestRing_60 (by decide) ?_
                exact z_sub [4, 5, 0] rfl (ih4  (a + 1) _ _ (by omega) (by omega) (by rw [zRg, if_neg (by omega)]) rfl)
              · skip
                refine z_iload_n C dX7_greatestRing_55 rfl 2 rfl ?_
                refine z_istore_n C hm (lv' := [(1, .int (nI (zset (zAl (fun a => zset (zDy bu fr a tr) 9) a) n))), (5, .int (nI (zpop (zRg (fun a => zset (zDy bu fr a tr) 9) n a)))), (4, .int (nI (zpop (zset (zAl (fun a => zset (zDy bu fr a tr) 9) a) n)))), (3, .int (nI (zset (zAl (fun a => zset (zDy bu fr a tr) 9) a) n))), (0, .ref (zad w 0)), (2, .int (nI a))]) dX7_greatestRing_56 rfl (by decide) rfl ?_
                refine z_iinc C hm 5 (v := nI (a + 1)) (lv' := [(2, .int (nI (a + 1))), (1, .int (nI (zset (zAl (fun a => zset (zDy bu fr a tr) 9) a) n))), (5, .int (nI (zpop (zRg (fun a => zset (zDy bu fr a tr) 9) n a)))), (4, .int (nI (zpop (zset (zAl (fun a => zset (zDy bu fr a tr) 9) a) n)))), (3, .int (nI (zset (zAl (fun a => zset (zDy bu fr a tr) 9) a) n))), (0, .ref (zad w 0))]) dX7_greatestRing_57 rfl (nI_add a 1) (by decide) rfl ?_
                refine z_goto (tgt := 4) C dX7_greatestRing_60 (by decide) ?_
                exact z_sub [5, 1, 0] rfl (ih4  (a + 1) _ _ (by omega) (by omega) (by rw [zRg, if_pos (by omega)]) rfl)
  exact z_sub [2, 1, 0] rfl (L4 _ 0 _ _ (Nat.lt_succ_self _) (by omega) rfl rfl)
abbrev rm_X7_ring : Room := { frames := 7, cells := 0, slots := 0, locals := 272 }
set_option maxRecDepth 100000 in
set_option maxHeartbeats 4000000 in
theorem k_X7_ring (w : zW) (I : zI) (J : zJ) (n tr : Nat) (bu fr : Nat → Nat) (x : Int32) (hN : I 0 1 = nI n) (hn : n ≤ 8) (hT : I 5 8 = nI tr) (htr : tr ≤ 16) (hB : ∀ t, t < tr → I 9 t = nI (bu t) ∧ bu t < n) (hF : ∀ t, t < tr → I 10 t = nI (fr t) ∧ fr t < 9) : zMet yX7_ring cX7_ring 2 (some .int) rm_X7_ring w [.ref (zad w 0), .int x] I J (zpi (fun v I' J' => v = (if x = 0 then nI (zPr (fun a => zset (zDy bu fr a tr) 9) n n) else if x = 1 then nI (zRg (fun a => zset (zDy bu fr a tr) 9) n n) else -1) ∧ I' = I ∧ J' = J)) := by
  refine zMet_of (by decide) (Nat.le_of_ble_eq_true rfl) (fun X C hm hr => ?_)
  refine z_sub (lv' := [(0, .ref (zad w 0)), (1, .int x)]) [0, 1] rfl ?_
  refine z_iload_n C dX7_ring_0 rfl 1 rfl ?_
  by_cases c1_0 : x = 0
  · skip
    refine z_lookup (tgt := 28) C dX7_ring_1 (by decide) (off := 27) (by rw [c1_0]; decide) (by decide) ?_
    refine z_aload_n C dX7_ring_28 rfl 0 rfl ?_
    refine z_callVi C hm cl_X7_206 cv_X7_alikePairs 0 (by decide) sh0 ⟨_, _, rfl⟩ [] rfl (rest := []) rfl (k_X7_alikePairs w _ _ n tr bu fr  hN hn hT htr hB hF) ⟨rfl, rfl, Nat.le_of_ble_eq_true rfl, Nat.le_of_ble_eq_true rfl⟩ (Nat.le_of_ble_eq_true rfl) dX7_ring_29 (fun v_1 I_1 J_1 h_1 => ?_)
    obtain ⟨ev_1, ei_1, ej_1⟩ := h_1
    replace ev_1 := ev_1.symm; subst ev_1
    replace ei_1 := ei_1.symm; subst ei_1
    replace ej_1 := ej_1.symm; subst ej_1
    refine z_iret C hr rfl dX7_ring_32 ?_
    refine ⟨_, rfl, ?_⟩
    exact ⟨by rw [if_pos c1_0], rfl, rfl⟩
  by_cases c1_1 : x = 1
  · skip
    refine z_lookup (tgt := 33) C dX7_ring_1 (by decide) (off := 32) (by rw [c1_1]; decide) (by decide) ?_
    refine z_aload_n C dX7_ring_33 rfl 0 rfl ?_
    refine z_callVi C hm cl_X7_210 cv_X7_greatestRing 0 (by decide) sh0 ⟨_, _, rfl⟩ [] rfl (rest := []) rfl (k_X7_greatestRing w _ _ n tr bu fr  hN hn hT htr hB hF) ⟨rfl, rfl, Nat.le_of_ble_eq_true rfl, Nat.le_of_ble_eq_true rfl⟩ (Nat.le_of_ble_eq_true rfl) dX7_ring_34 (fun v_2 I_2 J_2 h_2 => ?_)
    obtain ⟨ev_2, ei_2, ej_2⟩ := h_2
    replace ev_2 := ev_2.symm; subst ev_2
    replace ei_2 := ei_2.symm; subst ei_2
    replace ej_2 := ej_2.symm; subst ej_2
    refine z_iret C hr rfl dX7_ring_37 ?_
    refine ⟨_, rfl, ?_⟩
    exact ⟨by rw [if_neg c1_0, if_pos c1_1], rfl, rfl⟩
  refine z_lookup (tgt := 38) C dX7_ring_1 (by decide) (off := 37) (by show Op.lookupswitch.offset [(0, 27), (1, 32)] _ _ = _; rw [lv_osw c1_0 (by decide), lv_osw c1_1 (by decide)]; rfl) (by decide) ?_
  refine z_iconst C (v := -1) dX7_ring_38 (by decide) ?_
  refine z_iret C hr rfl dX7_ring_39 ?_
  refine ⟨_, rfl, ?_⟩
  exact ⟨by rw [if_neg c1_0, if_neg c1_1], rfl, rfl⟩
