/-! sets as bits -/
theorem bt_nI {m i : Nat} (hi : i < 32) : bt (nI m) i = m.testBit i := by
  show (nI m).toBitVec.getLsbD i = _
  have e : (nI m).toBitVec = BitVec.ofNat 32 m := rfl
  rw [e, BitVec.getLsbD_ofNat]; simp [hi]
theorem nI_or {a b : Nat} : nI a ||| nI b = nI (a ||| b) := b_ext fun i hi => by rw [b_or, bt_nI hi, bt_nI hi, bt_nI hi, Nat.testBit_or]
theorem nI_and {a b : Nat} : nI a &&& nI b = nI (a &&& b) := b_ext fun i hi => by rw [b_and, bt_nI hi, bt_nI hi, bt_nI hi, Nat.testBit_and]
theorem bt_m1 {i : Nat} (hi : i < 32) : bt (-1) i = true := by
  have e : (-1 : Int32) = nI (2 ^ 32 - 1) := by decide
  rw [e, bt_nI hi, Nat.testBit_two_pow_sub_one]; simp [hi]
theorem zset_bit {P : Nat → Bool} {i : Nat} : ∀ n, (zset P n).testBit i = (decide (i < n) && P i)
  | 0 => by simp [zset]
  | n + 1 => by
    have hl := zset_lt (P := P) n
    have ih := zset_bit (P := P) (i := i) n
    rw [zset]
    by_cases hp : P n = true
    · rw [if_pos hp]
      have e2 := Nat.two_pow_add_eq_or_of_lt hl 1
      rw [Nat.mul_one] at e2
      rw [show zset P n + 2 ^ n = 2 ^ n ||| zset P n from by rw [Nat.add_comm, e2], Nat.testBit_or, ih, Nat.testBit_two_pow]
      by_cases q : n = i
      · subst q; simp [hp]
      · by_cases z : i < n
        · simp [q, z, show i < n + 1 by omega]
        · simp [q, z, show ¬ i < n + 1 by omega]
    · rw [if_neg hp, Nat.add_zero, ih]
      by_cases q : i = n
      · subst q; simp [hp]
      · by_cases z : i < n
        · simp [z, show i < n + 1 by omega]
        · simp [z, show ¬ i < n + 1 by omega]
theorem zset_ext {P Q : Nat → Bool} {n : Nat} (h : ∀ i, i < n → P i = Q i) : zset P n = zset Q n := by
  refine Nat.eq_of_testBit_eq fun i => ?_
  rw [zset_bit, zset_bit]
  by_cases q : i < n
  · simp [q, h i q]
  · simp [q]
theorem zset_one {a n : Nat} (ha : a < n) : zset (fun i => decide (i = a)) n = 2 ^ a := by
  refine Nat.eq_of_testBit_eq fun i => ?_
  rw [zset_bit, Nat.testBit_two_pow]
  by_cases q : a = i
  · subst q; simp [ha]
  · simp [q, show ¬ i = a from fun z => q z.symm]
theorem zset_or1 {P : Nat → Bool} {a n : Nat} (ha : a < n) : zset P n ||| 2 ^ a = zset (fun i => P i || decide (i = a)) n := by
  rw [← zset_one ha]
  refine Nat.eq_of_testBit_eq fun i => ?_
  rw [Nat.testBit_or, zset_bit, zset_bit, zset_bit]
  by_cases q : i < n <;> simp [q]
theorem zset_andn {P Q : Nat → Bool} {n m : Nat} : nI (zset P n) &&& (nI (zset Q m) ^^^ (-1)) = nI (zset (fun i => P i && !(decide (i < m) && Q i)) n) := b_ext fun i hi => by
  rw [b_and, b_xor, bt_m1 hi, bt_nI hi, bt_nI hi, bt_nI hi, zset_bit, zset_bit, zset_bit]
  by_cases q : i < n <;> simp [q]
theorem zset_b {P : Nat → Bool} {a n : Nat} : zb (zset P n) a = (decide (a < n) && P a) := by
  rw [← zset_bit n]; unfold zb; rw [Nat.testBit_eq_decide_div_mod_eq]
/-- the days of a name -/
noncomputable def zDy (bu fr : Nat → Nat) (a k : Nat) : Nat → Bool := fun f => pB (∃ t, t < k ∧ bu t = a ∧ fr t = f)
theorem aDays_n {b f : Nat → Int32} {bu fr : Nat → Nat} {a tr : Nat} (ha : a < 8) (hb : ∀ t, t < tr → b t = nI (bu t) ∧ bu t < 8) (hf : ∀ t, t < tr → f t = nI (fr t) ∧ fr t < 9) : ∀ k, k ≤ tr → aDays b f (nI a) k = nI (zset (zDy bu fr a k) 9)
  | 0, _ => by
    have e : zset (zDy bu fr a 0) 9 = 0 := by
      refine Nat.eq_of_testBit_eq fun i => ?_
      rw [zset_bit, zDy, pB_f (fun ⟨t, h, _⟩ => absurd h (Nat.not_lt_zero _))]; simp
    rw [e]; rfl
  | k + 1, hk => by
    have ih := aDays_n ha hb hf k (by omega)
    rw [aDays]
    have h1 := hb k (by omega)
    have h2 := hf k (by omega)
    by_cases q : bu k = a
    · rw [if_pos (by rw [h1.1, q]), ih, h2.1, shl1 (by omega), nI_or, zset_or1 h2.2]
      congr 1
      refine zset_ext fun i hi => ?_
      unfold zDy
      by_cases z : ∃ t, t < k ∧ bu t = a ∧ fr t = i
      · obtain ⟨t, t1, t2⟩ := z
        rw [pB_t ⟨t, t1, t2⟩, pB_t ⟨t, by omega, t2⟩]; rfl
      · rw [pB_f z]
        by_cases y : i = fr k
        · rw [pB_t ⟨k, by omega, q, y.symm⟩]; simp [y]
        · rw [pB_f (fun ⟨t, t1, t2, t3⟩ => by
            rcases Nat.lt_or_ge t k with c | c
            · exact z ⟨t, c, t2, t3⟩
            · have : t = k := by omega
              subst this; exact y t3.symm)]; simp [y]
    · rw [if_neg (fun z => q ((nI_eq (by omega) (by omega)).mp (h1.1.symm.trans z))), ih]
      congr 1
      refine zset_ext fun i hi => ?_
      unfold zDy
      by_cases z : ∃ t, t < k ∧ bu t = a ∧ fr t = i
      · obtain ⟨t, t1, t2⟩ := z
        rw [pB_t ⟨t, t1, t2⟩, pB_t ⟨t, by omega, t2⟩]
      · rw [pB_f z, pB_f (fun ⟨t, t1, t2, t3⟩ => by
            rcases Nat.lt_or_ge t k with c | c
            · exact z ⟨t, c, t2, t3⟩
            · have : t = k := by omega
              subst this; exact q t2)]
theorem zset_mod {P : Nat → Bool} {n k : Nat} (h : k ≤ n) : zset P n % 2 ^ k = zset P k := by
  refine Nat.eq_of_testBit_eq fun i => ?_
  rw [Nat.testBit_mod_two_pow, zset_bit, zset_bit]
  by_cases q : i < k
  · simp [q, show i < n by omega]
  · simp [q]
/-- what silence wants of a set -/
def zQu (n : Nat) (G : Nat → Nat → Nat) (T : Nat → Nat) (st a hr s : Nat) : Prop := zb s a = false ∧ hr < hsq s n G T st a
abbrev rm_X7_leastSilence : Room := { frames := 6, cells := 0, slots := 0, locals := 248 }
set_option maxRecDepth 100000 in
set_option maxHeartbeats 4000000 in
theorem k_X7_leastSilence (w : zW) (I : zI) (J : zJ) (n st : Nat) (G : Nat → Nat → Nat) (T : Nat → Nat) (a : Nat) (hr9 : Nat) (sz : Nat) (hn : n ≤ 8) (hN0 : I 0 1 = nI n) (hN : I 23 6 = nI n) (hS : I 23 7 = nI st) (hst9 : st ≤ 9) (hT : ∀ b, b < n → I 25 b = nI (T b)) (hTf : ∀ b, b < n → T b ≤ zFar) (hG : ∀ a b, a < n → b < n → I 24 (a * 8 + b) = nI (G a b)) (hGf : ∀ a b, a < n → b < n → G a b ≤ zFar) (ha : a < n) (hhr : hr9 ≤ 99) (hsz : sz ≤ 8) : zMet yX7_leastSilence cX7_leastSilence 6 (some .int) rm_X7_leastSilence w [.ref (zad w 0), .int (nI a), .int (nI hr9), .int (nI sz)] I J (zpi (fun v I' J' => J' = J ∧ (∃ R Q, I' = zup (zup I 26 R) 27 Q) ∧ ((∃ s, s < 2 ^ n ∧ (zpop s = sz ∧ zQu n G T st a hr9 s) ∧ v = nI s ∧ (∀ z, z < s → ¬ (zpop z = sz ∧ zQu n G T st a hr9 z))) ∨ (v = -1 ∧ (∀ z, z < 2 ^ n → ¬ (zpop z = sz ∧ zQu n G T st a hr9 z)))))) := by
  refine zMet_of (by decide) (Nat.le_of_ble_eq_true rfl) (fun X C hm hr => ?_)
  refine z_sub (lv' := [(0, .ref (zad w 0)), (1, .int (nI a)), (2, .int (nI hr9)), (3, .int (nI sz))]) [0, 1, 2, 3] rfl ?_
  have hp8 := p2_8 hn
  refine z_iconst C (v := 1) dX7_leastSilence_0 (by decide) ?_
  refine z_aload_n C dX7_leastSilence_1 rfl 0 rfl ?_
  refine z_geti C ff_X7_73 0 (by decide) sh0 rfl (v := nI n) hN0 dX7_leastSilence_2 ?_
  refine z_ishl C dX7_leastSilence_5 ?_
  refine z_ti (y := nI (2 ^ n)) (shl1 (by omega)) ?_
  refine z_istore C hm (lv' := [(4, .int (nI (2 ^ n))), (0, .ref (zad w 0)), (1, .int (nI a)), (2, .int (nI hr9)), (3, .int (nI sz))]) dX7_leastSilence_6 (by decide) rfl ?_
  refine z_iconst C (v := 0) dX7_leastSilence_8 (by decide) ?_
  refine z_istore C hm (lv' := [(5, .int 0), (4, .int (nI (2 ^ n))), (0, .ref (zad w 0)), (1, .int (nI a)), (2, .int (nI hr9)), (3, .int (nI sz))]) dX7_leastSilence_9 (by decide) rfl ?_
  have L11 : ∀ (d : Nat) (s : Nat) (R Q : Nat → Int32) (v11_5 : Int32) (I11 : zI), (2 ^ n - s) < d → (s ≤ 2 ^ n) → (∀ z, z < s → ¬ (zpop z = sz ∧ zQu n G T st a hr9 z)) → v11_5 = nI s → I11 = zup (zup I 26 R) 27 Q → Z X w I11 J 11 [(0, .ref (zad w 0)), (1, .int (nI a)), (2, .int (nI hr9)), (3, .int (nI sz)), (4, .int (nI (2 ^ n))), (5, .int v11_5)] [] := by
    intro d
    induction d with
    | zero => intro s R Q v11_5 I11 hd; exact absurd hd (Nat.not_lt_zero _)
    | succ d ih11 => 
      intro s R Q v11_5 I11 hd11 hs hno e_v11_5 e_I11
      replace e_v11_5 := e_v11_5.symm; subst e_v11_5
      replace e_I11 := e_I11.symm; subst e_I11
      refine z_iload C dX7_leastSilence_11 5 rfl ?_
      refine z_iload C dX7_leastSilence_13 4 rfl ?_
      refine z_icmp_ge_n s (2 ^ n) (tgt := 66) C rfl rfl (by omega) (by omega) dX7_leastSilence_15 (by decide) (fun c15 => ?_) (fun c15 => ?_)
      · skip
        have hse : s = 2 ^ n := by omega
        refine z_iconst C (v := -1) dX7_leastSilence_66 (by decide) ?_
        refine z_iret C hr rfl dX7_leastSilence_67 ?_
        refine ⟨_, rfl, ?_⟩
        exact ⟨rfl, ⟨_, _, rfl⟩, Or.inr ⟨rfl, by rw [hse] at hno; exact hno⟩⟩
      · skip
        refine z_iload C dX7_leastSilence_18 5 rfl ?_
        refine z_callSi C hm cl_X7_138 cs_J6_bitCount_0f7a4 [.int (nI s)] rfl (rest := []) rfl (k_J6_bitCount_0f7a4 w _ _  (nI s) ) ⟨rfl, rfl, Nat.le_of_ble_eq_true rfl, Nat.le_of_ble_eq_true rfl⟩ (Nat.le_of_ble_eq_true rfl) dX7_leastSilence_20 (fun v_1 I_1 J_1 h_1 => ?_)
        obtain ⟨ev_1, ei_1, ej_1⟩ := h_1
        replace ev_1 := ev_1.symm; subst ev_1
        replace ei_1 := ei_1.symm; subst ei_1
        replace ej_1 := ej_1.symm; subst ej_1
        refine z_ti (y := nI (zpop s)) (zbc_pop _ (by omega)) ?_
        refine z_iload_n C dX7_leastSilence_23 rfl 3 rfl ?_
        refine z_icmp_ne_n (zpop s) sz (tgt := 60) C rfl rfl (by have := zpop_le s; omega) (by omega) dX7_leastSilence_24 (by decide) (fun c24 => ?_) (fun c24 => ?_)
        · skip
          refine z_iinc C hm 5 (v := nI (s + 1)) (lv' := [(5, .int (nI (s + 1))), (0, .ref (zad w 0)), (1, .int (nI a)), (2, .int (nI hr9)), (3, .int (nI sz)), (4, .int (nI (2 ^ n)))]) dX7_leastSilence_60 rfl (nI_add s 1) (by decide) rfl ?_
          refine z_goto (tgt := 11) C dX7_leastSilence_63 (by decide) ?_
          exact z_sub [1, 2, 3, 4, 5, 0] rfl (ih11  (s + 1) R Q _ _ (by omega) (by omega) (lt_s hno (fun q => c24 q.1)) rfl (by funext zk; by_cases h26 : zk = 26 <;> by_cases h27 : zk = 27 <;> simp [zup, h26, h27]))
        · skip
          refine z_iload C dX7_leastSilence_27 5 rfl ?_
          refine z_iload_n C dX7_leastSilence_29 rfl 1 rfl ?_
          refine z_ishr C dX7_leastSilence_30 ?_
          refine z_iconst C (v := 1) dX7_leastSilence_31 (by decide) ?_
          refine z_iand C dX7_leastSilence_32 ?_
          refine z_if_ne (tgt := 60) C dX7_leastSilence_33 (by decide) (fun c33 => ?_) (fun c33 => ?_)
          · skip
            refine z_iinc C hm 5 (v := nI (s + 1)) (lv' := [(5, .int (nI (s + 1))), (0, .ref (zad w 0)), (1, .int (nI a)), (2, .int (nI hr9)), (3, .int (nI sz)), (4, .int (nI (2 ^ n)))]) dX7_leastSilence_60 rfl (nI_add s 1) (by decide) rfl ?_
            refine z_goto (tgt := 11) C dX7_leastSilence_63 (by decide) ?_
            exact z_sub [1, 2, 3, 4, 5, 0] rfl (ih11  (s + 1) R Q _ _ (by omega) (by omega) (lt_s hno (fun q => (by have := q.2.1; rw [zb_1 (by omega) (by omega) c33] at this; cases this))) rfl (by funext zk; by_cases h26 : zk = 26 <;> by_cases h27 : zk = 27 <;> simp [zup, h26, h27]))
          · skip
            have hzb := zb_0 (by omega) (by omega) c33
            refine z_aload_n C dX7_leastSilence_36 rfl 0 rfl ?_
            refine z_getr C ff_X7_31 0 (by decide) sh0 rfl dX7_leastSilence_37 ?_
            refine z_iload C dX7_leastSilence_40 5 rfl ?_
            refine z_callVv C hm cl_X7_143 cv_X3_run 23 (by decide) sh23 ⟨_, _, rfl⟩ [.int (nI s)] rfl (rest := []) rfl (k_X3_run w _ _ n st G T s hn (by exact hN) (by exact hS) hst9 (by omega) hT hTf hG hGf) ⟨rfl, rfl, Nat.le_of_ble_eq_true rfl, Nat.le_of_ble_eq_true rfl⟩ (Nat.le_of_ble_eq_true rfl) dX7_leastSilence_42 (fun I_2 J_2 h_2 => ?_)
            obtain ⟨eJ_2, R_2, Q_2, eI_2, hR_2⟩ := h_2
            replace eJ_2 := eJ_2.symm; subst eJ_2
            subst eI_2
            refine z_I (I' := zup (zup I 26 R_2) 27 Q_2) (by funext zk; simp only [zup]; split <;> simp_all [zup]) ?_
            refine z_aload_n C dX7_leastSilence_45 rfl 0 rfl ?_
            refine z_getr C ff_X7_31 0 (by decide) sh0 rfl dX7_leastSilence_46 ?_
            refine z_iload_n C dX7_leastSilence_49 rfl 1 rfl ?_
            refine z_iload_n C dX7_leastSilence_50 rfl 2 rfl ?_
            refine z_callVi C hm cl_X7_146 cv_X3_knownBy 23 (by decide) sh23 ⟨_, _, rfl⟩ [.int (nI a), .int (nI hr9)] rfl (rest := []) rfl (k_X3_knownBy w _ _ (hsq s n G T st a) a hr9 (by omega) (hR_2 a ha) (Nat.le_trans (hsq_le st) (hTf a ha)) hhr) ⟨rfl, rfl, Nat.le_of_ble_eq_true rfl, Nat.le_of_ble_eq_true rfl⟩ (Nat.le_of_ble_eq_true rfl) dX7_leastSilence_51 (fun v_3 I_3 J_3 h_3 => ?_)
            obtain ⟨ev_3, ei_3, ej_3⟩ := h_3
            replace ev_3 := ev_3.symm; subst ev_3
            replace ei_3 := ei_3.symm; subst ei_3
            replace ej_3 := ej_3.symm; subst ej_3
            refine z_ifne_b (tgt := 60) C dX7_leastSilence_54 (by decide) (fun c54 => ?_) (fun c54 => ?_)
            · skip
              refine z_iinc C hm 5 (v := nI (s + 1)) (lv' := [(5, .int (nI (s + 1))), (0, .ref (zad w 0)), (1, .int (nI a)), (2, .int (nI hr9)), (3, .int (nI sz)), (4, .int (nI (2 ^ n)))]) dX7_leastSilence_60 rfl (nI_add s 1) (by decide) rfl ?_
              refine z_goto (tgt := 11) C dX7_leastSilence_63 (by decide) ?_
              exact z_sub [1, 2, 3, 4, 5, 0] rfl (ih11  (s + 1) R_2 Q_2 _ _ (by omega) (by omega) (lt_s hno (fun q => (by have := q.2.2; omega))) rfl (by funext zk; by_cases h26 : zk = 26 <;> by_cases h27 : zk = 27 <;> simp [zup, h26, h27]))
            · skip
              refine z_iload C dX7_leastSilence_57 5 rfl ?_
              refine z_iret C hr rfl dX7_leastSilence_59 ?_
              refine ⟨_, rfl, ?_⟩
              exact ⟨rfl, ⟨R_2, Q_2, by funext zk; by_cases h26 : zk = 26 <;> by_cases h27 : zk = 27 <;> simp [zup, h26, h27]⟩, Or.inl ⟨s, by omega, ⟨c24, hzb, by omega⟩, rfl, hno⟩⟩
  exact z_sub [2, 3, 4, 5, 1, 0] rfl (L11 _ 0 (I 26) (I 27) _ _ (Nat.lt_succ_self _) (Nat.zero_le _) (fun _ h0 => absurd h0 (Nat.not_lt_zero _)) rfl (by funext zk; by_cases h26 : zk = 26 <;> by_cases h27 : zk = 27 <;> simp [zup, h26, h27]))
abbrev rm_X7_silent : Room := { frames := 9, cells := 0, slots := 0, locals := 328 }
set_option maxRecDepth 100000 in
set_option maxHeartbeats 4000000 in
theorem k_X7_silent (w : zW) (I : zI) (J : zJ) (n : Nat) (h : Nat) (A : List zCla) (hd : Nat → Option Nat) (x : Int32) (y : Int32) (hN : I 0 1 = nI n) (hn : n ≤ 8) (hh : h < 7) (hH : I 5 2 = nI h) (hL : cLaw I h A) (hd7 : ∀ a, a < n → I 7 a = oI (hd a)) (hd99 : ∀ a k, hd a = some k → k ≤ 99) : zMet yX7_silent cX7_silent 5 (some .int) rm_X7_silent w [.ref (zad w 0), .int x, .int y] I J (zpi (fun v I' J' => J' = J ∧ frS I' I ∧ ((¬ zin x n ∧ v = -1) ∨ (∃ a, a < n ∧ x = nI a ∧ ((¬ zin y 100 ∧ v = -2) ∨ ∃ hr9, hr9 < 100 ∧ y = nI hr9 ∧ (((∃ k, hd a = some k ∧ k ≤ hr9) ∧ v = -5) ∨ ((∀ k, hd a = some k → hr9 < k) ∧ silR n (fun s => zb s a = false ∧ hr9 < ern s n (I 6) A hd a) v))))))) := by
  refine zMet_of (by decide) (Nat.le_of_ble_eq_true rfl) (fun X C hm hr => ?_)
  refine z_sub (lv' := [(0, .ref (zad w 0)), (1, .int x), (2, .int y)]) [0, 1, 2] rfl ?_
  have hp8 := p2_8 hn
  refine z_aload_n C dX7_silent_0 rfl 0 rfl ?_
  refine z_iload_n C dX7_silent_1 rfl 1 rfl ?_
  refine z_callVi C hm cl_X7_77 cv_X7_isName 0 (by decide) sh0 ⟨_, _, rfl⟩ [.int x] rfl (rest := []) rfl (k_X7_isName w _ _ n x hN hn) ⟨rfl, rfl, Nat.le_of_ble_eq_true rfl, Nat.le_of_ble_eq_true rfl⟩ (Nat.le_of_ble_eq_true rfl) dX7_silent_2 (fun v_1 I_1 J_1 h_1 => ?_)
  obtain ⟨ev_1, ei_1, ej_1⟩ := h_1
  replace ev_1 := ev_1.symm; subst ev_1
  replace ei_1 := ei_1.symm; subst ei_1
  replace ej_1 := ej_1.symm; subst ej_1
  refine z_ifne_b (tgt := 10) C dX7_silent_5 (by decide) (fun c5 => ?_) (fun c5 => ?_)
  · skip
    obtain ⟨a, ha, rfl⟩ := c5
    refine z_iload_n C dX7_silent_10 rfl 2 rfl ?_
    refine z_callSi C hm cl_X7_84 cs_X7_isHour [.int y] rfl (rest := []) rfl (k_X7_isHour w _ _  y ) ⟨rfl, rfl, Nat.le_of_ble_eq_true rfl, Nat.le_of_ble_eq_true rfl⟩ (Nat.le_of_ble_eq_true rfl) dX7_silent_11 (fun v_2 I_2 J_2 h_2 => ?_)
    obtain ⟨ev_2, ei_2, ej_2⟩ := h_2
    replace ev_2 := ev_2.symm; subst ev_2
    replace ei_2 := ei_2.symm; subst ei_2
    replace ej_2 := ej_2.symm; subst ej_2
    refine z_ifne_b (tgt := 20) C dX7_silent_14 (by decide) (fun c14 => ?_) (fun c14 => ?_)
    · skip
      obtain ⟨hr9, hhr9, rfl⟩ := c14
      refine z_aload_n C dX7_silent_20 rfl 0 rfl ?_
      refine z_getr C ff_X7_62 0 (by decide) sh0 rfl dX7_silent_21 ?_
      refine z_getr C ff_X7_87 5 (by decide) sh5 rfl dX7_silent_24 ?_
      refine z_iload_n C dX7_silent_27 rfl 1 rfl ?_
      refine z_iald C 7 (by decide) sh7 a (by omega) (by decide) rfl (v := oI (hd a)) (hd7 a ha) dX7_silent_28 ?_
      refine z_if_lt (tgt := 48) C dX7_silent_29 (by decide) (fun c29 => ?_) (fun c29 => ?_)
      · skip
        have hnk : ∀ k, hd a = some k → hr9 < k := fun k q => absurd c29 (by rw [q]; exact nI_pos (by have := hd99 a k q; omega))
        refine z_aload_n C dX7_silent_48 rfl 0 rfl ?_
        refine z_getr C ff_X7_31 0 (by decide) sh0 rfl dX7_silent_49 ?_
        refine z_aload_n C dX7_silent_52 rfl 0 rfl ?_
        refine z_getr C ff_X7_62 0 (by decide) sh0 rfl dX7_silent_53 ?_
        refine z_aload_n C dX7_silent_56 rfl 0 rfl ?_
        refine z_geti C ff_X7_73 0 (by decide) sh0 rfl (v := nI n) hN dX7_silent_57 ?_
        refine z_callVv C hm cl_X7_125 cv_X3_take 23 (by decide) sh23 ⟨_, _, rfl⟩ [.ref (zad w 5), .int (nI n)] rfl (rest := []) rfl (k_X3_take w _ _ h A hd n hn hh hH hL hd7 hd99) ⟨rfl, rfl, Nat.le_of_ble_eq_true rfl, Nat.le_of_ble_eq_true rfl⟩ (Nat.le_of_ble_eq_true rfl) dX7_silent_60 (fun I_3 J_3 h_3 => ?_)
        obtain ⟨eJ_3, H_3, Gr_3, eI_3, hH_3, hG_3⟩ := h_3
        replace eJ_3 := eJ_3.symm; subst eJ_3
        subst eI_3
        refine z_iconst C (v := 0) dX7_silent_63 (by decide) ?_
        refine z_istore_n C hm (lv' := [(3, .int 0), (0, .ref (zad w 0)), (1, .int (nI a)), (2, .int (nI hr9))]) dX7_silent_64 rfl (by decide) rfl ?_
        have L65 : ∀ (d : Nat) (sz : Nat) (R Q : Nat → Int32) (v65_3 : Int32) (I65 : zI), (n - sz) < d → (sz ≤ n) → (∀ s, s < 2 ^ n → (fun s => zb s a = false ∧ hr9 < ern s n (I 6) A hd a) s → sz ≤ zpop s) → v65_3 = nI sz → I65 = zup (zup (zup (zup (zup I 23 (upd (upd (I 23) 6 (nI n)) 7 (nI (aSteps A)))) 25 H_3) 24 Gr_3) 26 R) 27 Q → Z X w I65 J 65 [(0, .ref (zad w 0)), (1, .int (nI a)), (2, .int (nI hr9)), (3, .int v65_3)] [] := by
          intro d
          induction d with
          | zero => intro sz R Q v65_3 I65 hd; exact absurd hd (Nat.not_lt_zero _)
          | succ d ih65 => 
            intro sz R Q v65_3 I65 hd65 hsz hall e_v65_3 e_I65
            replace e_v65_3 := e_v65_3.symm; subst e_v65_3
            replace e_I65 := e_I65.symm; subst e_I65
            refine z_iload_n C dX7_silent_65 rfl 3 rfl ?_
            refine z_aload_n C dX7_silent_66 rfl 0 rfl ?_
            refine z_geti C ff_X7_73 0 (by decide) sh0 rfl (v := nI n) (by first | exact hN | (simp [zup, zupJ, upd, vp_updL]; exact hN)) dX7_silent_67 ?_
            refine z_icmp_ge_n sz n (tgt := 96) C rfl rfl (by omega) (by omega) dX7_silent_70 (by decide) (fun c70 => ?_) (fun c70 => ?_)
            · skip
              have hsn : sz = n := by omega
              refine z_bipush C (v := -5) dX7_silent_96 (by decide) ?_
              refine z_iret C hr rfl dX7_silent_98 ?_
              refine ⟨_, rfl, ?_⟩
              exact ⟨rfl, (by intro zk hzk; simp only [zup]; rw [if_neg (by omega), if_neg (by omega), if_neg (by omega), if_neg (by omega), if_neg (by omega)]), Or.inr ⟨a, ha, rfl, Or.inr ⟨hr9, hhr9, rfl, Or.inr ⟨hnk, Or.inr ⟨fun s2 h1 h2 => by
                  have h3 := hall s2 h1 h2
                  have h4 := zpop_lt n (by omega) s2 h1 a ha h2.1
                  omega, rfl⟩⟩⟩⟩⟩
            · skip
              refine z_aload_n C dX7_silent_73 rfl 0 rfl ?_
              refine z_iload_n C dX7_silent_74 rfl 1 rfl ?_
              refine z_iload_n C dX7_silent_75 rfl 2 rfl ?_
              refine z_iload_n C dX7_silent_76 rfl 3 rfl ?_
              refine z_callVi C hm cl_X7_135 cv_X7_leastSilence 0 (by decide) sh0 ⟨_, _, rfl⟩ [.int (nI a), .int (nI hr9), .int (nI sz)] rfl (rest := []) rfl (k_X7_leastSilence w _ _ n (aSteps A) (zGt (I 6) A) (zT0 hd) a hr9 sz hn (by exact hN) (by exact rfl) (by exact rfl) (aSteps_le A) hH_3 (fun b _ => zT0_le hd99 b) hG_3 (fun a b _ _ => zGt_le hL.1 a b) ha (by omega) (by omega)) ⟨rfl, rfl, Nat.le_of_ble_eq_true rfl, Nat.le_of_ble_eq_true rfl⟩ (Nat.le_of_ble_eq_true rfl) dX7_silent_77 (fun v_4 I_4 J_4 h_4 => ?_)
              obtain ⟨eJ_4, ⟨R_4, Q_4, eI_4⟩, hv_4⟩ := h_4
              replace eJ_4 := eJ_4.symm; subst eJ_4
              subst eI_4
              refine z_I (I' := zup (zup (zup (zup (zup I 23 (upd (upd (I 23) 6 (nI n)) 7 (nI (aSteps A)))) 25 H_3) 24 Gr_3) 26 R_4) 27 Q_4) (by funext zk; simp only [zup]; split <;> simp_all [zup]) ?_
              refine z_istore C hm (lv' := [(4, .int v_4), (0, .ref (zad w 0)), (1, .int (nI a)), (2, .int (nI hr9)), (3, .int (nI sz))]) dX7_silent_80 (by decide) rfl ?_
              refine z_iload C dX7_silent_82 0 rfl ?_
              refine z_if_lt (tgt := 90) C dX7_silent_84 (by decide) (fun c84 => ?_) (fun c84 => ?_)
              · skip
                have hnone : ∀ z, z < 2 ^ n → ¬ (zpop z = sz ∧ (fun s => zb s a = false ∧ hr9 < ern s n (I 6) A hd a) z) := by
                  rcases hv_4 with ⟨ss, h1, _, h3, _⟩ | ⟨_, q⟩
                  · exact absurd c84 (by rw [h3]; exact nI_pos (by omega))
                  · exact q
                refine z_iinc C hm 4 (v := nI (sz + 1)) (lv' := [(3, .int (nI (sz + 1))), (4, .int v_4), (0, .ref (zad w 0)), (1, .int (nI a)), (2, .int (nI hr9))]) dX7_silent_90 rfl (nI_add sz 1) (by decide) rfl ?_
                refine z_goto (tgt := 65) C dX7_silent_93 (by decide) ?_
                exact z_sub [2, 3, 4, 0] rfl (ih65  (sz + 1) R_4 Q_4 _ _ (by omega) (by omega) (fun s2 h1 h2 => by
                    have h3 := hall s2 h1 h2
                    rcases Nat.lt_or_ge sz (zpop s2) with q | q
                    · exact q
                    · exact absurd ⟨by omega, h2⟩ (hnone s2 h1)) rfl (by funext zk; by_cases h26 : zk = 26 <;> by_cases h27 : zk = 27 <;> simp [zup, h26, h27]))
              · skip
                obtain ⟨ss, hss1, hss2, hsv, hss3⟩ := hv_4.resolve_right (fun q => c84 (by rw [q.1]; decide))
                subst hsv
                refine z_iload C dX7_silent_87 0 rfl ?_
                refine z_iret C hr rfl dX7_silent_89 ?_
                refine ⟨_, rfl, ?_⟩
                exact ⟨rfl, (by intro zk hzk; simp only [zup]; rw [if_neg (by omega), if_neg (by omega), if_neg (by omega), if_neg (by omega), if_neg (by omega)]), Or.inr ⟨a, ha, rfl, Or.inr ⟨hr9, hhr9, rfl, Or.inr ⟨hnk, Or.inl ⟨ss, hss1, hss2.2, rfl, fun s2 h1 h2 => by
                    have h3 := hall s2 h1 h2
                    rcases Nat.lt_or_ge (zpop ss) (zpop s2) with q | q
                    · exact Or.inl q
                    · refine Or.inr ⟨by omega, ?_⟩
                      rcases Nat.lt_or_ge s2 ss with z | z
                      · exact absurd ⟨by omega, h2⟩ (hss3 s2 z)
                      · exact z⟩⟩⟩⟩⟩
        exact z_sub [1, 2, 3, 0] rfl (L65 _ 0 (I 26) (I 27) _ _ (Nat.lt_succ_self _) (by omega) (fun _ _ _ => Nat.zero_le _) rfl (by funext zk; by_cases h26 : zk = 26 <;> by_cases h27 : zk = 27 <;> simp [zup, h26, h27]))
      · skip
        obtain ⟨kk, hkk⟩ := oI_t (Int32.not_lt.mp c29)
        refine z_aload_n C dX7_silent_32 rfl 0 rfl ?_
        refine z_getr C ff_X7_62 0 (by decide) sh0 rfl dX7_silent_33 ?_
        refine z_getr C ff_X7_87 5 (by decide) sh5 rfl dX7_silent_36 ?_
        refine z_iload_n C dX7_silent_39 rfl 1 rfl ?_
        refine z_iald C 7 (by decide) sh7 a (by omega) (by decide) rfl (v := oI (hd a)) (hd7 a ha) dX7_silent_40 ?_
        refine z_iload_n C dX7_silent_41 rfl 2 rfl ?_
        refine z_icmp_gt (tgt := 48) C dX7_silent_42 (by decide) (fun c42 => ?_) (fun c42 => ?_)
        · skip
          have hnk : ∀ k, hd a = some k → hr9 < k := fun k q => by
            rw [q] at c42; exact (nI_ltI (by omega) (by have := hd99 a k q; omega)).mp c42
          refine z_aload_n C dX7_silent_48 rfl 0 rfl ?_
          refine z_getr C ff_X7_31 0 (by decide) sh0 rfl dX7_silent_49 ?_
          refine z_aload_n C dX7_silent_52 rfl 0 rfl ?_
          refine z_getr C ff_X7_62 0 (by decide) sh0 rfl dX7_silent_53 ?_
          refine z_aload_n C dX7_silent_56 rfl 0 rfl ?_
          refine z_geti C ff_X7_73 0 (by decide) sh0 rfl (v := nI n) hN dX7_silent_57 ?_
          refine z_callVv C hm cl_X7_125 cv_X3_take 23 (by decide) sh23 ⟨_, _, rfl⟩ [.ref (zad w 5), .int (nI n)] rfl (rest := []) rfl (k_X3_take w _ _ h A hd n hn hh hH hL hd7 hd99) ⟨rfl, rfl, Nat.le_of_ble_eq_true rfl, Nat.le_of_ble_eq_true rfl⟩ (Nat.le_of_ble_eq_true rfl) dX7_silent_60 (fun I_5 J_5 h_5 => ?_)
          obtain ⟨eJ_5, H_5, Gr_5, eI_5, hH_5, hG_5⟩ := h_5
          replace eJ_5 := eJ_5.symm; subst eJ_5
          subst eI_5
          refine z_iconst C (v := 0) dX7_silent_63 (by decide) ?_
          refine z_istore_n C hm (lv' := [(3, .int 0), (0, .ref (zad w 0)), (1, .int (nI a)), (2, .int (nI hr9))]) dX7_silent_64 rfl (by decide) rfl ?_
          have L65 : ∀ (d : Nat) (sz : Nat) (R Q : Nat → Int32) (v65_3 : Int32) (I65 : zI), (n - sz) < d → (sz ≤ n) → (∀ s, s < 2 ^ n → (fun s => zb s a = false ∧ hr9 < ern s n (I 6) A hd a) s → sz ≤ zpop s) → v65_3 = nI sz → I65 = zup (zup (zup (zup (zup I 23 (upd (upd (I 23) 6 (nI n)) 7 (nI (aSteps A)))) 25 H_5) 24 Gr_5) 26 R) 27 Q → Z X w I65 J 65 [(0, .ref (zad w 0)), (1, .int (nI a)), (2, .int (nI hr9)), (3, .int v65_3)] [] := by
            intro d
            induction d with
            | zero => intro sz R Q v65_3 I65 hd; exact absurd hd (Nat.not_lt_zero _)
            | succ d ih65 => 
              intro sz R Q v65_3 I65 hd65 hsz hall e_v65_3 e_I65
              replace e_v65_3 := e_v65_3.symm; subst e_v65_3
              replace e_I65 := e_I65.symm; subst e_I65
              refine z_iload_n C dX7_silent_65 rfl 3 rfl ?_
              refine z_aload_n C dX7_silent_66 rfl 0 rfl ?_
              refine z_geti C ff_X7_73 0 (by decide) sh0 rfl (v := nI n) (by first | exact hN | (simp [zup, zupJ, upd, vp_updL]; exact hN)) dX7_silent_67 ?_
              refine z_icmp_ge_n sz n (tgt := 96) C rfl rfl (by omega) (by omega) dX7_silent_70 (by decide) (fun c70 => ?_) (fun c70 => ?_)
              · skip
                have hsn : sz = n := by omega
                refine z_bipush C (v := -5) dX7_silent_96 (by decide) ?_
                refine z_iret C hr rfl dX7_silent_98 ?_
                refine ⟨_, rfl, ?_⟩
                exact ⟨rfl, (by intro zk hzk; simp only [zup]; rw [if_neg (by omega), if_neg (by omega), if_neg (by omega), if_neg (by omega), if_neg (by omega)]), Or.inr ⟨a, ha, rfl, Or.inr ⟨hr9, hhr9, rfl, Or.inr ⟨hnk, Or.inr ⟨fun s2 h1 h2 => by
                    have h3 := hall s2 h1 h2
                    have h4 := zpop_lt n (by omega) s2 h1 a ha h2.1
                    omega, rfl⟩⟩⟩⟩⟩
              · skip
                refine z_aload_n C dX7_silent_73 rfl 0 rfl ?_
                refine z_iload_n C dX7_silent_74 rfl 1 rfl ?_
                refine z_iload_n C dX7_silent_75 rfl 2 rfl ?_
                refine z_iload_n C dX7_silent_76 rfl 3 rfl ?_
                refine z_callVi C hm cl_X7_135 cv_X7_leastSilence 0 (by decide) sh0 ⟨_, _, rfl⟩ [.int (nI a), .int (nI hr9), .int (nI sz)] rfl (rest := []) rfl (k_X7_leastSilence w _ _ n (aSteps A) (zGt (I 6) A) (zT0 hd) a hr9 sz hn (by exact hN) (by exact rfl) (by exact rfl) (aSteps_le A) hH_5 (fun b _ => zT0_le hd99 b) hG_5 (fun a b _ _ => zGt_le hL.1 a b) ha (by omega) (by omega)) ⟨rfl, rfl, Nat.le_of_ble_eq_true rfl, Nat.le_of_ble_eq_true rfl⟩ (Nat.le_of_ble_eq_true rfl) dX7_silent_77 (fun v_6 I_6 J_6 h_6 => ?_)
                obtain ⟨eJ_6, ⟨R_6, Q_6, eI_6⟩, hv_6⟩ := h_6
                replace eJ_6 := eJ_6.symm; subst eJ_6
                subst eI_6
                refine z_I (I' := zup (zup (zup (zup (zup I 23 (upd (upd (I 23) 6 (nI n)) 7 (nI (aSteps A)))) 25 H_5) 24 Gr_5) 26 R_6) 27 Q_6) (by funext zk; simp only [zup]; split <;> simp_all [zup]) ?_
                refine z_istore C hm (lv' := [(4, .int v_6), (0, .ref (zad w 0)), (1, .int (nI a)), (2, .int (nI hr9)), (3, .int (nI sz))]) dX7_silent_80 (by decide) rfl ?_
                refine z_iload C dX7_silent_82 0 rfl ?_
                refine z_if_lt (tgt := 90) C dX7_silent_84 (by decide) (fun c84 => ?_) (fun c84 => ?_)
                · skip
                  have hnone : ∀ z, z < 2 ^ n → ¬ (zpop z = sz ∧ (fun s => zb s a = false ∧ hr9 < ern s n (I 6) A hd a) z) := by
                    rcases hv_6 with ⟨ss, h1, _, h3, _⟩ | ⟨_, q⟩
                    · exact absurd c84 (by rw [h3]; exact nI_pos (by omega))
                    · exact q
                  refine z_iinc C hm 4 (v := nI (sz + 1)) (lv' := [(3, .int (nI (sz + 1))), (4, .int v_6), (0, .ref (zad w 0)), (1, .int (nI a)), (2, .int (nI hr9))]) dX7_silent_90 rfl (nI_add sz 1) (by decide) rfl ?_
                  refine z_goto (tgt := 65) C dX7_silent_93 (by decide) ?_
                  exact z_sub [2, 3, 4, 0] rfl (ih65  (sz + 1) R_6 Q_6 _ _ (by omega) (by omega) (fun s2 h1 h2 => by
                      have h3 := hall s2 h1 h2
                      rcases Nat.lt_or_ge sz (zpop s2) with q | q
                      · exact q
                      · exact absurd ⟨by omega, h2⟩ (hnone s2 h1)) rfl (by funext zk; by_cases h26 : zk = 26 <;> by_cases h27 : zk = 27 <;> simp [zup, h26, h27]))
                · skip
                  obtain ⟨ss, hss1, hss2, hsv, hss3⟩ := hv_6.resolve_right (fun q => c84 (by rw [q.1]; decide))
                  subst hsv
                  refine z_iload C dX7_silent_87 0 rfl ?_
                  refine z_iret C hr rfl dX7_silent_89 ?_
                  refine ⟨_, rfl, ?_⟩
                  exact ⟨rfl, (by intro zk hzk; simp only [zup]; rw [if_neg (by omega), if_neg (by omega), if_neg (by omega), if_neg (by omega), if_neg (by omega)]), Or.inr ⟨a, ha, rfl, Or.inr ⟨hr9, hhr9, rfl, Or.inr ⟨hnk, Or.inl ⟨ss, hss1, hss2.2, rfl, fun s2 h1 h2 => by
                      have h3 := hall s2 h1 h2
                      rcases Nat.lt_or_ge (zpop ss) (zpop s2) with q | q
                      · exact Or.inl q
                      · refine Or.inr ⟨by omega, ?_⟩
                        rcases Nat.lt_or_ge s2 ss with z | z
                        · exact absurd ⟨by omega, h2⟩ (hss3 s2 z)
                        · exact z⟩⟩⟩⟩⟩
          exact z_sub [1, 2, 3, 0] rfl (L65 _ 0 (I 26) (I 27) _ _ (Nat.lt_succ_self _) (by omega) (fun _ _ _ => Nat.zero_le _) rfl (by funext zk; by_cases h26 : zk = 26 <;> by_cases h27 : zk = 27 <;> simp [zup, h26, h27]))
        · skip
          have hle : kk ≤ hr9 := by
            rw [hkk] at c42
            exact Nat.le_of_not_lt (fun q => c42 ((nI_ltI (by omega) (by have := hd99 a kk hkk; omega)).mpr q))
          refine z_bipush C (v := -5) dX7_silent_45 (by decide) ?_
          refine z_iret C hr rfl dX7_silent_47 ?_
          refine ⟨_, rfl, ?_⟩
          exact ⟨rfl, frS_id, Or.inr ⟨a, ha, rfl, Or.inr ⟨hr9, hhr9, rfl, Or.inl ⟨⟨kk, hkk, hle⟩, rfl⟩⟩⟩⟩
    · skip
      refine z_bipush C (v := -2) dX7_silent_17 (by decide) ?_
      refine z_iret C hr rfl dX7_silent_19 ?_
      refine ⟨_, rfl, ?_⟩
      exact ⟨rfl, frS_id, Or.inr ⟨a, ha, rfl, Or.inl ⟨c14, rfl⟩⟩⟩
  · skip
    refine z_iconst C (v := -1) dX7_silent_8 (by decide) ?_
    refine z_iret C hr rfl dX7_silent_9 ?_
    refine ⟨_, rfl, ?_⟩
    exact ⟨rfl, frS_id, Or.inl ⟨c5, rfl⟩⟩
