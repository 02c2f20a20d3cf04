/-! the reference: fills, filled -/
theorem ct_z {Q : Nat → Bool} : ∀ n, n ≤ 9 → zpop (zset Q n) = ct Q n
  | 0, _ => by show zpop 0 = 0; rfl
  | n + 1, h => by rw [zpop_z (by omega), ct_z n (by omega), ct]
theorem ct_congr {Q R : Nat → Bool} : ∀ n, (∀ a, a < n → Q a = R a) → ct Q n = ct R n
  | 0, _ => rfl
  | n + 1, h => by rw [ct, ct, ct_congr n (fun a ha => h a (by omega)), h n (by omega)]
theorem ct_split {Q R : Nat → Bool} : ∀ n, ct (fun a => Q a && !R a) n + ct (fun a => Q a && R a) n = ct Q n
  | 0 => rfl
  | n + 1 => by
    have ih := ct_split (Q := Q) (R := R) n
    rw [ct, ct, ct]
    cases Q n <;> cases R n <;> simp <;> omega
theorem ct_one {R R' : Nat → Bool} {p : Nat} (h : ∀ a, a ≠ p → R' a = R a) (h1 : R' p = true) (h2 : R p = false) : ∀ n, p < n → ct R' n = ct R n + 1
  | 0, hp => absurd hp (Nat.not_lt_zero _)
  | n + 1, hp => by
    by_cases q : p = n
    · have e := ct_congr (Q := R') (R := R) n (fun a ha => h a (by omega))
      rw [ct, ct, e, ← q, if_pos h1, if_neg (by rw [h2]; exact Bool.noConfusion)]
    · have ih := ct_one h h1 h2 n (by omega)
      rw [ct, ct, ih, h n (fun z => q z.symm)]; omega
theorem ct_0 {Q : Nat → Bool} : ∀ n, ct Q n = 0 ↔ ∀ y, y < n → Q y = false
  | 0 => ⟨fun _ y h => absurd h (Nat.not_lt_zero _), fun _ => rfl⟩
  | n + 1 => by
    rw [ct]
    constructor
    · intro h y hy
      have h0 : ct Q n = 0 := by omega
      by_cases q : y = n
      · rw [q]
        cases hq : Q n with
        | false => rfl
        | true => rw [hq] at h; simp at h
      · exact (ct_0 n).mp h0 y (by omega)
    · intro h
      rw [(ct_0 n).mpr (fun y hy => h y (by omega)), h n (by omega)]; rfl
theorem ct_1 {Q : Nat → Bool} : ∀ n, ct Q n = 1 ↔ ∃ x, x < n ∧ Q x = true ∧ ∀ y, y < n → Q y = true → y = x
  | 0 => ⟨fun h => absurd h (show ¬ 0 = 1 by decide), fun ⟨x, h, _⟩ => absurd h (Nat.not_lt_zero _)⟩
  | n + 1 => by
    rw [ct]
    constructor
    · intro h
      by_cases q : Q n = true
      · rw [if_pos q] at h
        have h0 := (ct_0 n).mp (show ct Q n = 0 by omega)
        refine ⟨n, by omega, q, fun y hy hq => ?_⟩
        rcases Nat.lt_or_ge y n with z | z
        · rw [h0 y z] at hq; cases hq
        · omega
      · rw [if_neg q] at h
        obtain ⟨x, h1, h2, h3⟩ := (ct_1 n).mp h
        refine ⟨x, by omega, h2, fun y hy hq => ?_⟩
        by_cases z : y = n
        · rw [z] at hq; exact absurd hq q
        · exact h3 y (by omega) hq
    · intro ⟨x, h1, h2, h3⟩
      by_cases q : Q n = true
      · have e := h3 n (by omega) q
        rw [if_pos q, (ct_0 n).mpr (fun y hy => eq_false_of_ne_true (fun z => by have := h3 y (by omega) z; omega))]
      · have hx : x < n := by
          rcases Nat.lt_or_ge x n with z | z
          · exact z
          · exfalso; apply q; rw [show n = x by omega]; exact h2
        rw [if_neg q, (ct_1 n).mpr ⟨x, hx, h2, fun y hy => h3 y (by omega)⟩]
noncomputable def fFt (lt f : Nat → Int32) (i a : Nat) : Bool := pB (lt a = f i)
noncomputable def fWt (lt f : Nat → Int32) (n k : Nat) : Nat := zpop (zNo lt n (f k)) - zCe f k k
theorem uS_ct {lt f : Nat → Int32} {n k : Nat} {P : Nat → Nat} (hP : vA n (fFt lt f) k P) : ∀ j, j ≤ k → ct (fun a => fFt lt f k a && (uS P j).testBit a) n = zCe f k j
  | 0, _ => by
    rw [zCe]
    exact (ct_0 n).mpr (fun y _ => by rw [uS, Nat.zero_testBit, Bool.and_false])
  | j + 1, h => by
    have ih := uS_ct hP j (by omega)
    obtain ⟨h1, h2, h3⟩ := hP j (by omega)
    have hlt : lt (P j) = f j := pB_i.mp h2
    have hno : (uS P j).testBit (P j) = false := eq_false_of_ne_true (fun z => by
      obtain ⟨i, z1, z2⟩ := (uS_bit j).mp z
      exact h3 i z1 z2)
    have hbit : ∀ a, a ≠ P j → (uS P (j + 1)).testBit a = (uS P j).testBit a := fun a ha => by
      rw [uS, Nat.testBit_or, Nat.testBit_two_pow, decide_eq_false (fun z => ha z.symm), Bool.or_false]
    have hyes : (uS P (j + 1)).testBit (P j) = true := (uS_bit (j + 1)).mpr ⟨j, by omega, rfl⟩
    rw [zCe, ← ih]
    by_cases q : f j = f k
    · rw [cif_t q]
      refine ct_one (p := P j) (fun a ha => by show (_ && _) = (_ && _); rw [hbit a ha]) ?_ ?_ n h1
      · show (fFt lt f k (P j) && _) = true
        rw [hyes, Bool.and_true]; exact pB_t (hlt.trans q)
      · show (fFt lt f k (P j) && _) = false
        rw [hno, Bool.and_false]
    · rw [cif_f q, Nat.add_zero]
      refine ct_congr n (fun a ha => ?_)
      by_cases z : a = P j
      · have : fFt lt f k a = false := pB_f (fun y => q (by rw [← y, z, hlt]))
        rw [this]; rfl
      · rw [hbit a z]
theorem fWt_ok {lt f : Nat → Int32} {n : Nat} (hn : n ≤ 8) : ∀ k, ∀ P, vA n (fFt lt f) k P → cz (fit (fFt lt f) k P) n n = fWt lt f n k := fun k P hP => by
  have h1 := ct_split (Q := fFt lt f k) (R := fun a => (uS P k).testBit a) n
  have h2 := uS_ct hP k (Nat.le_refl _)
  have h3 := ct_z (Q := fFt lt f k) n (by omega)
  rw [cz_n]
  unfold fWt
  have h4 : zNo lt n (f k) = zset (fFt lt f k) n := rfl
  rw [h4, h3, ← h1, ← h2]
  show ct (fun a => fFt lt f k a && !(uS P k).testBit a) n = _
  omega
theorem zWf_pw {lt f : Nat → Int32} {n bk : Nat} : ∀ i, i ≤ bk → zWf (zNo lt n) f i * pw (fWt lt f n) bk (bk - i) = pw (fWt lt f n) bk bk
  | 0, _ => by rw [zWf, Nat.one_mul, Nat.sub_zero]
  | i + 1, h => by
    rw [← zWf_pw (lt := lt) (f := f) (n := n) i (by omega), zWf, show bk - i = bk - (i + 1) + 1 by omega, pw, show bk - (bk - (i + 1) + 1) = i by omega, Nat.mul_assoc]
    rfl
theorem zWf_p {lt f : Nat → Int32} {n bk : Nat} : zWf (zNo lt n) f bk = pw (fWt lt f n) bk bk := by
  have := zWf_pw (lt := lt) (f := f) (n := n) (bk := bk) bk (Nat.le_refl _)
  rw [Nat.sub_self, pw, Nat.mul_one] at this
  exact this
/-- which name is sure at a blank -/
theorem sure_i {lt f : Nat → Int32} {n bk i a : Nat} {G0 : Nat → Nat} (hn : n ≤ 8) (hG : vA n (fFt lt f) bk G0) (hi : i < bk) (ha : a < n) : (∀ G, vA n (fFt lt f) bk G → G i = a) ↔ (zpop (zNo lt n (f i)) = 1 ∧ zb (zNo lt n (f i)) a = true) := by
  have h4 : zNo lt n (f i) = zset (fFt lt f i) n := rfl
  rw [h4, ct_z n (by omega), ct_1, zset_b]
  constructor
  · intro h
    have e0 := h G0 hG
    obtain ⟨g1, g2, g3⟩ := hG i hi
    rw [e0] at g2
    refine ⟨⟨a, ha, g2, fun y hy hq => ?_⟩, by rw [g2]; simp [ha]⟩
    -- swap
    rcases Nat.lt_or_ge 0 (if y = a then 0 else 1) with z | z
    · have hya : y ≠ a := fun q => by rw [if_pos q] at z; omega
      have hsw : vA n (fFt lt f) bk (fun j => if G0 j = a then y else if G0 j = y then a else G0 j) := by
        intro j hj
        obtain ⟨k1, k2, k3⟩ := hG j hj
        have hla : lt a = f i := pB_i.mp g2
        have hly : lt y = f i := pB_i.mp hq
        refine ⟨?_, ?_, fun m hm => ?_⟩
        · show (if G0 j = a then y else if G0 j = y then a else G0 j) < n
          split
          · exact hy
          · split
            · exact ha
            · exact k1
        · show fFt lt f j (if G0 j = a then y else if G0 j = y then a else G0 j) = true
          split
          · rename_i q; rw [q] at k2; exact pB_t (by rw [hly, ← hla]; exact pB_i.mp k2)
          · split
            · rename_i q; rw [q] at k2; exact pB_t (by rw [hla, ← hly]; exact pB_i.mp k2)
            · exact k2
        · have := k3 m hm
          show ¬ (if G0 m = a then y else if G0 m = y then a else G0 m) = (if G0 j = a then y else if G0 j = y then a else G0 j)
          split <;> split <;> (try split) <;> (try split) <;> omega
      have := h _ hsw
      simp only [e0, if_true] at this
      exact absurd this hya
    · by_cases q : y = a
      · exact q
      · rw [if_neg q] at z; omega
  · intro ⟨⟨x, x1, x2, x3⟩, h2⟩ G hG2
    have ha2 : fFt lt f i a = true := by
      rw [Bool.and_eq_true] at h2; exact h2.2
    obtain ⟨g1, g2, _⟩ := hG2 i hi
    rw [x3 (G i) g1 g2, x3 a ha ha2]
theorem andn_N {x y : Nat} : nI x &&& (nI y ^^^ (-1)) = nI (x ^^^ (x &&& y)) := b_ext fun i hi => by
  rw [b_and, b_xor, bt_m1 hi, bt_nI hi, bt_nI hi, bt_nI hi, Nat.testBit_xor, Nat.testBit_and]
  cases x.testBit i <;> cases y.testBit i <;> rfl
theorem up_N {R : Nat → Int32} {g : Nat → Nat} {m k x : Nat} (h : ∀ j, j < m → R j = nI (g j)) : ∀ j, j < m → upd R k (nI x) j = nI (updN g k x j) := fun j hj => by
  by_cases q : j = k
  · rw [q, updN_s]; exact upd_s
  · rw [upd_n q, updN_n q]; exact h j hj
theorem up_N1 {R : Nat → Int32} {g : Nat → Nat} {m x : Nat} (h : ∀ j, j < m → R j = nI (g j)) : ∀ j, j < m + 1 → upd R m (nI x) j = nI (updN g m x j) := fun j hj => by
  by_cases q : j = m
  · rw [q, updN_s]; exact upd_s
  · rw [upd_n q, updN_n q]; exact h j (by omega)
theorem and_256 {bk : Nat} {S x : Nat → Nat} (h : ∀ b, S b < 256) : ∀ b, (fun b => if b < bk then S b &&& x b else S b) b < 256 := fun b => by
  show (if b < bk then S b &&& x b else S b) < 256
  split
  · exact Nat.lt_of_le_of_lt Nat.and_le_left (h b)
  · exact h b
theorem t255 : ∀ x, x < 8 → Nat.testBit 255 x = true := by decide
abbrev rm_X8_fillAll : Room := { frames := 5, cells := 0, slots := 0, locals := 222 }
set_option maxRecDepth 100000 in
set_option maxHeartbeats 4000000 in
theorem k_X8_fillAll (w : zW) (I : zI) (J : zJ) (n bk : Nat) (lt bl : Nat → Int32)  (hN : I 82 0 = nI n) (hn : n ≤ 8) (hK : I 82 35 = nI bk) (hbk : bk ≤ 6) (hLt : ∀ k, k < 8 → I 83 k = lt k) (hBl : ∀ k, k < 6 → I 106 k = bl k) : zMet yX8_fillAll cX8_fillAll 4 (some .int) rm_X8_fillAll w [.ref (zad w 82)] I J (zpi (fun v I' J' => v = nI (zWf (zNo lt n) bl bk) ∧ J' = J ∧ (∀ k, k ≠ 107 → k ≠ 108 → k ≠ 109 → I' k = I k) ∧ ∃ Z : Nat → Nat, ∀ b, b < bk → I' 109 b = nI (Z b) ∧ Z b < 256 ∧ (zWf (zNo lt n) bl bk ≠ 0 → ∀ a, a < n → (zb (Z b) a = true ↔ (zpop (zNo lt n (bl b)) = 1 ∧ zb (zNo lt n (bl b)) a = true))))) := by
  refine zMet_of (by decide) (Nat.le_of_ble_eq_true rfl) (fun X C hm hr => ?_)
  refine z_sub (lv' := [(0, .ref (zad w 82))]) [0] rfl ?_
  have hcopy := hN
  obtain ⟨F0, S0, hF0, hSc, hEx⟩ := fa_all (bk := bk) (F := (fFt lt bl)) (fun k _ P hP => fWt_ok (lt := lt) (f := bl) hn k P hP) (g := fun _ => 0) (u := fun _ => 0) (S := fun _ => 255) rfl rfl
  refine z_iconst C (v := 0) dX8_fillAll_0 (by decide) ?_
  refine z_istore_n C hm (lv' := [(1, .int 0), (0, .ref (zad w 82))]) dX8_fillAll_1 rfl (by decide) rfl ?_
  have L2 : ∀ (d : Nat) (i : Nat) (SR : Nat → Int32) (v2_1 : Int32) (I2 : zI), (6 - i) < d → (i ≤ 6) → (∀ j, j < i → SR j = nI 255) → v2_1 = nI i → I2 = zup I 109 SR → Z X w I2 J 2 [(0, .ref (zad w 82)), (1, .int v2_1)] [] := by
    intro d
    induction d with
    | zero => intro i SR v2_1 I2 hd; exact absurd hd (Nat.not_lt_zero _)
    | succ d ih2 => 
      intro i SR v2_1 I2 hd2 hi hS0 e_v2_1 e_I2
      replace e_v2_1 := e_v2_1.symm; subst e_v2_1
      replace e_I2 := e_I2.symm; subst e_I2
      refine z_iload_n C dX8_fillAll_2 rfl 1 rfl ?_
      refine z_bipush C (v := 6) dX8_fillAll_3 (by decide) ?_
      refine z_icmp_ge_n i 6 (tgt := 23) C rfl rfl (by omega) (by omega) dX8_fillAll_5 (by decide) (fun c5 => ?_) (fun c5 => ?_)
      · skip
        have hi6 : i = 6 := by omega
        rw [hi6] at hS0
        refine z_iconst C (v := 0) dX8_fillAll_23 (by decide) ?_
        refine z_istore_n C hm (lv' := [(1, .int 0), (0, .ref (zad w 82))]) dX8_fillAll_24 rfl (by decide) rfl ?_
        refine z_iconst C (v := 0) dX8_fillAll_25 (by decide) ?_
        refine z_istore_n C hm (lv' := [(2, .int 0), (1, .int 0), (0, .ref (zad w 82))]) dX8_fillAll_26 rfl (by decide) rfl ?_
        refine z_aload_n C dX8_fillAll_27 rfl 2 rfl ?_
        refine z_getr C ff_X8_125 82 (by decide) sh82 rfl dX8_fillAll_28 ?_
        refine z_iconst C (v := 0) dX8_fillAll_31 (by decide) ?_
        refine z_iconst C (v := 0) dX8_fillAll_32 (by decide) ?_
        refine z_iast C 107 (by decide) sh107 0 (by omega) (by decide) rfl dX8_fillAll_33 ?_
        refine z_I (I' := zup (zup I 109 SR) 107 (upd (I 107) 0 0)) (by first | rfl | (rw [zup_n] <;> omega)) ?_
        refine z_aload_n C dX8_fillAll_34 rfl 2 rfl ?_
        refine z_getr C ff_X8_128 82 (by decide) sh82 rfl dX8_fillAll_35 ?_
        refine z_iconst C (v := 0) dX8_fillAll_38 (by decide) ?_
        refine z_iconst C (v := 0) dX8_fillAll_39 (by decide) ?_
        refine z_iast C 108 (by decide) sh108 0 (by omega) (by decide) rfl dX8_fillAll_40 ?_
        refine z_I (I' := zup (zup (zup I 109 SR) 107 (upd (I 107) 0 0)) 108 (upd (I 108) 0 0)) (by first | rfl | (rw [zup_n] <;> omega) | (rw [zup_n, zup_n] <;> omega)) ?_
        have L41 : ∀ (d : Nat) (fu kk : Nat) (g u : Nat → Nat) (N : Nat) (S : Nat → Nat) (GR UR SR : Nat → Int32) (v41_1 : Int32) (v41_2 : Int32) (I41 : zI), fu < d → (kk ≤ bk + 1) → (fa n bk (fFt lt bl) fu kk g u N S = some (pw (fWt lt bl n) bk bk, S0)) → (∀ j, j < kk → GR j = nI (g j)) → (∀ j, j < kk → UR j = nI (u j)) → (∀ j, j < kk → g j ≤ n) → (∀ j, j < kk → u j < 256) → (∀ b, b < bk → SR b = nI (S b)) → (∀ b, S b < 256) → v41_1 = nI N → v41_2 = nI kk + Int32.ofInt (-1) → I41 = zup (zup (zup I 109 SR) 107 GR) 108 UR → Z X w I41 J 41 [(0, .ref (zad w 82)), (1, .int v41_1), (2, .int v41_2)] [] := by
          intro d
          induction d with
          | zero => intro fu kk g u N S GR UR SR v41_1 v41_2 I41 hd; exact absurd hd (Nat.not_lt_zero _)
          | succ d ih41 => 
            intro fu kk g u N S GR UR SR v41_1 v41_2 I41 hd41 hkk hF hG hU hg hu hS hs e_v41_1 e_v41_2 e_I41
            replace e_v41_1 := e_v41_1.symm; subst e_v41_1
            replace e_v41_2 := e_v41_2.symm; subst e_v41_2
            replace e_I41 := e_I41.symm; subst e_I41
            refine z_iload_n C dX8_fillAll_41 rfl 2 rfl ?_
            refine z_if_lt (tgt := 197) C dX8_fillAll_42 (by decide) (fun c42 => ?_) (fun c42 => ?_)
            · skip
              have hk0 : kk = 0 := by
                cases kk with
                | zero => rfl
                | succ j => exact absurd c42 (by rw [pm1]; exact nI_pos (by omega))
              rw [hk0] at hF
              have hFe : N = pw (fWt lt bl n) bk bk ∧ S = S0 := by
                cases fu with
                | zero => rw [fa] at hF; cases hF
                | succ f =>
                  rw [fa] at hF
                  have e := Option.some.inj hF
                  exact ⟨(Prod.mk.inj e).1, (Prod.mk.inj e).2⟩
              refine z_iload_n C dX8_fillAll_197 rfl 1 rfl ?_
              refine z_iret C hr rfl dX8_fillAll_198 ?_
              refine ⟨_, rfl, ?_⟩
              obtain ⟨hFe1, hFe2⟩ := hFe
              refine ⟨by rw [hFe1, zWf_p], rfl, fun k h1 h2 h3 => by simp only [zup]; rw [if_neg h3, if_neg h2, if_neg h1], S, fun b hb => ⟨hS b hb, hs b, fun hne a ha => ?_⟩⟩
              obtain ⟨G0, hG0⟩ := hEx (by rw [← zWf_p]; exact hne)
              rw [zb_tb, hFe2, hSc b hb a, sure_i hn hG0 hb ha]
              exact ⟨fun q => q.2, fun q => ⟨t255 a (by omega), q⟩⟩
            · skip
              obtain ⟨k, hke⟩ : ∃ k, kk = k + 1 := by
                cases kk with
                | zero => exact absurd pm1_0 c42
                | succ j => exact ⟨j, rfl⟩
              obtain ⟨fz, hfe⟩ : ∃ f, fu = f + 1 := by
                cases fu with
                | zero => rw [fa] at hF; cases hF
                | succ f => exact ⟨f, rfl⟩
              rw [hke] at hF hG hU hg hu
              rw [hfe] at hF
              rw [hke, pm1]
              have hgk := hg k (by omega)
              have huk := hu k (by omega)
              refine z_iload_n C dX8_fillAll_45 rfl 2 rfl ?_
              refine z_aload_n C dX8_fillAll_46 rfl 0 rfl ?_
              refine z_geti C ff_X8_119 82 (by decide) sh82 rfl (v := nI bk) (by first | exact hK | (simp [zup, zupJ, upd, vp_updL]; exact hK)) dX8_fillAll_47 ?_
              refine z_icmp_ne_n k bk (tgt := 104) C rfl rfl (by omega) (by omega) dX8_fillAll_50 (by decide) (fun c50 => ?_) (fun c50 => ?_)
              · skip
                refine z_aload_n C dX8_fillAll_104 rfl 0 rfl ?_
                refine z_getr C ff_X8_125 82 (by decide) sh82 rfl dX8_fillAll_105 ?_
                refine z_iload_n C dX8_fillAll_108 rfl 2 rfl ?_
                refine z_iald C 107 (by decide) sh107 k (by omega) (by decide) rfl (v := nI (g k)) (by first | exact (hG k (by omega)) | (simp [zup, zupJ, upd, vp_updL]; exact (hG k (by omega)))) dX8_fillAll_109 ?_
                refine z_istore_n C hm (lv' := [(3, .int (nI (g k))), (0, .ref (zad w 82)), (1, .int (nI N)), (2, .int (nI k))]) dX8_fillAll_110 rfl (by decide) rfl ?_
                refine z_iload_n C dX8_fillAll_111 rfl 0 rfl ?_
                refine z_aload_n C dX8_fillAll_112 rfl 1 rfl ?_
                refine z_geti C ff_X8_7 82 (by decide) sh82 rfl (v := nI n) (by first | exact hN | (simp [zup, zupJ, upd, vp_updL]; exact hN)) dX8_fillAll_113 ?_
                refine z_icmp_ne_n (g k) n (tgt := 125) C rfl rfl (by omega) (by omega) dX8_fillAll_116 (by decide) (fun c116 => ?_) (fun c116 => ?_)
                · skip
                  refine z_aload_n C dX8_fillAll_125 rfl 1 rfl ?_
                  refine z_getr C ff_X8_125 82 (by decide) sh82 rfl dX8_fillAll_126 ?_
                  refine z_iload_n C dX8_fillAll_129 rfl 3 rfl ?_
                  refine z_iload_n C dX8_fillAll_130 rfl 0 rfl ?_
                  refine z_iconst C (v := 1) dX8_fillAll_131 (by decide) ?_
                  refine z_iadd C dX8_fillAll_132 ?_
                  refine z_ti (y := nI ((g k) + 1)) (nI_add (g k) 1) ?_
                  refine z_iast C 107 (by decide) sh107 k (by omega) (by decide) rfl dX8_fillAll_133 ?_
                  refine z_I (I' := zup (zup (zup I 109 SR) 107 (upd GR k (nI ((g k) + 1)))) 108 UR) (by funext zk; simp only [zup]; split <;> simp_all [zup]) ?_
                  refine z_aload_n C dX8_fillAll_134 rfl 1 rfl ?_
                  refine z_getr C ff_X8_13 82 (by decide) sh82 rfl dX8_fillAll_135 ?_
                  refine z_iload_n C dX8_fillAll_138 rfl 0 rfl ?_
                  refine z_iald C 83 (by decide) sh83 (g k) (by omega) (by decide) rfl (v := lt (g k)) (by first | exact (hLt (g k) (by omega)) | (simp [zup, zupJ, upd, vp_updL]; exact (hLt (g k) (by omega)))) dX8_fillAll_139 ?_
                  refine z_aload_n C dX8_fillAll_140 rfl 1 rfl ?_
                  refine z_getr C ff_X8_122 82 (by decide) sh82 rfl dX8_fillAll_141 ?_
                  refine z_iload_n C dX8_fillAll_144 rfl 3 rfl ?_
                  refine z_iald C 106 (by decide) sh106 k (by omega) (by decide) rfl (v := bl k) (by first | exact (hBl k (by omega)) | (simp [zup, zupJ, upd, vp_updL]; exact (hBl k (by omega)))) dX8_fillAll_145 ?_
                  refine z_icmp_ne (tgt := 41) C dX8_fillAll_146 (by decide) (fun c146 => ?_) (fun c146 => ?_)
                  · skip
                    exact z_sub [1, 2, 3] rfl (ih41  fz (k + 1) (updN g k (g k + 1)) u N S (upd GR k (nI (g k + 1))) UR SR _ _ _ (by omega) (by omega) (by rw [fa, if_neg c50, if_neg c116, if_neg (fun q => c146 (pB_i.mp q.1))] at hF; exact hF) (up_N hG) hU (fun j hj => by
                        by_cases y : j = k
                        · rw [y, updN_s]; omega
                        · rw [updN_n y]; exact hg j hj) hu hS hs rfl (pm1 k).symm (by funext zk; by_cases h107 : zk = 107 <;> by_cases h108 : zk = 108 <;> by_cases h109 : zk = 109 <;> simp [zup, h107, h108, h109]))
                  · skip
                    refine z_aload_n C dX8_fillAll_149 rfl 1 rfl ?_
                    refine z_aload_n C dX8_fillAll_150 rfl 1 rfl ?_
                    refine z_getr C ff_X8_128 82 (by decide) sh82 rfl dX8_fillAll_151 ?_
                    refine z_iload_n C dX8_fillAll_154 rfl 3 rfl ?_
                    refine z_iald C 108 (by decide) sh108 k (by omega) (by decide) rfl (v := nI (u k)) (by first | exact (hU k (by omega)) | (simp [zup, zupJ, upd, vp_updL]; exact (hU k (by omega)))) dX8_fillAll_155 ?_
                    refine z_iload_n C dX8_fillAll_156 rfl 0 rfl ?_
                    refine z_callVi C hm cl_X8_275 cv_X8_has 82 (by decide) sh82 ⟨_, _, rfl⟩ [.int (nI (u k)), .int (nI (g k))] rfl (rest := []) rfl (k_X8_has w _ _  (u k) (g k) (by omega) (by omega)) ⟨rfl, rfl, Nat.le_of_ble_eq_true rfl, Nat.le_of_ble_eq_true rfl⟩ (Nat.le_of_ble_eq_true rfl) dX8_fillAll_157 (fun v_1 I_1 J_1 h_1 => ?_)
                    obtain ⟨ev_1, ei_1, ej_1⟩ := h_1
                    replace ev_1 := ev_1.symm; subst ev_1
                    replace ei_1 := ei_1.symm; subst ei_1
                    replace ej_1 := ej_1.symm; subst ej_1
                    refine z_ifeq_b (tgt := 166) C dX8_fillAll_160 (by decide) (fun c160 => ?_) (fun c160 => ?_)
                    · skip
                      refine z_aload_n C dX8_fillAll_166 rfl 1 rfl ?_
                      refine z_getr C ff_X8_128 82 (by decide) sh82 rfl dX8_fillAll_167 ?_
                      refine z_iload_n C dX8_fillAll_170 rfl 3 rfl ?_
                      refine z_iconst C (v := 1) dX8_fillAll_171 (by decide) ?_
                      refine z_iadd C dX8_fillAll_172 ?_
                      refine z_ti (y := nI (k + 1)) (nI_add k 1) ?_
                      refine z_aload_n C dX8_fillAll_173 rfl 1 rfl ?_
                      refine z_getr C ff_X8_128 82 (by decide) sh82 rfl dX8_fillAll_174 ?_
                      refine z_iload_n C dX8_fillAll_177 rfl 3 rfl ?_
                      refine z_iald C 108 (by decide) sh108 k (by omega) (by decide) rfl (v := nI (u k)) (by first | exact (hU k (by omega)) | (simp [zup, zupJ, upd, vp_updL]; exact (hU k (by omega)))) dX8_fillAll_178 ?_
                      refine z_iconst C (v := 1) dX8_fillAll_179 (by decide) ?_
                      refine z_iload_n C dX8_fillAll_180 rfl 0 rfl ?_
                      refine z_ishl C dX8_fillAll_181 ?_
                      refine z_ior C dX8_fillAll_182 ?_
                      refine z_ti (y := nI (u k ||| 2 ^ g k)) (by rw [shl1 (by omega), nI_or]) ?_
                      refine z_iast C 108 (by decide) sh108 (k + 1) (by omega) (by decide) rfl dX8_fillAll_183 ?_
                      refine z_I (I' := zup (zup (zup I 109 SR) 107 (upd GR k (nI ((g k) + 1)))) 108 (upd UR (k + 1) (nI (u k ||| 2 ^ g k)))) (by rw [zup_s, zup_up]) ?_
                      refine z_iinc C hm 3 (v := nI (k + 1)) (lv' := [(2, .int (nI (k + 1))), (3, .int (nI (g k))), (0, .ref (zad w 82)), (1, .int (nI N))]) dX8_fillAll_184 rfl (nI_add k 1) (by decide) rfl ?_
                      refine z_aload_n C dX8_fillAll_187 rfl 2 rfl ?_
                      refine z_getr C ff_X8_125 82 (by decide) sh82 rfl dX8_fillAll_188 ?_
                      refine z_iload_n C dX8_fillAll_191 rfl 0 rfl ?_
                      refine z_iconst C (v := 0) dX8_fillAll_192 (by decide) ?_
                      refine z_iast C 107 (by decide) sh107 (k + 1) (by omega) (by decide) rfl dX8_fillAll_193 ?_
                      refine z_I (I' := zup (zup (zup I 109 SR) 107 (upd (upd GR k (nI ((g k) + 1))) (k + 1) 0)) 108 (upd UR (k + 1) (nI (u k ||| 2 ^ g k)))) (by funext zk; simp only [zup]; split <;> simp_all [zup]) ?_
                      refine z_goto (tgt := 41) C dX8_fillAll_194 (by decide) ?_
                      exact z_sub [2, 3, 0] rfl (ih41  fz (k + 2) (updN (updN g k (g k + 1)) (k + 1) 0) (updN u (k + 1) (u k ||| 2 ^ g k)) N S (upd (upd GR k (nI (g k + 1))) (k + 1) 0) (upd UR (k + 1) (nI (u k ||| 2 ^ g k))) SR _ _ _ (by omega) (by omega) (by rw [fa, if_neg c50, if_neg c116, if_pos ⟨pB_t c146, eq_false_of_ne_true c160⟩] at hF; exact hF) (up_N1 (up_N hG)) (up_N1 hU) (fun j hj => by
                          by_cases z : j = k + 1
                          · rw [z, updN_s]; exact Nat.zero_le _
                          · rw [updN_n z]
                            by_cases y : j = k
                            · rw [y, updN_s]; omega
                            · rw [updN_n y]; exact hg j (by omega)) (fun j hj => by
                          by_cases z : j = k + 1
                          · rw [z, updN_s]; exact Nat.or_lt_two_pow (n := 8) (hu k (by omega)) (Nat.pow_lt_pow_right (by decide) (by omega))
                          · rw [updN_n z]; exact hu j (by omega)) hS hs rfl (pm1 (k + 1)).symm (by funext zk; by_cases h107 : zk = 107 <;> by_cases h108 : zk = 108 <;> by_cases h109 : zk = 109 <;> simp [zup, h107, h108, h109]))
                    · skip
                      refine z_goto (tgt := 41) C dX8_fillAll_163 (by decide) ?_
                      exact z_sub [1, 2, 3] rfl (ih41  fz (k + 1) (updN g k (g k + 1)) u N S (upd GR k (nI (g k + 1))) UR SR _ _ _ (by omega) (by omega) (by rw [fa, if_neg c50, if_neg c116, if_neg (fun q => by rw [c160] at q; exact Bool.noConfusion q.2)] at hF; exact hF) (up_N hG) hU (fun j hj => by
                          by_cases y : j = k
                          · rw [y, updN_s]; omega
                          · rw [updN_n y]; exact hg j hj) hu hS hs rfl (pm1 k).symm (by funext zk; by_cases h107 : zk = 107 <;> by_cases h108 : zk = 108 <;> by_cases h109 : zk = 109 <;> simp [zup, h107, h108, h109]))
                · skip
                  refine z_iinc C hm 3 (v := (nI k) + Int32.ofInt (-1)) (lv' := [(2, .int ((nI k) + Int32.ofInt (-1))), (3, .int (nI (g k))), (0, .ref (zad w 82)), (1, .int (nI N))]) dX8_fillAll_119 rfl rfl (by decide) rfl ?_
                  refine z_goto (tgt := 41) C dX8_fillAll_122 (by decide) ?_
                  exact z_sub [2, 3, 0] rfl (ih41  fz k g u N S GR UR SR _ _ _ (by omega) (by omega) (by rw [fa, if_neg c50, if_pos c116] at hF; exact hF) (fun j hj => hG j (by omega)) (fun j hj => hU j (by omega)) (fun j hj => hg j (by omega)) (fun j hj => hu j (by omega)) hS hs rfl rfl (by funext zk; by_cases h107 : zk = 107 <;> by_cases h108 : zk = 108 <;> by_cases h109 : zk = 109 <;> simp [zup, h107, h108, h109]))
              · skip
                refine z_iinc C hm 1 (v := nI (N + 1)) (lv' := [(1, .int (nI (N + 1))), (0, .ref (zad w 82)), (2, .int (nI k))]) dX8_fillAll_53 rfl (nI_add N 1) (by decide) rfl ?_
                refine z_iconst C (v := 0) dX8_fillAll_56 (by decide) ?_
                refine z_istore_n C hm (lv' := [(3, .int 0), (1, .int (nI (N + 1))), (0, .ref (zad w 82)), (2, .int (nI k))]) dX8_fillAll_57 rfl (by decide) rfl ?_
                have L58 : ∀ (d : Nat) (b : Nat) (SB : Nat → Int32) (v58_3 : Int32) (I58 : zI), (bk - b) < d → (b ≤ bk) → (∀ j, j < b → SB j = nI ((fun b => if b < bk then S b &&& (u (b + 1) ^^^ (u (b + 1) &&& u b)) else S b) j)) → (∀ j, b ≤ j → SB j = SR j) → v58_3 = nI b → I58 = zup (zup (zup I 109 SB) 107 GR) 108 UR → Z X w I58 J 58 [(0, .ref (zad w 82)), (1, .int (nI (N + 1))), (2, .int (nI k)), (3, .int v58_3)] [] := by
                  intro d
                  induction d with
                  | zero => intro b SB v58_3 I58 hd; exact absurd hd (Nat.not_lt_zero _)
                  | succ d ih58 => 
                    intro b SB v58_3 I58 hd58 hb hSB1 hSB2 e_v58_3 e_I58
                    replace e_v58_3 := e_v58_3.symm; subst e_v58_3
                    replace e_I58 := e_I58.symm; subst e_I58
                    refine z_iload_n C dX8_fillAll_58 rfl 3 rfl ?_
                    refine z_aload_n C dX8_fillAll_59 rfl 0 rfl ?_
                    refine z_geti C ff_X8_119 82 (by decide) sh82 rfl (v := nI bk) (by first | exact hK | (simp [zup, zupJ, upd, vp_updL]; exact hK)) dX8_fillAll_60 ?_
                    refine z_icmp_ge_n b bk (tgt := 98) C rfl rfl (by omega) (by omega) dX8_fillAll_63 (by decide) (fun c63 => ?_) (fun c63 => ?_)
                    · skip
                      have hbe : b = bk := by omega
                      refine z_iinc C hm 2 (v := (nI k) + Int32.ofInt (-1)) (lv' := [(2, .int ((nI k) + Int32.ofInt (-1))), (0, .ref (zad w 82)), (1, .int (nI (N + 1))), (3, .int (nI b))]) dX8_fillAll_98 rfl rfl (by decide) rfl ?_
                      refine z_goto (tgt := 41) C dX8_fillAll_101 (by decide) ?_
                      exact z_sub [1, 2, 0] rfl (ih41  fz k g u (N + 1) (fun b => if b < bk then S b &&& (u (b + 1) ^^^ (u (b + 1) &&& u b)) else S b) GR UR SB _ _ _ (by omega) (by omega) (by rw [fa, if_pos c50] at hF; exact hF) (fun j hj => hG j (by omega)) (fun j hj => hU j (by omega)) (fun j hj => hg j (by omega)) (fun j hj => hu j (by omega)) (fun j hj => by rw [hbe] at hSB1; exact hSB1 j hj) (and_256 hs) rfl rfl (by funext zk; by_cases h107 : zk = 107 <;> by_cases h108 : zk = 108 <;> by_cases h109 : zk = 109 <;> simp [zup, h107, h108, h109]))
                    · skip
                      refine z_aload_n C dX8_fillAll_66 rfl 0 rfl ?_
                      refine z_getr C ff_X8_131 82 (by decide) sh82 rfl dX8_fillAll_67 ?_
                      refine z_iload_n C dX8_fillAll_70 rfl 3 rfl ?_
                      refine z_dup2_11 C dX8_fillAll_71 rfl rfl ?_
                      refine z_iald C 109 (by decide) sh109 b (by omega) (by decide) rfl (v := nI (S b)) (by first | exact (by rw [hSB2 b (Nat.le_refl _)]; exact hS b (by omega)) | (simp [zup, zupJ, upd, vp_updL]; exact (by rw [hSB2 b (Nat.le_refl _)]; exact hS b (by omega)))) dX8_fillAll_72 ?_
                      refine z_aload_n C dX8_fillAll_73 rfl 0 rfl ?_
                      refine z_getr C ff_X8_128 82 (by decide) sh82 rfl dX8_fillAll_74 ?_
                      refine z_iload_n C dX8_fillAll_77 rfl 3 rfl ?_
                      refine z_iconst C (v := 1) dX8_fillAll_78 (by decide) ?_
                      refine z_iadd C dX8_fillAll_79 ?_
                      refine z_ti (y := nI (b + 1)) (nI_add b 1) ?_
                      refine z_iald C 108 (by decide) sh108 (b + 1) (by omega) (by decide) rfl (v := nI (u (b + 1))) (by first | exact (hU (b + 1) (by omega)) | (simp [zup, zupJ, upd, vp_updL]; exact (hU (b + 1) (by omega)))) dX8_fillAll_80 ?_
                      refine z_aload_n C dX8_fillAll_81 rfl 0 rfl ?_
                      refine z_getr C ff_X8_128 82 (by decide) sh82 rfl dX8_fillAll_82 ?_
                      refine z_iload_n C dX8_fillAll_85 rfl 3 rfl ?_
                      refine z_iald C 108 (by decide) sh108 b (by omega) (by decide) rfl (v := nI (u b)) (by first | exact (hU b (by omega)) | (simp [zup, zupJ, upd, vp_updL]; exact (hU b (by omega)))) dX8_fillAll_86 ?_
                      refine z_iconst C (v := -1) dX8_fillAll_87 (by decide) ?_
                      refine z_ixor C dX8_fillAll_88 ?_
                      refine z_iand C dX8_fillAll_89 ?_
                      refine z_iand C dX8_fillAll_90 ?_
                      refine z_ti (y := nI (S b &&& (u (b + 1) ^^^ (u (b + 1) &&& u b)))) (by rw [andn_N, nI_and]) ?_
                      refine z_iast C 109 (by decide) sh109 b (by omega) (by decide) rfl dX8_fillAll_91 ?_
                      refine z_I (I' := zup (zup (zup I 109 (upd SB b (nI (S b &&& (u (b + 1) ^^^ (u (b + 1) &&& u b)))))) 107 GR) 108 UR) (by funext zk; simp only [zup]; split <;> simp_all [zup]) ?_
                      refine z_iinc C hm 3 (v := nI (b + 1)) (lv' := [(3, .int (nI (b + 1))), (0, .ref (zad w 82)), (1, .int (nI (N + 1))), (2, .int (nI k))]) dX8_fillAll_92 rfl (nI_add b 1) (by decide) rfl ?_
                      refine z_goto (tgt := 58) C dX8_fillAll_95 (by decide) ?_
                      exact z_sub [1, 2, 3, 0] rfl (ih58  (b + 1) (upd SB b (nI (S b &&& (u (b + 1) ^^^ (u (b + 1) &&& u b))))) _ _ (by omega) (by omega) (fun j hj => by
                          by_cases z : j = b
                          · rw [z, upd_s]; simp only [if_pos (show b < bk by omega)]
                          · rw [upd_n z]; exact hSB1 j (by omega)) (fun j hj => by rw [upd_n (by omega)]; exact hSB2 j (by omega)) rfl rfl)
                exact z_sub [2, 1, 3, 0] rfl (L58 _ 0 SR _ _ (Nat.lt_succ_self _) (Nat.zero_le _) (fun _ h0 => absurd h0 (Nat.not_lt_zero _)) (fun _ _ => rfl) rfl rfl)
        exact z_sub [2, 1, 0] rfl (L41 _ F0 1 (fun _ => 0) (fun _ => 0) 0 (fun _ => 255) (upd (I 107) 0 0) (upd (I 108) 0 0) SR _ _ _ (Nat.lt_succ_self _) (by omega) hF0 (fun j hj => by rw [show j = 0 by omega]; exact upd_s) (fun j hj => by rw [show j = 0 by omega]; exact upd_s) (fun _ _ => Nat.zero_le _) (fun _ _ => by show 0 < 256; decide) (fun b hb => hS0 b (by omega)) (fun _ => by show 255 < 256; decide) rfl (pm1 0).symm (by funext zk; by_cases h107 : zk = 107 <;> by_cases h108 : zk = 108 <;> by_cases h109 : zk = 109 <;> simp [zup, h107, h108, h109]))
      · skip
        refine z_aload_n C dX8_fillAll_8 rfl 0 rfl ?_
        refine z_getr C ff_X8_131 82 (by decide) sh82 rfl dX8_fillAll_9 ?_
        refine z_iload_n C dX8_fillAll_12 rfl 1 rfl ?_
        refine z_sipush C (v := 255) dX8_fillAll_13 (by decide) ?_
        refine z_iast C 109 (by decide) sh109 i (by omega) (by decide) rfl dX8_fillAll_16 ?_
        refine z_I (I' := zup I 109 (upd SR i 255)) (by rw [zup_s, zup_up]) ?_
        refine z_iinc C hm 1 (v := nI (i + 1)) (lv' := [(1, .int (nI (i + 1))), (0, .ref (zad w 82))]) dX8_fillAll_17 rfl (nI_add i 1) (by decide) rfl ?_
        refine z_goto (tgt := 2) C dX8_fillAll_20 (by decide) ?_
        exact z_sub [1, 0] rfl (ih2  (i + 1) (upd SR i 255) _ _ (by omega) (by omega) (lt_u (f := fun _ => 255) hS0 rfl) rfl rfl)
  exact z_sub [1, 0] rfl (L2 _ 0 (I 109) _ _ (Nat.lt_succ_self _) (by decide) (fun _ h0 => absurd h0 (Nat.not_lt_zero _)) rfl (zup_id).symm)
