/-! the reference: rings -/
theorem zpop_s : ∀ k, k < 9 → ∀ m, m < 2 ^ k → zpop (m + 2 ^ k) = zpop m + 1 := by decide +kernel
theorem zpop_ds : ∀ j, j < 10 → ∀ m, m < 512 → zpop (m / 2 ^ j) + zpop (m % 2 ^ j) = zpop m := by decide +kernel
theorem zpop_z {P : Nat → Bool} {k : Nat} (hk : k < 9) : zpop (zset P (k + 1)) = zpop (zset P k) + (if P k = true then 1 else 0) := by
  rw [zset]
  by_cases h : P k = true
  · rw [if_pos h, if_pos h]; exact zpop_s k hk _ (zset_lt k)
  · rw [if_neg h, if_neg h, Nat.add_zero, Nat.add_zero]
theorem zset_512 {P : Nat → Bool} {n : Nat} (h : n ≤ 9) : zset P n < 512 := Nat.lt_of_lt_of_le (zset_lt n) (Nat.pow_le_pow_right (n := 2) (by decide) h)
/-- pairs counted from below -/
def zPm (D : Nat → Nat) : Nat → Nat
  | 0 => 0
  | a + 1 => zPm D a + zpop (zset (zAl D a) a)
def zPu (D : Nat → Nat) (n : Nat) : Nat → Nat
  | 0 => 0
  | a + 1 => zPu D n a + (zpop (zset (zAl D a) n) - zpop (zset (zAl D a) (a + 1)))
theorem zAl_sym {D : Nat → Nat} {a b : Nat} : zAl D a b = zAl D b a := by
  unfold zAl
  refine decide_eq_decide.mpr ⟨fun h => ⟨by rw [h.2]; exact h.1, h.2.symm⟩, fun h => ⟨by rw [h.2]; exact h.1, h.2.symm⟩⟩
theorem zpop_mono {P : Nat → Bool} {j : Nat} : ∀ n, j ≤ n → n ≤ 9 → zpop (zset P j) ≤ zpop (zset P n)
  | 0, h, _ => by rw [show j = 0 by omega]; exact Nat.le_refl _
  | n + 1, h, h9 => by
    by_cases q : j = n + 1
    · rw [q]; exact Nat.le_refl _
    · have := zpop_mono (P := P) (j := j) n (by omega) (by omega)
      rw [zpop_z (by omega)]; omega
theorem zPr_u {D : Nat → Nat} {n : Nat} (hn : n ≤ 8) : ∀ a, a ≤ n → zPr D n a = zPu D n a
  | 0, _ => rfl
  | a + 1, h => by
    rw [zPr, zPu, zPr_u hn a (by omega)]
    have h1 := zpop_ds (a + 1) (by omega) (zset (zAl D a) n) (zset_512 (by omega))
    rw [zset_mod (by omega)] at h1
    omega
theorem zPu_s {D : Nat → Nat} {n : Nat} (hn : n < 8) : ∀ a, a ≤ n → zPu D (n + 1) a = zPu D n a + zpop (zset (zAl D n) a)
  | 0, _ => by show 0 = 0 + zpop 0; rfl
  | a + 1, h => by
    have ih := zPu_s (D := D) hn a (by omega)
    have h1 := zpop_z (P := zAl D a) (k := n) (by omega)
    have h2 := zpop_z (P := zAl D n) (k := a) (by omega)
    have h3 := zpop_mono (P := zAl D a) (j := a + 1) n (by omega) (by omega)
    rw [zAl_sym] at h1
    rw [zPu, zPu, ih, h2, h1]
    omega
theorem zPu_m {D : Nat → Nat} : ∀ n, n ≤ 8 → zPu D n n = zPm D n
  | 0, _ => rfl
  | n + 1, h => by
    have h1 := zPu_s (D := D) (n := n) (by omega) n (Nat.le_refl _)
    rw [zPu, h1, zPu_m n (by omega), zPm]
    omega
theorem zPr_m {D : Nat → Nat} {n : Nat} (hn : n ≤ 8) : zPr D n n = zPm D n := (zPr_u hn n (Nat.le_refl _)).trans (zPu_m n hn)
theorem zPm_le {D : Nat → Nat} : ∀ a, zPm D a ≤ 9 * a
  | 0 => Nat.le_refl _
  | a + 1 => by have := zPm_le (D := D) a; have := zpop_le (zset (zAl D a) a); rw [zPm]; omega
/-- the lots parted: the least number of names -/
def zFw (p d many : Nat) (v : Int32) : Prop := (∃ k, k ≤ many ∧ p ≤ k * d ∧ (∀ j, j < k → j * d < p) ∧ v = nI k) ∨ ((∀ k, k ≤ many → k * d < p) ∧ v = -5)
theorem cdiv {p d : Nat} (hd : 0 < d) : p ≤ (p + d - 1) / d * d ∧ ∀ j, p ≤ j * d → (p + d - 1) / d ≤ j := by
  have h := Nat.div_add_mod (p + d - 1) d
  have h2 := Nat.mod_lt (p + d - 1) hd
  rw [Nat.mul_comm] at h
  refine ⟨by omega, fun j hj => ?_⟩
  have h3 : (p + d - 1) / d < j + 1 := (Nat.div_lt_iff_lt_mul hd).mpr (by rw [Nat.succ_mul]; omega)
  omega
theorem zFw_pt {p la kn : Nat} {v : Int32} (h : zFw p (la - 1) kn v) : v = zPt p la kn := by
  unfold zPt
  by_cases hp : p = 0
  · rw [if_pos hp]
    rcases h with ⟨k, h1, h2, h3, h4⟩ | ⟨h1, _⟩
    · have : k = 0 := by
        rcases Nat.eq_zero_or_pos k with q | q
        · exact q
        · have := h3 0 q; omega
      rw [h4, this]; rfl
    · have := h1 0 (Nat.zero_le _); omega
  · rw [if_neg hp]
    by_cases hl : la < 2
    · rw [if_pos hl]
      rcases h with ⟨k, h1, h2, h3, h4⟩ | ⟨_, h1⟩
      · rw [show la - 1 = 0 by omega, Nat.mul_zero] at h2; omega
      · exact h1
    · rw [if_neg hl]
      obtain ⟨c1, c2⟩ := cdiv (p := p) (d := la - 1) (by omega)
      rcases h with ⟨k, h1, h2, h3, h4⟩ | ⟨h1, h2⟩
      · have e1 := c2 k h2
        have e2 : ¬ (p + (la - 1) - 1) / (la - 1) < k := fun q => by have := h3 _ q; omega
        rw [if_pos (by omega), h4, show k = (p + (la - 1) - 1) / (la - 1) by omega]
      · rw [if_neg (fun q => by have := h1 _ q; omega)]; exact h2
theorem zFw_ok {p d many k : Nat} {v : Int32} (hm : many ≤ 9) (hk : k ≤ 9) (h : zFw p d many v) : ((0 : Int32) ≤ v ∧ v ≤ nI k) ∨ ¬ p ≤ min k many * d := by
  rcases h with ⟨j, h1, h2, h3, h4⟩ | ⟨h1, h2⟩
  · by_cases q : j ≤ k
    · left; rw [h4]; exact ⟨nI_pos' (by omega), (nI_leI (by omega) (by omega)).mpr q⟩
    · right; intro w
      have := h3 (min k many) (by omega)
      omega
  · right; intro w
    have := h1 (min k many) (by omega)
    omega
theorem zFw_no {p d many k : Nat} {v : Int32} (hm : many ≤ 9) (hk : k ≤ 9) (h : zFw p d many v) (h0 : (0 : Int32) ≤ v) (h1 : v ≤ nI k) : p ≤ min k many * d := by
  rcases h with ⟨j, g1, g2, g3, g4⟩ | ⟨g1, g2⟩
  · rw [g4] at h1
    have := (nI_leI (by omega) (by omega)).mp h1
    exact Nat.le_trans g2 (Nat.mul_le_mul_right _ (by omega))
  · rw [g2] at h0; exact absurd h0 (by decide)
/-- the least watch that parts -/
theorem zWt_y {p k kn w : Nat} (hw1 : 1 ≤ w) (hw : w < 1000) (h : p ≤ min k kn * (w - 1)) (hn : ∀ u, 1 ≤ u → u < w → ¬ p ≤ min k kn * (u - 1)) : nI w = zWt p k kn := by
  unfold zWt
  by_cases hp : p = 0
  · rw [if_pos hp]
    have : w = 1 := by
      rcases Nat.lt_or_ge 1 w with q | q
      · exact absurd (by rw [hp]; exact Nat.zero_le _) (hn 1 (by decide) q)
      · omega
    rw [this]; rfl
  · rw [if_neg hp]
    generalize min k kn = b at *
    by_cases hb : b < 1
    · rw [show b = 0 by omega, Nat.zero_mul] at h; omega
    · rw [if_neg hb]
      obtain ⟨c1, c2⟩ := cdiv (p := p) (d := b) (by omega)
      have e1 := c2 (w - 1) (by rw [Nat.mul_comm]; exact h)
      have e2 : ¬ (p + b - 1) / b + 1 < w := fun q => hn ((p + b - 1) / b + 1) (Nat.le_add_left 1 _) q (by rw [Nat.add_sub_cancel, Nat.mul_comm]; exact c1)
      rw [if_pos (by omega), show w = (p + b - 1) / b + 1 by omega]
theorem zWt_n {p k kn : Nat} (hn : ∀ u, 1 ≤ u → u < 1000 → ¬ p ≤ min k kn * (u - 1)) : -5 = zWt p k kn := by
  unfold zWt
  by_cases hp : p = 0
  · exact absurd (by rw [hp]; exact Nat.zero_le _) (hn 1 (by decide) (by decide))
  · rw [if_neg hp]
    generalize min k kn = b at *
    by_cases hb : b < 1
    · rw [if_pos hb]
    · rw [if_neg hb]
      obtain ⟨c1, c2⟩ := cdiv (p := p) (d := b) (by omega)
      rw [if_neg (fun q => hn ((p + b - 1) / b + 1) (Nat.le_add_left 1 _) (by omega) (by rw [Nat.add_sub_cancel, Nat.mul_comm]; exact c1))]
/-- pairs of one name with those below it, as far as b -/
def zpc (Q : Nat → Bool) (a b : Nat) : Nat := zpop (zset Q (min b a))
theorem zpc_n {Q : Nat → Bool} {a b : Nat} (h : ¬ Q b = true) : zpc Q a (b + 1) = zpc Q a b := by
  unfold zpc
  by_cases q : b < a
  · rw [show min (b + 1) a = b + 1 by omega, show min b a = b by omega, zset, if_neg h, Nat.add_zero]
  · rw [show min (b + 1) a = a by omega, show min b a = a by omega]
theorem zpc_y {Q : Nat → Bool} {a b : Nat} (hb : b < 9) (h : Q b = true) : zpc Q a (b + 1) = zpc Q a b + (if b < a then 1 else 0) := by
  unfold zpc
  by_cases q : b < a
  · rw [show min (b + 1) a = b + 1 by omega, show min b a = b by omega, if_pos q, zpop_z hb, if_pos h]
  · rw [show min (b + 1) a = a by omega, show min b a = a by omega, if_neg q, Nat.add_zero]
theorem zpc_e {Q : Nat → Bool} {a n : Nat} (h : a < n) : zpc Q a n = zpop (zset Q a) := by
  unfold zpc; rw [show min n a = a by omega]
theorem dif_gt {x y : Nat} (hx : x ≤ 9) (hy : y ≤ 9) : (0 : Int32) < nI x - nI y ↔ y < x := by
  rw [Int32.lt_iff_toInt_lt, pk_sub_toInt (by omega) (by omega)]
  have : (0 : Int32).toInt = 0 := by decide
  omega
theorem dif_eq {x y : Nat} (hx : x ≤ 9) (hy : y ≤ 9) : nI x - nI y = 0 ↔ x = y := by
  constructor
  · intro h
    have h2 := congrArg Int32.toInt h
    rw [pk_sub_toInt (by omega) (by omega)] at h2
    have : (0 : Int32).toInt = 0 := by decide
    omega
  · intro h; rw [h, pk_sub (Nat.le_refl _), Nat.sub_self]; rfl
theorem zin_21 {x : Int32} (h : zin x 2) (h0 : ¬ x = 0) : x = 1 := by
  obtain ⟨k, h1, h2⟩ := h
  have : k ≠ 0 := fun q => h0 (by rw [h2, q]; rfl)
  rw [h2, show k = 1 by omega]; rfl
abbrev rm_X8_ring : Room := { frames := 5, cells := 0, slots := 0, locals := 223 }
set_option maxRecDepth 100000 in
set_option maxHeartbeats 4000000 in
theorem k_X8_ring (w : zW) (I : zI) (J : zJ) (n tr h : Nat) (A : List zCla) (jn lt : Nat → Int32) (hd : Nat → Option Nat) (bu ho lo fr : Nat → Nat) (x : Int32) (hn : n ≤ 8) (htr : tr ≤ 16) (hh : h < 7) (hd99 : ∀ a k, hd a = some k → k ≤ 99) (hS : mS I n tr h A jn lt hd bu ho lo fr) : zMet yX8_ring cX8_ring 7 (some .int) rm_X8_ring w [.ref (zad w 82), .int x] I J (zpi (fun v I' J' => v = (if x = 0 then nI (zPr (fun a => zset (zDy bu fr a tr) 9) n n) else if x = 1 then nI (zRg (fun a => zset (zDy bu fr a tr) 9) n n) else -1) ∧ I' = I ∧ J' = J)) := by
  refine zMet_of (by decide) (Nat.le_of_ble_eq_true rfl) (fun X C hm hr => ?_)
  refine z_sub (lv' := [(0, .ref (zad w 82)), (1, .int x)]) [0, 1] rfl ?_
  obtain ⟨hN, hT, hM, hJn, hLt, hHd, hB, hO, hLo, hF⟩ := id hS
  have hbu8 : ∀ t, t < tr → I 101 t = nI (bu t) ∧ bu t < 8 := fun t ht => ⟨(hB t ht).1, by have := (hB t ht).2; omega⟩
  have hD9 : ∀ a, (zset (zDy bu fr a tr) 9) < 512 := fun a => zset_512 (by decide)
  refine z_aload_n C dX8_ring_0 rfl 0 rfl ?_
  refine z_iload_n C dX8_ring_1 rfl 1 rfl ?_
  refine z_iconst C (v := 0) dX8_ring_2 (by decide) ?_
  refine z_iconst C (v := 1) dX8_ring_3 (by decide) ?_
  refine z_callVi C hm cl_X8_189 cv_X8_in 82 (by decide) sh82 ⟨_, _, rfl⟩ [.int x, .int 0, .int 1] rfl (rest := []) rfl (k_X8_in w _ _ x (0) (1)) ⟨rfl, rfl, Nat.le_of_ble_eq_true rfl, Nat.le_of_ble_eq_true rfl⟩ (Nat.le_of_ble_eq_true rfl) dX8_ring_4 (fun v_1 I_1 J_1 h_1 => ?_)
  obtain ⟨ev_1, ei_1, ej_1⟩ := h_1
  replace ei_1 := ei_1.symm; subst ei_1
  replace ej_1 := ej_1.symm; subst ej_1
  replace ev_1 := ev_1.trans (bI_c (in_z (m := 1) (by decide))); subst ev_1
  refine z_ifne_b (tgt := 12) C dX8_ring_7 (by decide) (fun c7 => ?_) (fun c7 => ?_)
  · skip
    refine z_iconst C (v := 0) dX8_ring_12 (by decide) ?_
    refine z_istore_n C hm (lv' := [(2, .int 0), (0, .ref (zad w 82)), (1, .int x)]) dX8_ring_13 rfl (by decide) rfl ?_
    refine z_iconst C (v := 0) dX8_ring_14 (by decide) ?_
    refine z_istore_n C hm (lv' := [(3, .int 0), (2, .int 0), (0, .ref (zad w 82)), (1, .int x)]) dX8_ring_15 rfl (by decide) rfl ?_
    refine z_iconst C (v := 0) dX8_ring_16 (by decide) ?_
    refine z_istore C hm (lv' := [(4, .int 0), (3, .int 0), (2, .int 0), (0, .ref (zad w 82)), (1, .int x)]) dX8_ring_17 (by decide) rfl ?_
    have L19 : ∀ (d : Nat) (a : Nat) (v19_2 : Int32) (v19_3 : Int32) (v19_4 : Int32), (n - a) < d → (a ≤ n) → v19_2 = nI (zPm (fun a => zset (zDy bu fr a tr) 9) a) → v19_3 = nI (zRg (fun a => zset (zDy bu fr a tr) 9) n a) → v19_4 = nI a → Z X w I J 19 [(0, .ref (zad w 82)), (1, .int x), (2, .int v19_2), (3, .int v19_3), (4, .int v19_4)] [] := by
      intro d
      induction d with
      | zero => intro a v19_2 v19_3 v19_4 hd; exact absurd hd (Nat.not_lt_zero _)
      | succ d ih19 => 
        intro a v19_2 v19_3 v19_4 hd19 ha e_v19_2 e_v19_3 e_v19_4
        replace e_v19_2 := e_v19_2.symm; subst e_v19_2
        replace e_v19_3 := e_v19_3.symm; subst e_v19_3
        replace e_v19_4 := e_v19_4.symm; subst e_v19_4
        refine z_iload C dX8_ring_19 4 rfl ?_
        refine z_aload_n C dX8_ring_21 rfl 0 rfl ?_
        refine z_geti C ff_X8_7 82 (by decide) sh82 rfl (v := nI n) hN dX8_ring_22 ?_
        refine z_icmp_ge_n a n (tgt := 152) C rfl rfl (by omega) (by omega) dX8_ring_25 (by decide) (fun c25 => ?_) (fun c25 => ?_)
        · skip
          have han : a = n := by omega
          refine z_iload_n C dX8_ring_152 rfl 1 rfl ?_
          refine z_if_ne (tgt := 160) C dX8_ring_153 (by decide) (fun c153 => ?_) (fun c153 => ?_)
          · skip
            refine z_iload_n C dX8_ring_160 rfl 3 rfl ?_
            refine z_iret C hr rfl dX8_ring_161 ?_
            refine ⟨_, rfl, ?_⟩
            exact ⟨by rw [if_neg c153, if_pos (zin_21 c7 c153), han], rfl, rfl⟩
          · skip
            refine z_iload_n C dX8_ring_156 rfl 2 rfl ?_
            refine z_goto (tgt := 161) C dX8_ring_157 (by decide) ?_
            refine z_iret C hr rfl dX8_ring_161 ?_
            refine ⟨_, rfl, ?_⟩
            exact ⟨by rw [if_pos c153, zPr_m hn, han], rfl, rfl⟩
        · skip
          have hzs : (zset (zAl (fun a => zset (zDy bu fr a tr) 9) a) n) < 2 ^ n := zset_lt n
          have hp8 := p2_8 hn
          have hz2 := zRg_lt (D := (fun a => zset (zDy bu fr a tr) 9)) (n := n) a
          have hq1 := zpop_le (zset (zAl (fun a => zset (zDy bu fr a tr) 9) a) n)
          have hq2 := zpop_le (zRg (fun a => zset (zDy bu fr a tr) 9) n a)
          refine z_iconst C (v := 0) dX8_ring_28 (by decide) ?_
          refine z_istore C hm (lv' := [(5, .int 0), (0, .ref (zad w 82)), (1, .int x), (2, .int (nI (zPm (fun a => zset (zDy bu fr a tr) 9) a))), (3, .int (nI (zRg (fun a => zset (zDy bu fr a tr) 9) n a))), (4, .int (nI a))]) dX8_ring_29 (by decide) rfl ?_
          refine z_iconst C (v := 0) dX8_ring_31 (by decide) ?_
          refine z_istore C hm (lv' := [(6, .int 0), (5, .int 0), (0, .ref (zad w 82)), (1, .int x), (2, .int (nI (zPm (fun a => zset (zDy bu fr a tr) 9) a))), (3, .int (nI (zRg (fun a => zset (zDy bu fr a tr) 9) n a))), (4, .int (nI a))]) dX8_ring_32 (by decide) rfl ?_
          have L34 : ∀ (d : Nat) (b : Nat) (v34_2 : Int32) (v34_5 : Int32) (v34_6 : Int32), (n - b) < d → (b ≤ n) → v34_2 = nI (zPm (fun a => zset (zDy bu fr a tr) 9) a + zpc (zAl (fun a => zset (zDy bu fr a tr) 9) a) a b) → v34_5 = nI (zset (zAl (fun a => zset (zDy bu fr a tr) 9) a) b) → v34_6 = nI b → Z X w I J 34 [(0, .ref (zad w 82)), (1, .int x), (2, .int v34_2), (3, .int (nI (zRg (fun a => zset (zDy bu fr a tr) 9) n a))), (4, .int (nI a)), (5, .int v34_5), (6, .int v34_6)] [] := by
            intro d
            induction d with
            | zero => intro b v34_2 v34_5 v34_6 hd; exact absurd hd (Nat.not_lt_zero _)
            | succ d ih34 => 
              intro b v34_2 v34_5 v34_6 hd34 hb e_v34_2 e_v34_5 e_v34_6
              replace e_v34_2 := e_v34_2.symm; subst e_v34_2
              replace e_v34_5 := e_v34_5.symm; subst e_v34_5
              replace e_v34_6 := e_v34_6.symm; subst e_v34_6
              refine z_iload C dX8_ring_34 6 rfl ?_
              refine z_aload_n C dX8_ring_36 rfl 0 rfl ?_
              refine z_geti C ff_X8_7 82 (by decide) sh82 rfl (v := nI n) hN dX8_ring_37 ?_
              refine z_icmp_ge_n b n (tgt := 100) C rfl rfl (by omega) (by omega) dX8_ring_40 (by decide) (fun c40 => ?_) (fun c40 => ?_)
              · skip
                have hbn : b = n := by omega
                rw [hbn]
                refine z_aload_n C dX8_ring_100 rfl 0 rfl ?_
                refine z_iload C dX8_ring_101 5 rfl ?_
                refine z_callVi C hm cl_X8_293 cv_X8_ones 82 (by decide) sh82 ⟨_, _, rfl⟩ [.int (nI (zset (zAl (fun a => zset (zDy bu fr a tr) 9) a) n))] rfl (rest := []) rfl (k_X8_ones w _ _  (zset (zAl (fun a => zset (zDy bu fr a tr) 9) a) n) (by omega)) ⟨rfl, rfl, Nat.le_of_ble_eq_true rfl, Nat.le_of_ble_eq_true rfl⟩ (Nat.le_of_ble_eq_true rfl) dX8_ring_103 (fun v_2 I_2 J_2 h_2 => ?_)
                obtain ⟨ev_2, ei_2, ej_2⟩ := h_2
                replace ev_2 := ev_2.symm; subst ev_2
                replace ei_2 := ei_2.symm; subst ei_2
                replace ej_2 := ej_2.symm; subst ej_2
                refine z_iconst C (v := 2) dX8_ring_106 (by decide) ?_
                refine z_icmp_ge_n (zpop (zset (zAl (fun a => zset (zDy bu fr a tr) 9) a) n)) 2 (tgt := 113) C rfl rfl (by omega) (by omega) dX8_ring_107 (by decide) (fun c107 => ?_) (fun c107 => ?_)
                · skip
                  refine z_aload_n C dX8_ring_113 rfl 0 rfl ?_
                  refine z_iload C dX8_ring_114 5 rfl ?_
                  refine z_callVi C hm cl_X8_293 cv_X8_ones 82 (by decide) sh82 ⟨_, _, rfl⟩ [.int (nI (zset (zAl (fun a => zset (zDy bu fr a tr) 9) a) n))] rfl (rest := []) rfl (k_X8_ones w _ _  (zset (zAl (fun a => zset (zDy bu fr a tr) 9) a) n) (by omega)) ⟨rfl, rfl, Nat.le_of_ble_eq_true rfl, Nat.le_of_ble_eq_true rfl⟩ (Nat.le_of_ble_eq_true rfl) dX8_ring_116 (fun v_3 I_3 J_3 h_3 => ?_)
                  obtain ⟨ev_3, ei_3, ej_3⟩ := h_3
                  replace ev_3 := ev_3.symm; subst ev_3
                  replace ei_3 := ei_3.symm; subst ei_3
                  replace ej_3 := ej_3.symm; subst ej_3
                  refine z_aload_n C dX8_ring_119 rfl 0 rfl ?_
                  refine z_iload_n C dX8_ring_120 rfl 3 rfl ?_
                  refine z_callVi C hm cl_X8_293 cv_X8_ones 82 (by decide) sh82 ⟨_, _, rfl⟩ [.int (nI (zRg (fun a => zset (zDy bu fr a tr) 9) n a))] rfl (rest := [.int (nI (zpop (zset (zAl (fun a => zset (zDy bu fr a tr) 9) a) n)))]) rfl (k_X8_ones w _ _  (zRg (fun a => zset (zDy bu fr a tr) 9) n a) (by omega)) ⟨rfl, rfl, Nat.le_of_ble_eq_true rfl, Nat.le_of_ble_eq_true rfl⟩ (Nat.le_of_ble_eq_true rfl) dX8_ring_121 (fun v_4 I_4 J_4 h_4 => ?_)
                  obtain ⟨ev_4, ei_4, ej_4⟩ := h_4
                  replace ev_4 := ev_4.symm; subst ev_4
                  replace ei_4 := ei_4.symm; subst ei_4
                  replace ej_4 := ej_4.symm; subst ej_4
                  refine z_isub C dX8_ring_124 ?_
                  refine z_istore C hm (lv' := [(6, .int ((nI (zpop (zset (zAl (fun a => zset (zDy bu fr a tr) 9) a) n))) - (nI (zpop (zRg (fun a => zset (zDy bu fr a tr) 9) n a))))), (0, .ref (zad w 82)), (1, .int x), (2, .int (nI (zPm (fun a => zset (zDy bu fr a tr) 9) a + zpc (zAl (fun a => zset (zDy bu fr a tr) 9) a) a n))), (3, .int (nI (zRg (fun a => zset (zDy bu fr a tr) 9) n a))), (4, .int (nI a)), (5, .int (nI (zset (zAl (fun a => zset (zDy bu fr a tr) 9) a) n)))]) dX8_ring_125 (by decide) rfl ?_
                  refine z_iload C dX8_ring_127 0 rfl ?_
                  refine z_if_gt (tgt := 143) C dX8_ring_129 (by decide) (fun c129 => ?_) (fun c129 => ?_)
                  · skip
                    have hmo := (dif_gt hq1 hq2).mp c129
                    refine z_iload C dX8_ring_143 6 rfl ?_
                    refine z_istore_n C hm (lv' := [(3, .int (nI (zset (zAl (fun a => zset (zDy bu fr a tr) 9) a) n))), (6, .int ((nI (zpop (zset (zAl (fun a => zset (zDy bu fr a tr) 9) a) n))) - (nI (zpop (zRg (fun a => zset (zDy bu fr a tr) 9) n a))))), (0, .ref (zad w 82)), (1, .int x), (2, .int (nI (zPm (fun a => zset (zDy bu fr a tr) 9) a + zpc (zAl (fun a => zset (zDy bu fr a tr) 9) a) a n))), (4, .int (nI a)), (5, .int (nI (zset (zAl (fun a => zset (zDy bu fr a tr) 9) a) n)))]) dX8_ring_145 rfl (by decide) rfl ?_
                    refine z_iinc C hm 5 (v := nI (a + 1)) (lv' := [(4, .int (nI (a + 1))), (3, .int (nI (zset (zAl (fun a => zset (zDy bu fr a tr) 9) a) n))), (6, .int ((nI (zpop (zset (zAl (fun a => zset (zDy bu fr a tr) 9) a) n))) - (nI (zpop (zRg (fun a => zset (zDy bu fr a tr) 9) n a))))), (0, .ref (zad w 82)), (1, .int x), (2, .int (nI (zPm (fun a => zset (zDy bu fr a tr) 9) a + zpc (zAl (fun a => zset (zDy bu fr a tr) 9) a) a n))), (5, .int (nI (zset (zAl (fun a => zset (zDy bu fr a tr) 9) a) n)))]) dX8_ring_146 rfl (nI_add a 1) (by decide) rfl ?_
                    refine z_goto (tgt := 19) C dX8_ring_149 (by decide) ?_
                    exact z_sub [3, 4, 5, 1, 0] rfl (ih19  (a + 1) _ _ _ (by omega) (by omega) (by rw [zPm, zpc_e (by omega)]) (by rw [zRg, if_pos ⟨by omega, Or.inl (by omega)⟩]) rfl)
                  · skip
                    have hmo : ¬ zpop (zRg (fun a => zset (zDy bu fr a tr) 9) n a) < zpop (zset (zAl (fun a => zset (zDy bu fr a tr) 9) a) n) := fun q => c129 ((dif_gt hq1 hq2).mpr q)
                    refine z_iload C dX8_ring_132 0 rfl ?_
                    refine z_if_ne (tgt := 146) C dX8_ring_134 (by decide) (fun c134 => ?_) (fun c134 => ?_)
                    · skip
                      have hmz : ¬ zpop (zset (zAl (fun a => zset (zDy bu fr a tr) 9) a) n) = zpop (zRg (fun a => zset (zDy bu fr a tr) 9) n a) := fun q => c134 ((dif_eq hq1 hq2).mpr q)
                      refine z_iinc C hm 5 (v := nI (a + 1)) (lv' := [(4, .int (nI (a + 1))), (6, .int ((nI (zpop (zset (zAl (fun a => zset (zDy bu fr a tr) 9) a) n))) - (nI (zpop (zRg (fun a => zset (zDy bu fr a tr) 9) n a))))), (0, .ref (zad w 82)), (1, .int x), (2, .int (nI (zPm (fun a => zset (zDy bu fr a tr) 9) a + zpc (zAl (fun a => zset (zDy bu fr a tr) 9) a) a n))), (3, .int (nI (zRg (fun a => zset (zDy bu fr a tr) 9) n a))), (5, .int (nI (zset (zAl (fun a => zset (zDy bu fr a tr) 9) a) n)))]) dX8_ring_146 rfl (nI_add a 1) (by decide) rfl ?_
                      refine z_goto (tgt := 19) C dX8_ring_149 (by decide) ?_
                      exact z_sub [2, 3, 4, 5, 0] rfl (ih19  (a + 1) _ _ _ (by omega) (by omega) (by rw [zPm, zpc_e (by omega)]) (by rw [zRg, if_neg (fun q => by omega)]) rfl)
                    · skip
                      have hmz := (dif_eq hq1 hq2).mp c134
                      refine z_iload C dX8_ring_137 6 rfl ?_
                      refine z_iload_n C dX8_ring_139 rfl 4 rfl ?_
                      refine z_icmp_ge_n (zset (zAl (fun a => zset (zDy bu fr a tr) 9) a) n) (zRg (fun a => zset (zDy bu fr a tr) 9) n a) (tgt := 146) C rfl rfl (by omega) (by omega) dX8_ring_140 (by decide) (fun c140 => ?_) (fun c140 => ?_)
                      · skip
                        refine z_iinc C hm 5 (v := nI (a + 1)) (lv' := [(4, .int (nI (a + 1))), (6, .int ((nI (zpop (zset (zAl (fun a => zset (zDy bu fr a tr) 9) a) n))) - (nI (zpop (zRg (fun a => zset (zDy bu fr a tr) 9) n a))))), (0, .ref (zad w 82)), (1, .int x), (2, .int (nI (zPm (fun a => zset (zDy bu fr a tr) 9) a + zpc (zAl (fun a => zset (zDy bu fr a tr) 9) a) a n))), (3, .int (nI (zRg (fun a => zset (zDy bu fr a tr) 9) n a))), (5, .int (nI (zset (zAl (fun a => zset (zDy bu fr a tr) 9) a) n)))]) dX8_ring_146 rfl (nI_add a 1) (by decide) rfl ?_
                        refine z_goto (tgt := 19) C dX8_ring_149 (by decide) ?_
                        exact z_sub [2, 3, 4, 5, 0] rfl (ih19  (a + 1) _ _ _ (by omega) (by omega) (by rw [zPm, zpc_e (by omega)]) (by rw [zRg, if_neg (fun q => by omega)]) rfl)
                      · skip
                        refine z_iload C dX8_ring_143 6 rfl ?_
                        refine z_istore_n C hm (lv' := [(3, .int (nI (zset (zAl (fun a => zset (zDy bu fr a tr) 9) a) n))), (6, .int ((nI (zpop (zset (zAl (fun a => zset (zDy bu fr a tr) 9) a) n))) - (nI (zpop (zRg (fun a => zset (zDy bu fr a tr) 9) n a))))), (0, .ref (zad w 82)), (1, .int x), (2, .int (nI (zPm (fun a => zset (zDy bu fr a tr) 9) a + zpc (zAl (fun a => zset (zDy bu fr a tr) 9) a) a n))), (4, .int (nI a)), (5, .int (nI (zset (zAl (fun a => zset (zDy bu fr a tr) 9) a) n)))]) dX8_ring_145 rfl (by decide) rfl ?_
                        refine z_iinc C hm 5 (v := nI (a + 1)) (lv' := [(4, .int (nI (a + 1))), (3, .int (nI (zset (zAl (fun a => zset (zDy bu fr a tr) 9) a) n))), (6, .int ((nI (zpop (zset (zAl (fun a => zset (zDy bu fr a tr) 9) a) n))) - (nI (zpop (zRg (fun a => zset (zDy bu fr a tr) 9) n a))))), (0, .ref (zad w 82)), (1, .int x), (2, .int (nI (zPm (fun a => zset (zDy bu fr a tr) 9) a + zpc (zAl (fun a => zset (zDy bu fr a tr) 9) a) a n))), (5, .int (nI (zset (zAl (fun a => zset (zDy bu fr a tr) 9) a) n)))]) dX8_ring_146 rfl (nI_add a 1) (by decide) rfl ?_
                        refine z_goto (tgt := 19) C dX8_ring_149 (by decide) ?_
                        exact z_sub [3, 4, 5, 1, 0] rfl (ih19  (a + 1) _ _ _ (by omega) (by omega) (by rw [zPm, zpc_e (by omega)]) (by rw [zRg, if_pos ⟨by omega, Or.inr ⟨by omega, by omega⟩⟩]) rfl)
                · skip
                  refine z_goto (tgt := 146) C dX8_ring_110 (by decide) ?_
                  refine z_iinc C hm 4 (v := nI (a + 1)) (lv' := [(4, .int (nI (a + 1))), (0, .ref (zad w 82)), (1, .int x), (2, .int (nI (zPm (fun a => zset (zDy bu fr a tr) 9) a + zpc (zAl (fun a => zset (zDy bu fr a tr) 9) a) a n))), (3, .int (nI (zRg (fun a => zset (zDy bu fr a tr) 9) n a))), (5, .int (nI (zset (zAl (fun a => zset (zDy bu fr a tr) 9) a) n))), (6, .int (nI n))]) dX8_ring_146 rfl (nI_add a 1) (by decide) rfl ?_
                  refine z_goto (tgt := 19) C dX8_ring_149 (by decide) ?_
                  exact z_sub [1, 2, 3, 4, 0] rfl (ih19  (a + 1) _ _ _ (by omega) (by omega) (by rw [zPm, zpc_e (by omega)]) (by rw [zRg, if_neg (fun q => by have := q.1; omega)]) rfl)
              · skip
                refine z_aload_n C dX8_ring_43 rfl 0 rfl ?_
                refine z_iload C dX8_ring_44 4 rfl ?_
                refine z_callVi C hm cl_X8_308 cv_X8_fridaysOf 82 (by decide) sh82 ⟨_, _, rfl⟩ [.int (nI a)] rfl (rest := []) rfl (k_X8_fridaysOf w _ _ tr (nI a) htr hT) ⟨rfl, rfl, Nat.le_of_ble_eq_true rfl, Nat.le_of_ble_eq_true rfl⟩ (Nat.le_of_ble_eq_true rfl) dX8_ring_46 (fun v_5 I_5 J_5 h_5 => ?_)
                obtain ⟨ev_5, ei_5, ej_5⟩ := h_5
                replace ev_5 := ev_5.symm; subst ev_5
                replace ei_5 := ei_5.symm; subst ei_5
                replace ej_5 := ej_5.symm; subst ej_5
                refine z_ti (y := nI (zset (zDy bu fr a tr) 9)) (aDays_n (by omega) hbu8 hF tr (Nat.le_refl _)) ?_
                refine z_if_eq (tgt := 94) C dX8_ring_49 (by decide) (fun c49 => ?_) (fun c49 => ?_)
                · skip
                  refine z_iinc C hm 6 (v := nI (b + 1)) (lv' := [(6, .int (nI (b + 1))), (0, .ref (zad w 82)), (1, .int x), (2, .int (nI (zPm (fun a => zset (zDy bu fr a tr) 9) a + zpc (zAl (fun a => zset (zDy bu fr a tr) 9) a) a b))), (3, .int (nI (zRg (fun a => zset (zDy bu fr a tr) 9) n a))), (4, .int (nI a)), (5, .int (nI (zset (zAl (fun a => zset (zDy bu fr a tr) 9) a) b)))]) dX8_ring_94 rfl (nI_add b 1) (by decide) rfl ?_
                  refine z_goto (tgt := 34) C dX8_ring_97 (by decide) ?_
                  exact z_sub [1, 2, 3, 4, 5, 6, 0] rfl (ih34  (b + 1) _ _ _ (by omega) (by omega) (by rw [zpc_n (fun q => (of_decide_eq_true q).1 ((nI_0eq (k := (zset (zDy bu fr a tr) 9)) (by have := hD9 a; omega)).mp c49))]) (by rw [zset, if_neg (fun q => (of_decide_eq_true q).1 ((nI_0eq (k := (zset (zDy bu fr a tr) 9)) (by have := hD9 a; omega)).mp c49)), Nat.add_zero]) rfl)
                · skip
                  refine z_aload_n C dX8_ring_52 rfl 0 rfl ?_
                  refine z_iload C dX8_ring_53 4 rfl ?_
                  refine z_callVi C hm cl_X8_308 cv_X8_fridaysOf 82 (by decide) sh82 ⟨_, _, rfl⟩ [.int (nI a)] rfl (rest := []) rfl (k_X8_fridaysOf w _ _ tr (nI a) htr hT) ⟨rfl, rfl, Nat.le_of_ble_eq_true rfl, Nat.le_of_ble_eq_true rfl⟩ (Nat.le_of_ble_eq_true rfl) dX8_ring_55 (fun v_6 I_6 J_6 h_6 => ?_)
                  obtain ⟨ev_6, ei_6, ej_6⟩ := h_6
                  replace ev_6 := ev_6.symm; subst ev_6
                  replace ei_6 := ei_6.symm; subst ei_6
                  replace ej_6 := ej_6.symm; subst ej_6
                  refine z_ti (y := nI (zset (zDy bu fr a tr) 9)) (aDays_n (by omega) hbu8 hF tr (Nat.le_refl _)) ?_
                  refine z_aload_n C dX8_ring_58 rfl 0 rfl ?_
                  refine z_iload C dX8_ring_59 6 rfl ?_
                  refine z_callVi C hm cl_X8_308 cv_X8_fridaysOf 82 (by decide) sh82 ⟨_, _, rfl⟩ [.int (nI b)] rfl (rest := [.int (nI (zset (zDy bu fr a tr) 9))]) rfl (k_X8_fridaysOf w _ _ tr (nI b) htr hT) ⟨rfl, rfl, Nat.le_of_ble_eq_true rfl, Nat.le_of_ble_eq_true rfl⟩ (Nat.le_of_ble_eq_true rfl) dX8_ring_61 (fun v_7 I_7 J_7 h_7 => ?_)
                  obtain ⟨ev_7, ei_7, ej_7⟩ := h_7
                  replace ev_7 := ev_7.symm; subst ev_7
                  replace ei_7 := ei_7.symm; subst ei_7
                  replace ej_7 := ej_7.symm; subst ej_7
                  refine z_ti (y := nI (zset (zDy bu fr b tr) 9)) (aDays_n (by omega) hbu8 hF tr (Nat.le_refl _)) ?_
                  refine z_icmp_eq_n (zset (zDy bu fr a tr) 9) (zset (zDy bu fr b tr) 9) (tgt := 70) C rfl rfl (by have := hD9 a; omega) (by have := hD9 b; omega) dX8_ring_64 (by decide) (fun c64 => ?_) (fun c64 => ?_)
                  · skip
                    refine z_iload C dX8_ring_70 5 rfl ?_
                    refine z_iconst C (v := 1) dX8_ring_72 (by decide) ?_
                    refine z_iload C dX8_ring_73 6 rfl ?_
                    refine z_ishl C dX8_ring_75 ?_
                    refine z_ior C dX8_ring_76 ?_
                    refine z_istore C hm (lv' := [(5, .int ((nI (zset (zAl (fun a => zset (zDy bu fr a tr) 9) a) b)) ||| (1 <<< ((nI b) &&& 31)))), (0, .ref (zad w 82)), (1, .int x), (2, .int (nI (zPm (fun a => zset (zDy bu fr a tr) 9) a + zpc (zAl (fun a => zset (zDy bu fr a tr) 9) a) a b))), (3, .int (nI (zRg (fun a => zset (zDy bu fr a tr) 9) n a))), (4, .int (nI a)), (6, .int (nI b))]) dX8_ring_77 (by decide) rfl ?_
                    refine z_iload_n C dX8_ring_79 rfl 3 rfl ?_
                    refine z_iload C dX8_ring_80 6 rfl ?_
                    refine z_iload C dX8_ring_82 5 rfl ?_
                    refine z_icmp_ge_n b a (tgt := 91) C rfl rfl (by omega) (by omega) dX8_ring_84 (by decide) (fun c84 => ?_) (fun c84 => ?_)
                    · skip
                      refine z_iconst C (v := 0) dX8_ring_91 (by decide) ?_
                      refine z_iadd C dX8_ring_92 ?_
                      refine z_ti (y := nI ((zPm (fun a => zset (zDy bu fr a tr) 9) a + zpc (zAl (fun a => zset (zDy bu fr a tr) 9) a) a b) + 0)) (nI_add (zPm (fun a => zset (zDy bu fr a tr) 9) a + zpc (zAl (fun a => zset (zDy bu fr a tr) 9) a) a b) 0) ?_
                      refine z_istore_n C hm (lv' := [(2, .int (nI ((zPm (fun a => zset (zDy bu fr a tr) 9) a + zpc (zAl (fun a => zset (zDy bu fr a tr) 9) a) a b) + 0))), (5, .int ((nI (zset (zAl (fun a => zset (zDy bu fr a tr) 9) a) b)) ||| (1 <<< ((nI b) &&& 31)))), (0, .ref (zad w 82)), (1, .int x), (3, .int (nI (zRg (fun a => zset (zDy bu fr a tr) 9) n a))), (4, .int (nI a)), (6, .int (nI b))]) dX8_ring_93 rfl (by decide) rfl ?_
                      refine z_iinc C hm 6 (v := nI (b + 1)) (lv' := [(6, .int (nI (b + 1))), (2, .int (nI ((zPm (fun a => zset (zDy bu fr a tr) 9) a + zpc (zAl (fun a => zset (zDy bu fr a tr) 9) a) a b) + 0))), (5, .int ((nI (zset (zAl (fun a => zset (zDy bu fr a tr) 9) a) b)) ||| (1 <<< ((nI b) &&& 31)))), (0, .ref (zad w 82)), (1, .int x), (3, .int (nI (zRg (fun a => zset (zDy bu fr a tr) 9) n a))), (4, .int (nI a))]) dX8_ring_94 rfl (nI_add b 1) (by decide) rfl ?_
                      refine z_goto (tgt := 34) C dX8_ring_97 (by decide) ?_
                      exact z_sub [3, 4, 1, 5, 6, 2, 0] rfl (ih34  (b + 1) _ _ _ (by omega) (by omega) (by rw [zpc_y (by omega) (show zAl (fun a => zset (zDy bu fr a tr) 9) a b = true from decide_eq_true ⟨fun q => c49 (by rw [show (zset (zDy bu fr a tr) 9) = 0 from q]; rfl), c64.symm⟩), if_neg (by omega)]; rfl) (by rw [zset, if_pos (show zAl (fun a => zset (zDy bu fr a tr) 9) a b = true from decide_eq_true ⟨fun q => c49 (by rw [show (zset (zDy bu fr a tr) 9) = 0 from q]; rfl), c64.symm⟩)]; exact or_bit (zset_lt b) (by omega)) rfl)
                    · skip
                      refine z_iconst C (v := 1) dX8_ring_87 (by decide) ?_
                      refine z_goto (tgt := 92) C dX8_ring_88 (by decide) ?_
                      refine z_iadd C dX8_ring_92 ?_
                      refine z_ti (y := nI ((zPm (fun a => zset (zDy bu fr a tr) 9) a + zpc (zAl (fun a => zset (zDy bu fr a tr) 9) a) a b) + 1)) (nI_add (zPm (fun a => zset (zDy bu fr a tr) 9) a + zpc (zAl (fun a => zset (zDy bu fr a tr) 9) a) a b) 1) ?_
                      refine z_istore_n C hm (lv' := [(2, .int (nI ((zPm (fun a => zset (zDy bu fr a tr) 9) a + zpc (zAl (fun a => zset (zDy bu fr a tr) 9) a) a b) + 1))), (5, .int ((nI (zset (zAl (fun a => zset (zDy bu fr a tr) 9) a) b)) ||| (1 <<< ((nI b) &&& 31)))), (0, .ref (zad w 82)), (1, .int x), (3, .int (nI (zRg (fun a => zset (zDy bu fr a tr) 9) n a))), (4, .int (nI a)), (6, .int (nI b))]) dX8_ring_93 rfl (by decide) rfl ?_
                      refine z_iinc C hm 6 (v := nI (b + 1)) (lv' := [(6, .int (nI (b + 1))), (2, .int (nI ((zPm (fun a => zset (zDy bu fr a tr) 9) a + zpc (zAl (fun a => zset (zDy bu fr a tr) 9) a) a b) + 1))), (5, .int ((nI (zset (zAl (fun a => zset (zDy bu fr a tr) 9) a) b)) ||| (1 <<< ((nI b) &&& 31)))), (0, .ref (zad w 82)), (1, .int x), (3, .int (nI (zRg (fun a => zset (zDy bu fr a tr) 9) n a))), (4, .int (nI a))]) dX8_ring_94 rfl (nI_add b 1) (by decide) rfl ?_
                      refine z_goto (tgt := 34) C dX8_ring_97 (by decide) ?_
                      exact z_sub [3, 4, 1, 5, 6, 2, 0] rfl (ih34  (b + 1) _ _ _ (by omega) (by omega) (by rw [zpc_y (by omega) (show zAl (fun a => zset (zDy bu fr a tr) 9) a b = true from decide_eq_true ⟨fun q => c49 (by rw [show (zset (zDy bu fr a tr) 9) = 0 from q]; rfl), c64.symm⟩), if_pos (by omega)]; rfl) (by rw [zset, if_pos (show zAl (fun a => zset (zDy bu fr a tr) 9) a b = true from decide_eq_true ⟨fun q => c49 (by rw [show (zset (zDy bu fr a tr) 9) = 0 from q]; rfl), c64.symm⟩)]; exact or_bit (zset_lt b) (by omega)) rfl)
                  · skip
                    refine z_goto (tgt := 94) C dX8_ring_67 (by decide) ?_
                    refine z_iinc C hm 6 (v := nI (b + 1)) (lv' := [(6, .int (nI (b + 1))), (0, .ref (zad w 82)), (1, .int x), (2, .int (nI (zPm (fun a => zset (zDy bu fr a tr) 9) a + zpc (zAl (fun a => zset (zDy bu fr a tr) 9) a) a b))), (3, .int (nI (zRg (fun a => zset (zDy bu fr a tr) 9) n a))), (4, .int (nI a)), (5, .int (nI (zset (zAl (fun a => zset (zDy bu fr a tr) 9) a) b)))]) dX8_ring_94 rfl (nI_add b 1) (by decide) rfl ?_
                    refine z_goto (tgt := 34) C dX8_ring_97 (by decide) ?_
                    exact z_sub [1, 2, 3, 4, 5, 6, 0] rfl (ih34  (b + 1) _ _ _ (by omega) (by omega) (by rw [zpc_n (fun q => c64 ((of_decide_eq_true q).2).symm)]) (by rw [zset, if_neg (fun q => c64 ((of_decide_eq_true q).2).symm), Nat.add_zero]) rfl)
          exact z_sub [2, 3, 4, 5, 6, 1, 0] rfl (L34 _ 0 _ _ _ (Nat.lt_succ_self _) (Nat.zero_le _) (by rw [show zpc (zAl (fun a => zset (zDy bu fr a tr) 9) a) a 0 = 0 from by unfold zpc; rw [Nat.zero_min]; show zpop 0 = 0; rfl, Nat.add_zero]) rfl rfl)
    exact z_sub [3, 4, 2, 1, 0] rfl (L19 _ 0 _ _ _ (Nat.lt_succ_self _) (Nat.zero_le _) rfl rfl rfl)
  · skip
    refine z_iconst C (v := -1) dX8_ring_10 (by decide) ?_
    refine z_iret C hr rfl dX8_ring_11 ?_
    refine ⟨_, rfl, ?_⟩
    exact ⟨by rw [if_neg (fun q : x = 0 => c7 ⟨0, by decide, q⟩), if_neg (fun q : x = 1 => c7 ⟨1, by decide, q⟩)], rfl, rfl⟩
abbrev rm_X8_knowers : Room := { frames := 5, cells := 0, slots := 0, locals := 223 }
set_option maxRecDepth 100000 in
set_option maxHeartbeats 4000000 in
theorem k_X8_knowers (w : zW) (I : zI) (J : zJ) (m n : Nat) (A : List zCla) (jn : Nat → Int32) (hd : Nat → Option Nat) (hr9 : Nat) (hN : I 82 0 = nI n) (hn : n ≤ 8) (hSt : I 82 25 = nI (aSteps A)) (hR : ∀ k, k ≤ aSteps A → ∀ b, b < n → I 97 (8 * k + b) = nI (hD m n (zGt jn A) (zT0 hd) k b)) (hd99 : ∀ a k, hd a = some k → k ≤ 99) (hhr : hr9 ≤ 99) : zMet yX8_knowers cX8_knowers 4 (some .int) rm_X8_knowers w [.ref (zad w 82), .int (nI hr9)] I J (zpi (fun v I' J' => v = nI (zset (fun a => decide (ern m n jn A hd a ≤ hr9)) n) ∧ I' = I ∧ J' = J)) := by
  refine zMet_of (by decide) (Nat.le_of_ble_eq_true rfl) (fun X C hm hr => ?_)
  refine z_sub (lv' := [(0, .ref (zad w 82)), (1, .int (nI hr9))]) [0, 1] rfl ?_
  have hzf : zFar = 1000000 := rfl
  refine z_iconst C (v := 0) dX8_knowers_0 (by decide) ?_
  refine z_istore_n C hm (lv' := [(2, .int 0), (0, .ref (zad w 82)), (1, .int (nI hr9))]) dX8_knowers_1 rfl (by decide) rfl ?_
  refine z_iconst C (v := 0) dX8_knowers_2 (by decide) ?_
  refine z_istore_n C hm (lv' := [(3, .int 0), (2, .int 0), (0, .ref (zad w 82)), (1, .int (nI hr9))]) dX8_knowers_3 rfl (by decide) rfl ?_
  have L4 : ∀ (d : Nat) (a : Nat) (v4_2 : Int32) (v4_3 : Int32), (n - a) < d → (a ≤ n) → v4_2 = nI (zset (fun a => decide (ern m n jn A hd a ≤ hr9)) a) → v4_3 = nI a → Z X w I J 4 [(0, .ref (zad w 82)), (1, .int (nI hr9)), (2, .int v4_2), (3, .int v4_3)] [] := by
    intro d
    induction d with
    | zero => intro a v4_2 v4_3 hd; exact absurd hd (Nat.not_lt_zero _)
    | succ d ih4 => 
      intro a v4_2 v4_3 hd4 ha e_v4_2 e_v4_3
      replace e_v4_2 := e_v4_2.symm; subst e_v4_2
      replace e_v4_3 := e_v4_3.symm; subst e_v4_3
      refine z_iload_n C dX8_knowers_4 rfl 3 rfl ?_
      refine z_aload_n C dX8_knowers_5 rfl 0 rfl ?_
      refine z_geti C ff_X8_7 82 (by decide) sh82 rfl (v := nI n) hN dX8_knowers_6 ?_
      refine z_icmp_ge_n a n (tgt := 37) C rfl rfl (by omega) (by omega) dX8_knowers_9 (by decide) (fun c9 => ?_) (fun c9 => ?_)
      · skip
        have han : a = n := by omega
        refine z_iload_n C dX8_knowers_37 rfl 2 rfl ?_
        refine z_iret C hr rfl dX8_knowers_38 ?_
        refine ⟨_, rfl, ?_⟩
        exact ⟨by rw [han], rfl, rfl⟩
      · skip
        refine z_iload_n C dX8_knowers_12 rfl 2 rfl ?_
        refine z_aload_n C dX8_knowers_13 rfl 0 rfl ?_
        refine z_iload_n C dX8_knowers_14 rfl 3 rfl ?_
        refine z_callVi C hm cl_X8_284 cv_X8_earliest 82 (by decide) sh82 ⟨_, _, rfl⟩ [.int (nI a)] rfl (rest := [.int (nI (zset (fun a => decide (ern m n jn A hd a ≤ hr9)) a))]) rfl (k_X8_earliest w _ _ m n A jn hd a (by omega) hSt (fun k hk => hR k hk a (by omega)) hd99) ⟨rfl, rfl, Nat.le_of_ble_eq_true rfl, Nat.le_of_ble_eq_true rfl⟩ (Nat.le_of_ble_eq_true rfl) dX8_knowers_15 (fun v_1 I_1 J_1 h_1 => ?_)
        obtain ⟨ev_1, ei_1, ej_1⟩ := h_1
        replace ev_1 := ev_1.symm; subst ev_1
        replace ei_1 := ei_1.symm; subst ei_1
        replace ej_1 := ej_1.symm; subst ej_1
        refine z_iload_n C dX8_knowers_18 rfl 1 rfl ?_
        refine z_icmp_gt_n (ern m n jn A hd a) hr9 (tgt := 28) C rfl rfl (by have := ern_le (m := m) (n := n) (jn := jn) (A := A) hd99 a; omega) (by omega) dX8_knowers_19 (by decide) (fun c19 => ?_) (fun c19 => ?_)
        · skip
          refine z_iconst C (v := 0) dX8_knowers_28 (by decide) ?_
          refine z_ior C dX8_knowers_29 ?_
          refine z_istore_n C hm (lv' := [(2, .int ((nI (zset (fun a => decide (ern m n jn A hd a ≤ hr9)) a)) ||| 0)), (0, .ref (zad w 82)), (1, .int (nI hr9)), (3, .int (nI a))]) dX8_knowers_30 rfl (by decide) rfl ?_
          refine z_iinc C hm 3 (v := nI (a + 1)) (lv' := [(3, .int (nI (a + 1))), (2, .int ((nI (zset (fun a => decide (ern m n jn A hd a ≤ hr9)) a)) ||| 0)), (0, .ref (zad w 82)), (1, .int (nI hr9))]) dX8_knowers_31 rfl (nI_add a 1) (by decide) rfl ?_
          refine z_goto (tgt := 4) C dX8_knowers_34 (by decide) ?_
          exact z_sub [2, 3, 1, 0] rfl (ih4  (a + 1) _ _ (by omega) (by omega) (by rw [zset, if_neg (fun q => absurd (of_decide_eq_true q) (by omega)), Nat.add_zero]; exact or_0 _) rfl)
        · skip
          refine z_iconst C (v := 1) dX8_knowers_22 (by decide) ?_
          refine z_iload_n C dX8_knowers_23 rfl 3 rfl ?_
          refine z_ishl C dX8_knowers_24 ?_
          refine z_goto (tgt := 29) C dX8_knowers_25 (by decide) ?_
          refine z_ior C dX8_knowers_29 ?_
          refine z_istore_n C hm (lv' := [(2, .int ((nI (zset (fun a => decide (ern m n jn A hd a ≤ hr9)) a)) ||| (1 <<< ((nI a) &&& 31)))), (0, .ref (zad w 82)), (1, .int (nI hr9)), (3, .int (nI a))]) dX8_knowers_30 rfl (by decide) rfl ?_
          refine z_iinc C hm 3 (v := nI (a + 1)) (lv' := [(3, .int (nI (a + 1))), (2, .int ((nI (zset (fun a => decide (ern m n jn A hd a ≤ hr9)) a)) ||| (1 <<< ((nI a) &&& 31)))), (0, .ref (zad w 82)), (1, .int (nI hr9))]) dX8_knowers_31 rfl (nI_add a 1) (by decide) rfl ?_
          refine z_goto (tgt := 4) C dX8_knowers_34 (by decide) ?_
          exact z_sub [2, 3, 1, 0] rfl (ih4  (a + 1) _ _ (by omega) (by omega) (by rw [zset, if_pos (decide_eq_true c19)]; exact or_bit (zset_lt a) (by omega)) rfl)
  exact z_sub [2, 3, 1, 0] rfl (L4 _ 0 _ _ (Nat.lt_succ_self _) (Nat.zero_le _) rfl rfl)
abbrev rm_X8_fewest : Room := { frames := 4, cells := 0, slots := 0, locals := 200 }
set_option maxRecDepth 100000 in
set_option maxHeartbeats 4000000 in
theorem k_X8_fewest (w : zW) (I : zI) (J : zJ)  (p : Nat) (many : Nat) (w0 : Nat) (hp9 : p ≤ 999) (hm9 : many ≤ 9) (hw9 : w0 ≤ 999) : zMet yX8_fewest cX8_fewest 5 (some .int) rm_X8_fewest w [.ref (zad w 82), .int (nI p), .int (nI many), .int (nI w0)] I J (zpi (fun v I' J' => zFw p (w0 - 1) many v ∧ I' = I ∧ J' = J)) := by
  refine zMet_of (by decide) (Nat.le_of_ble_eq_true rfl) (fun X C hm hr => ?_)
  refine z_sub (lv' := [(0, .ref (zad w 82)), (1, .int (nI p)), (2, .int (nI many)), (3, .int (nI w0))]) [0, 1, 2, 3] rfl ?_
  refine z_iconst C (v := 0) dX8_fewest_0 (by decide) ?_
  refine z_istore C hm (lv' := [(4, .int 0), (0, .ref (zad w 82)), (1, .int (nI p)), (2, .int (nI many)), (3, .int (nI w0))]) dX8_fewest_1 (by decide) rfl ?_
  have L3 : ∀ (d : Nat) (k : Nat) (v3_4 : Int32), (many + 1 - k) < d → (k ≤ many + 1) → (∀ j, j < k → j * (w0 - 1) < p) → v3_4 = nI k → Z X w I J 3 [(0, .ref (zad w 82)), (1, .int (nI p)), (2, .int (nI many)), (3, .int (nI w0)), (4, .int v3_4)] [] := by
    intro d
    induction d with
    | zero => intro k v3_4 hd; exact absurd hd (Nat.not_lt_zero _)
    | succ d ih3 => 
      intro k v3_4 hd3 hk hno e_v3_4
      replace e_v3_4 := e_v3_4.symm; subst e_v3_4
      refine z_iload C dX8_fewest_3 4 rfl ?_
      refine z_iload_n C dX8_fewest_5 rfl 2 rfl ?_
      refine z_icmp_gt_n k many (tgt := 37) C rfl rfl (by omega) (by omega) dX8_fewest_6 (by decide) (fun c6 => ?_) (fun c6 => ?_)
      · skip
        refine z_bipush C (v := -5) dX8_fewest_37 (by decide) ?_
        refine z_iret C hr rfl dX8_fewest_39 ?_
        refine ⟨_, rfl, ?_⟩
        exact ⟨Or.inr ⟨fun j hj => hno j (by omega), rfl⟩, rfl, rfl⟩
      · skip
        have hkd : k * (w0 - 1) ≤ 9 * 999 := Nat.mul_le_mul (by omega) (by omega)
        refine z_iload C dX8_fewest_9 4 rfl ?_
        refine z_iload_n C dX8_fewest_11 rfl 3 rfl ?_
        refine z_iconst C (v := 1) dX8_fewest_12 (by decide) ?_
        refine z_icmp_ge_n w0 1 (tgt := 20) C rfl rfl (by omega) (by omega) dX8_fewest_13 (by decide) (fun c13 => ?_) (fun c13 => ?_)
        · skip
          refine z_iload_n C dX8_fewest_20 rfl 3 rfl ?_
          refine z_iconst C (v := 1) dX8_fewest_21 (by decide) ?_
          refine z_isub C dX8_fewest_22 ?_
          refine z_ti (y := nI (w0 - 1)) (pk_sub (b := 1) (by omega)) ?_
          refine z_imul C dX8_fewest_23 ?_
          refine z_ti (y := nI (k * (w0 - 1))) (pk_mul k (w0 - 1)) ?_
          refine z_iload_n C dX8_fewest_24 rfl 1 rfl ?_
          refine z_icmp_lt_n (k * (w0 - 1)) p (tgt := 31) C rfl rfl (by omega) (by omega) dX8_fewest_25 (by decide) (fun c25 => ?_) (fun c25 => ?_)
          · skip
            refine z_iinc C hm 4 (v := nI (k + 1)) (lv' := [(4, .int (nI (k + 1))), (0, .ref (zad w 82)), (1, .int (nI p)), (2, .int (nI many)), (3, .int (nI w0))]) dX8_fewest_31 rfl (nI_add k 1) (by decide) rfl ?_
            refine z_goto (tgt := 3) C dX8_fewest_34 (by decide) ?_
            exact z_sub [1, 2, 3, 4, 0] rfl (ih3  (k + 1) _ (by omega) (by omega) (lt_s hno (by omega)) rfl)
          · skip
            refine z_iload C dX8_fewest_28 4 rfl ?_
            refine z_iret C hr rfl dX8_fewest_30 ?_
            refine ⟨_, rfl, ?_⟩
            exact ⟨Or.inl ⟨k, by omega, by omega, hno, rfl⟩, rfl, rfl⟩
        · skip
          refine z_iconst C (v := 0) dX8_fewest_16 (by decide) ?_
          refine z_goto (tgt := 23) C dX8_fewest_17 (by decide) ?_
          refine z_imul C dX8_fewest_23 ?_
          refine z_ti (y := nI (k * 0)) (pk_mul k 0) ?_
          refine z_iload_n C dX8_fewest_24 rfl 1 rfl ?_
          refine z_icmp_lt_n (k * 0) p (tgt := 31) C rfl rfl (by omega) (by omega) dX8_fewest_25 (by decide) (fun c25 => ?_) (fun c25 => ?_)
          · skip
            refine z_iinc C hm 4 (v := nI (k + 1)) (lv' := [(4, .int (nI (k + 1))), (0, .ref (zad w 82)), (1, .int (nI p)), (2, .int (nI many)), (3, .int (nI w0))]) dX8_fewest_31 rfl (nI_add k 1) (by decide) rfl ?_
            refine z_goto (tgt := 3) C dX8_fewest_34 (by decide) ?_
            exact z_sub [1, 2, 3, 4, 0] rfl (ih3  (k + 1) _ (by omega) (by omega) (lt_s hno (by rw [show w0 - 1 = 0 by omega, Nat.mul_zero]; omega)) rfl)
          · skip
            refine z_iload C dX8_fewest_28 4 rfl ?_
            refine z_iret C hr rfl dX8_fewest_30 ?_
            refine ⟨_, rfl, ?_⟩
            exact ⟨Or.inl ⟨k, by omega, by rw [show w0 - 1 = 0 by omega, Nat.mul_zero]; omega, hno, rfl⟩, rfl, rfl⟩
  exact z_sub [1, 2, 3, 4, 0] rfl (L3 _ 0 _ (Nat.lt_succ_self _) (Nat.zero_le _) (fun _ h0 => absurd h0 (Nat.not_lt_zero _)) rfl)
