/-! worlds, tapes, odds: pure words -/
noncomputable def cif {α : Type} (p : Prop) (a b : α) : α := @ite _ p (Classical.propDecidable p) a b
theorem cif_t {α : Type} {p : Prop} {a b : α} (h : p) : cif p a b = a := by unfold cif; rw [if_pos h]
theorem cif_f {α : Type} {p : Prop} {a b : α} (h : ¬ p) : cif p a b = b := by unfold cif; rw [if_neg h]
theorem zhd_h {x : Int32} {h : Nat} (e : x = nI h) (hh : h < 7) : zhd x = 47 + 5 * h := by subst e; unfold zhd; rw [nI_clamp (by omega)]
noncomputable def aGo (jn : Nat → Int32) (A : List zCla) (a b : Nat) : Option Nat := cif (jn (a * 8 + b) = 0) none (aWay (nI a) (nI b) (jn (a * 8 + b)) A)
def aDays (b f : Nat → Int32) (x : Int32) : Nat → Int32
  | 0 => 0
  | k + 1 => if b k = x then aDays b f x k ||| (1 <<< (f k &&& 31)) else aDays b f x k
def zfill {α : Type} (v : α) (g : Nat → α) (n : Nat) : Nat → α := fun k => if k < n then v else g k
theorem zfill_s (v : Int32) (g : Nat → Int32) (n : Nat) : upd (zfill v g n) n v = zfill v g (n + 1) := by
  funext k; simp only [upd, zfill]
  by_cases h : k = n
  · subst h; rw [if_pos rfl, if_pos (by omega)]
  · rw [if_neg h]; by_cases q : k < n
    · rw [if_pos q, if_pos (by omega)]
    · rw [if_neg q, if_neg (by omega)]
theorem zfill_sl (v : Int64) (g : Nat → Int64) (n : Nat) : vp_updL (zfill v g n) n v = zfill v g (n + 1) := by
  funext k; simp only [vp_updL, zfill]
  by_cases h : k = n
  · subst h; rw [if_pos rfl, if_pos (by omega)]
  · rw [if_neg h]; by_cases q : k < n
    · rw [if_pos q, if_pos (by omega)]
    · rw [if_neg q, if_neg (by omega)]
theorem zfill_0 {α : Type} (v : α) (g : Nat → α) : zfill v g 0 = g := by funext k; simp [zfill]
/-- how many of the low 9 bits -/
def zpop (m : Nat) : Nat := m % 2 + m / 2 % 2 + m / 4 % 2 + m / 8 % 2 + m / 16 % 2 + m / 32 % 2 + m / 64 % 2 + m / 128 % 2 + m / 256 % 2
def zush (x : Int32) (k : Int32) : Int32 := (x.toUInt32 >>> (k.toUInt32 &&& Int32.toUInt32 31)).toInt32
def zbc (x : Int32) : Int32 :=
  let a := x - (zush x 1 &&& 1431655765)
  let b := (a &&& 858993459) + (zush a 2 &&& 858993459)
  let c := (b + zush b 4) &&& 252645135
  let d := c + zush c 8
  let e := d + zush d 16
  e &&& 63
theorem zbc_pop : ∀ m, m < 512 → zbc (nI m) = nI (zpop m) := by decide +kernel
def aW0 (g : Nat → Int64) : Nat → Int64 := vp_updL (zfill 0 g 10) 0 1
/-- one friday more, of habit h, after d of them: the rows above j are done -/
def aWk (h : Int32) (W : Nat → Int64) (k : Nat) : Int64 := W k * (100 - h).toInt64 + (if k = 0 then 0 else W (k - 1) * h.toInt64)
def aWp (h : Int32) (W : Nat → Int64) (m d : Nat) : Nat → Int64 := fun k => if m ≤ k ∧ k ≤ d then aWk h W k else W k
theorem aWp_top {h : Int32} {W : Nat → Int64} {d : Nat} : aWp h W (d + 1) d = W := by
  funext k; simp only [aWp]; rw [if_neg (by omega)]
theorem aWp_s {h : Int32} {W : Nat → Int64} {m d : Nat} (hm : m ≤ d) : vp_updL (aWp h W (m + 1) d) m (aWk h W m) = aWp h W m d := by
  funext k; simp only [aWp, vp_updL]
  by_cases q : k = m
  · subst q; rw [if_pos rfl, if_pos ⟨Nat.le_refl _, hm⟩]
  · rw [if_neg q]; by_cases z : m + 1 ≤ k ∧ k ≤ d
    · rw [if_pos z, if_pos (by omega)]
    · rw [if_neg z, if_neg (by omega)]
theorem aWp_lo {h : Int32} {W : Nat → Int64} {m d k : Nat} (hk : k < m) : aWp h W m d k = W k := by simp only [aWp]; rw [if_neg (by omega)]
def aTail (W : Nat → Int64) (t : Nat) : Nat → Int64
  | 0 => 0
  | c + 1 => aTail W t c + W (t + c)
theorem pm1 (m : Nat) : nI (m + 1) + Int32.ofInt (-1) = nI m := pk_m1 m
theorem pm1_0 : nI 0 + Int32.ofInt (-1) < 0 := by decide
theorem max0 {t : Nat} (h : t < 2 ^ 31) : (if nI t < (0 : Int32) then (0 : Int32) else nI t) = nI t := if_neg (nI_pos h)
theorem vp_updL_2 {f : Nat → Int64} {k : Nat} {x y : Int64} : vp_updL (vp_updL f k x) k y = vp_updL f k y := by
  funext j; simp only [vp_updL]; split <;> rfl
theorem gcd_step {g s i B : Nat} (h1 : s ≤ g) (h0 : 0 < s) (hB : g * s * 2 ^ i ≤ B) : g % s ≤ s ∧ s * (g % s) * 2 ^ (i + 1) ≤ B := by
  have hr := Nat.mod_lt g h0
  refine ⟨Nat.le_of_lt hr, Nat.le_trans ?_ hB⟩
  have hd : g % s + s ≤ g := by
    have e := Nat.div_add_mod g s
    have q : 1 ≤ g / s := Nat.div_pos h1 h0
    have : s * 1 ≤ s * (g / s) := Nat.mul_le_mul_left s q
    omega
  have h2 : 2 * (g % s) ≤ g := by omega
  calc s * (g % s) * 2 ^ (i + 1) = s * (2 * (g % s)) * 2 ^ i := by rw [Nat.pow_succ]; simp only [Nat.mul_assoc, Nat.mul_comm, Nat.mul_left_comm]
    _ ≤ s * g * 2 ^ i := Nat.mul_le_mul_right _ (Nat.mul_le_mul_left s h2)
    _ = g * s * 2 ^ i := by rw [Nat.mul_comm s g]
theorem gcd_end {g s : Nat} (h1 : s ≤ g) (h0 : 0 < s) (hB : g * s * 2 ^ 200 ≤ 2 ^ 126) : False := by
  have h2 : 1 ≤ g * s := Nat.mul_pos (Nat.lt_of_lt_of_le h0 h1) h0
  have h3 : 1 * 2 ^ 200 ≤ g * s * 2 ^ 200 := Nat.mul_le_mul_right _ h2
  exact absurd (Nat.le_trans h3 hB) (by decide)
abbrev rm_X6_joinBoth : Room := { frames := 4, cells := 0, slots := 0, locals := 200 }
set_option maxRecDepth 100000 in
set_option maxHeartbeats 4000000 in
theorem k_X6_joinBoth (w : zW) (I : zI) (J : zJ)  (a : Nat) (b : Nat) (s : Int32) (ha8 : a < 8) (hb8 : b < 8) : zMet yX6_joinBoth cX6_joinBoth 5 (some .int) rm_X6_joinBoth w [.ref (zad w 5), .int (nI a), .int (nI b), .int s] I J (zpi (fun v I' J' => v = I 6 (a * 8 + b) ∧ I' = zup I 6 (upd (upd (I 6) (a * 8 + b) s) (b * 8 + a) s) ∧ J' = J)) := by
  refine zMet_of (by decide) (Nat.le_of_ble_eq_true rfl) (fun X C hm hr => ?_)
  refine z_sub (lv' := [(0, .ref (zad w 5)), (1, .int (nI a)), (2, .int (nI b)), (3, .int s)]) [0, 1, 2, 3] rfl ?_
  refine z_aload_n C dX6_joinBoth_0 rfl 0 rfl ?_
  refine z_getr C ff_X6_9 5 (by decide) sh5 rfl dX6_joinBoth_1 ?_
  refine z_iload_n C dX6_joinBoth_4 rfl 1 rfl ?_
  refine z_bipush C (v := 8) dX6_joinBoth_5 (by decide) ?_
  refine z_imul C dX6_joinBoth_7 ?_
  refine z_ti (y := nI (a * 8)) (pk_mul a 8) ?_
  refine z_iload_n C dX6_joinBoth_8 rfl 2 rfl ?_
  refine z_iadd C dX6_joinBoth_9 ?_
  refine z_ti (y := nI (a * 8 + b)) (nI_add (a * 8) b) ?_
  refine z_iald C 6 (by decide) sh6 (a * 8 + b) (by omega) (by decide) rfl (v := I 6 (a * 8 + b)) rfl dX6_joinBoth_10 ?_
  refine z_istore C hm (lv' := [(4, .int (I 6 (a * 8 + b))), (0, .ref (zad w 5)), (1, .int (nI a)), (2, .int (nI b)), (3, .int s)]) dX6_joinBoth_11 (by decide) rfl ?_
  refine z_aload_n C dX6_joinBoth_13 rfl 1 rfl ?_
  refine z_getr C ff_X6_9 5 (by decide) sh5 rfl dX6_joinBoth_14 ?_
  refine z_iload_n C dX6_joinBoth_17 rfl 2 rfl ?_
  refine z_bipush C (v := 8) dX6_joinBoth_18 (by decide) ?_
  refine z_imul C dX6_joinBoth_20 ?_
  refine z_ti (y := nI (a * 8)) (pk_mul a 8) ?_
  refine z_iload_n C dX6_joinBoth_21 rfl 3 rfl ?_
  refine z_iadd C dX6_joinBoth_22 ?_
  refine z_ti (y := nI (a * 8 + b)) (nI_add (a * 8) b) ?_
  refine z_iload_n C dX6_joinBoth_23 rfl 4 rfl ?_
  refine z_iast C 6 (by decide) sh6 (a * 8 + b) (by omega) (by decide) rfl dX6_joinBoth_24 ?_
  refine z_I (I' := zup I 6 (upd (I 6) (a * 8 + b) s)) rfl ?_
  refine z_aload_n C dX6_joinBoth_25 rfl 1 rfl ?_
  refine z_getr C ff_X6_9 5 (by decide) sh5 rfl dX6_joinBoth_26 ?_
  refine z_iload_n C dX6_joinBoth_29 rfl 3 rfl ?_
  refine z_bipush C (v := 8) dX6_joinBoth_30 (by decide) ?_
  refine z_imul C dX6_joinBoth_32 ?_
  refine z_ti (y := nI (b * 8)) (pk_mul b 8) ?_
  refine z_iload_n C dX6_joinBoth_33 rfl 2 rfl ?_
  refine z_iadd C dX6_joinBoth_34 ?_
  refine z_ti (y := nI (b * 8 + a)) (nI_add (b * 8) a) ?_
  refine z_iload_n C dX6_joinBoth_35 rfl 4 rfl ?_
  refine z_iast C 6 (by decide) sh6 (b * 8 + a) (by omega) (by decide) rfl dX6_joinBoth_36 ?_
  refine z_I (I' := zup I 6 (upd (upd (I 6) (a * 8 + b) s) (b * 8 + a) s)) (by rw [zup_s, zup_up]) ?_
  refine z_iload C dX6_joinBoth_37 0 rfl ?_
  refine z_iret C hr rfl dX6_joinBoth_39 ?_
  refine ⟨_, rfl, ?_⟩
  exact ⟨rfl, rfl, rfl⟩
abbrev rm_X6_hoursBetween : Room := { frames := 7, cells := 0, slots := 0, locals := 280 }
set_option maxRecDepth 100000 in
set_option maxHeartbeats 4000000 in
theorem k_X6_hoursBetween (w : zW) (I : zI) (J : zJ) (h : Nat) (A : List zCla) (a : Nat) (b : Nat) (ha8 : a < 8) (hb8 : b < 8) (hh : h < 7) (hH : I 5 2 = nI h) (hL : cLaw I h A) : zMet yX6_hoursBetween cX6_hoursBetween 4 (some .int) rm_X6_hoursBetween w [.ref (zad w 5), .int (nI a), .int (nI b)] I J (zpi (fun v I' J' => v = oI (aGo (I 6) A a b) ∧ I' = I ∧ J' = J)) := by
  refine zMet_of (by decide) (Nat.le_of_ble_eq_true rfl) (fun X C hm hr => ?_)
  refine z_sub (lv' := [(0, .ref (zad w 5)), (1, .int (nI a)), (2, .int (nI b))]) [0, 1, 2] rfl ?_
  refine z_aload_n C dX6_hoursBetween_0 rfl 0 rfl ?_
  refine z_getr C ff_X6_9 5 (by decide) sh5 rfl dX6_hoursBetween_1 ?_
  refine z_iload_n C dX6_hoursBetween_4 rfl 1 rfl ?_
  refine z_bipush C (v := 8) dX6_hoursBetween_5 (by decide) ?_
  refine z_imul C dX6_hoursBetween_7 ?_
  refine z_ti (y := nI (a * 8)) (pk_mul a 8) ?_
  refine z_iload_n C dX6_hoursBetween_8 rfl 2 rfl ?_
  refine z_iadd C dX6_hoursBetween_9 ?_
  refine z_ti (y := nI (a * 8 + b)) (nI_add (a * 8) b) ?_
  refine z_iald C 6 (by decide) sh6 (a * 8 + b) (by omega) (by decide) rfl (v := I 6 (a * 8 + b)) rfl dX6_hoursBetween_10 ?_
  refine z_istore_n C hm (lv' := [(3, .int (I 6 (a * 8 + b))), (0, .ref (zad w 5)), (1, .int (nI a)), (2, .int (nI b))]) dX6_hoursBetween_11 rfl (by decide) rfl ?_
  refine z_iload_n C dX6_hoursBetween_12 rfl 0 rfl ?_
  refine z_if_ne (tgt := 21) C dX6_hoursBetween_13 (by decide) (fun c13 => ?_) (fun c13 => ?_)
  · skip
    refine z_aload_n C dX6_hoursBetween_21 rfl 1 rfl ?_
    refine z_geth C ff_X6_36 5 (by decide) sh5 rfl (q := 47 + 5 * h) (zhd_h hH hh) dX6_hoursBetween_22 ?_
    refine z_iload_n C dX6_hoursBetween_25 rfl 2 rfl ?_
    refine z_iload_n C dX6_hoursBetween_26 rfl 3 rfl ?_
    refine z_iload_n C dX6_hoursBetween_27 rfl 0 rfl ?_
    refine z_callVi C hm cl_X6_59 cv_X1_hoursOf (47 + 5 * h) (shLn0 hh) (shL0 hh) ⟨_, _, rfl⟩ [.int (nI a), .int (nI b), .int (I 6 (a * 8 + b))] rfl (rest := []) rfl (k_X1_hoursOf w _ _ h A (nI a) (nI b) (I 6 (a * 8 + b)) hh hL) ⟨rfl, rfl, Nat.le_of_ble_eq_true rfl, Nat.le_of_ble_eq_true rfl⟩ (Nat.le_of_ble_eq_true rfl) dX6_hoursBetween_28 (fun v_1 I_1 J_1 h_1 => ?_)
    obtain ⟨ev_1, ei_1, ej_1⟩ := h_1
    replace ev_1 := ev_1.symm; subst ev_1
    replace ei_1 := ei_1.symm; subst ei_1
    replace ej_1 := ej_1.symm; subst ej_1
    refine z_iret C hr rfl dX6_hoursBetween_31 ?_
    refine ⟨_, rfl, ?_⟩
    exact ⟨by rw [aGo, cif_f c13], rfl, rfl⟩
  · skip
    refine z_bipush C (v := -5) dX6_hoursBetween_16 (by decide) ?_
    refine z_goto (tgt := 31) C dX6_hoursBetween_18 (by decide) ?_
    refine z_iret C hr rfl dX6_hoursBetween_31 ?_
    refine ⟨_, rfl, ?_⟩
    exact ⟨by rw [aGo, cif_t c13]; rfl, rfl, rfl⟩
abbrev rm_X6_addTrade : Room := { frames := 4, cells := 0, slots := 0, locals := 200 }
set_option maxRecDepth 100000 in
set_option maxHeartbeats 4000000 in
theorem k_X6_addTrade (w : zW) (I : zI) (J : zJ) (tr : Nat) (kd : Int32) (nm : Int32) (fr : Int32) (hr0 : Int32) (lt : Int32) (htr : tr < 16) (hT : I 5 8 = nI tr) : zMet yX6_addTrade cX6_addTrade 6 (some .int) rm_X6_addTrade w [.ref (zad w 5), .int kd, .int nm, .int fr, .int hr0, .int lt] I J (zpi (fun v I' J' => v = nI tr ∧ I' = zup (zup (zup (zup (zup (zup I 8 (upd (I 8) tr kd)) 9 (upd (I 9) tr nm)) 10 (upd (I 10) tr fr)) 11 (upd (I 11) tr hr0)) 12 (upd (I 12) tr lt)) 5 (upd (I 5) 8 (nI (tr + 1))) ∧ J' = J)) := by
  refine zMet_of (by decide) (Nat.le_of_ble_eq_true rfl) (fun X C hm hr => ?_)
  refine z_sub (lv' := [(0, .ref (zad w 5)), (1, .int kd), (2, .int nm), (3, .int fr), (4, .int hr0), (5, .int lt)]) [0, 1, 2, 3, 4, 5] rfl ?_
  refine z_aload_n C dX6_addTrade_0 rfl 0 rfl ?_
  refine z_getr C ff_X6_18 5 (by decide) sh5 rfl dX6_addTrade_1 ?_
  refine z_aload_n C dX6_addTrade_4 rfl 0 rfl ?_
  refine z_geti C ff_X6_52 5 (by decide) sh5 rfl (v := nI tr) hT dX6_addTrade_5 ?_
  refine z_iload_n C dX6_addTrade_8 rfl 1 rfl ?_
  refine z_iast C 8 (by decide) sh8 tr (by omega) (by decide) rfl dX6_addTrade_9 ?_
  refine z_I (I' := zup I 8 (upd (I 8) tr kd)) rfl ?_
  refine z_aload_n C dX6_addTrade_10 rfl 0 rfl ?_
  refine z_getr C ff_X6_21 5 (by decide) sh5 rfl dX6_addTrade_11 ?_
  refine z_aload_n C dX6_addTrade_14 rfl 0 rfl ?_
  refine z_geti C ff_X6_52 5 (by decide) sh5 rfl (v := nI tr) (by first | exact hT | (simp [zup, zupJ, upd, vp_updL]; exact hT)) dX6_addTrade_15 ?_
  refine z_iload_n C dX6_addTrade_18 rfl 2 rfl ?_
  refine z_iast C 9 (by decide) sh9 tr (by omega) (by decide) rfl dX6_addTrade_19 ?_
  refine z_I (I' := zup (zup I 8 (upd (I 8) tr kd)) 9 (upd (I 9) tr nm)) (by first | rfl | (rw [zup_n] <;> omega)) ?_
  refine z_aload_n C dX6_addTrade_20 rfl 0 rfl ?_
  refine z_getr C ff_X6_24 5 (by decide) sh5 rfl dX6_addTrade_21 ?_
  refine z_aload_n C dX6_addTrade_24 rfl 0 rfl ?_
  refine z_geti C ff_X6_52 5 (by decide) sh5 rfl (v := nI tr) (by first | exact hT | (simp [zup, zupJ, upd, vp_updL]; exact hT)) dX6_addTrade_25 ?_
  refine z_iload_n C dX6_addTrade_28 rfl 3 rfl ?_
  refine z_iast C 10 (by decide) sh10 tr (by omega) (by decide) rfl dX6_addTrade_29 ?_
  refine z_I (I' := zup (zup (zup I 8 (upd (I 8) tr kd)) 9 (upd (I 9) tr nm)) 10 (upd (I 10) tr fr)) (by first | rfl | (rw [zup_n] <;> omega) | (rw [zup_n, zup_n] <;> omega)) ?_
  refine z_aload_n C dX6_addTrade_30 rfl 0 rfl ?_
  refine z_getr C ff_X6_27 5 (by decide) sh5 rfl dX6_addTrade_31 ?_
  refine z_aload_n C dX6_addTrade_34 rfl 0 rfl ?_
  refine z_geti C ff_X6_52 5 (by decide) sh5 rfl (v := nI tr) (by first | exact hT | (simp [zup, zupJ, upd, vp_updL]; exact hT)) dX6_addTrade_35 ?_
  refine z_iload C dX6_addTrade_38 4 rfl ?_
  refine z_iast C 11 (by decide) sh11 tr (by omega) (by decide) rfl dX6_addTrade_40 ?_
  refine z_I (I' := zup (zup (zup (zup I 8 (upd (I 8) tr kd)) 9 (upd (I 9) tr nm)) 10 (upd (I 10) tr fr)) 11 (upd (I 11) tr hr0)) (by first | rfl | (rw [zup_n] <;> omega) | (rw [zup_n, zup_n] <;> omega) | (rw [zup_n, zup_n, zup_n] <;> omega)) ?_
  refine z_aload_n C dX6_addTrade_41 rfl 0 rfl ?_
  refine z_getr C ff_X6_30 5 (by decide) sh5 rfl dX6_addTrade_42 ?_
  refine z_aload_n C dX6_addTrade_45 rfl 0 rfl ?_
  refine z_geti C ff_X6_52 5 (by decide) sh5 rfl (v := nI tr) (by first | exact hT | (simp [zup, zupJ, upd, vp_updL]; exact hT)) dX6_addTrade_46 ?_
  refine z_iload C dX6_addTrade_49 5 rfl ?_
  refine z_iast C 12 (by decide) sh12 tr (by omega) (by decide) rfl dX6_addTrade_51 ?_
  refine z_I (I' := zup (zup (zup (zup (zup I 8 (upd (I 8) tr kd)) 9 (upd (I 9) tr nm)) 10 (upd (I 10) tr fr)) 11 (upd (I 11) tr hr0)) 12 (upd (I 12) tr lt)) (by first | rfl | (rw [zup_n] <;> omega) | (rw [zup_n, zup_n] <;> omega) | (rw [zup_n, zup_n, zup_n] <;> omega) | (rw [zup_n, zup_n, zup_n, zup_n] <;> omega)) ?_
  refine z_aload_n C dX6_addTrade_52 rfl 0 rfl ?_
  refine z_dup C dX6_addTrade_53 rfl ?_
  refine z_geti C ff_X6_52 5 (by decide) sh5 rfl (v := nI tr) (by first | exact hT | (simp [zup, zupJ, upd, vp_updL]; exact hT)) dX6_addTrade_54 ?_
  refine z_iconst C (v := 1) dX6_addTrade_57 (by decide) ?_
  refine z_iadd C dX6_addTrade_58 ?_
  refine z_ti (y := nI (tr + 1)) (nI_add tr 1) ?_
  refine z_puti C ff_X6_52 5 (by decide) sh5 rfl rfl rfl dX6_addTrade_59 ?_
  refine z_I (I' := zup (zup (zup (zup (zup (zup I 8 (upd (I 8) tr kd)) 9 (upd (I 9) tr nm)) 10 (upd (I 10) tr fr)) 11 (upd (I 11) tr hr0)) 12 (upd (I 12) tr lt)) 5 (upd (I 5) 8 (nI (tr + 1)))) (by first | rfl | (rw [zup_n] <;> omega) | (rw [zup_n, zup_n] <;> omega) | (rw [zup_n, zup_n, zup_n] <;> omega) | (rw [zup_n, zup_n, zup_n, zup_n] <;> omega) | (rw [zup_n, zup_n, zup_n, zup_n, zup_n] <;> omega)) ?_
  refine z_aload_n C dX6_addTrade_62 rfl 0 rfl ?_
  refine z_geti C ff_X6_52 5 (by decide) sh5 rfl (v := nI (tr + 1)) (by first | rfl | (simp [zup, zupJ, upd, vp_updL]; done)) dX6_addTrade_63 ?_
  refine z_iconst C (v := 1) dX6_addTrade_66 (by decide) ?_
  refine z_isub C dX6_addTrade_67 ?_
  refine z_ti (y := nI tr) (nI_pred tr) ?_
  refine z_iret C hr rfl dX6_addTrade_68 ?_
  refine ⟨_, rfl, ?_⟩
  exact ⟨rfl, rfl, rfl⟩
abbrev rm_X6_fridaysOf : Room := { frames := 4, cells := 0, slots := 0, locals := 200 }
set_option maxRecDepth 100000 in
set_option maxHeartbeats 4000000 in
theorem k_X6_fridaysOf (w : zW) (I : zI) (J : zJ) (tr : Nat) (x : Int32) (htr : tr ≤ 16) (hT : I 5 8 = nI tr) : zMet yX6_fridaysOf cX6_fridaysOf 4 (some .int) rm_X6_fridaysOf w [.ref (zad w 5), .int x] I J (zpi (fun v I' J' => v = aDays (I 9) (I 10) x tr ∧ I' = I ∧ J' = J)) := by
  refine zMet_of (by decide) (Nat.le_of_ble_eq_true rfl) (fun X C hm hr => ?_)
  refine z_sub (lv' := [(0, .ref (zad w 5)), (1, .int x)]) [0, 1] rfl ?_
  refine z_iconst C (v := 0) dX6_fridaysOf_0 (by decide) ?_
  refine z_istore_n C hm (lv' := [(2, .int 0), (0, .ref (zad w 5)), (1, .int x)]) dX6_fridaysOf_1 rfl (by decide) rfl ?_
  refine z_iconst C (v := 0) dX6_fridaysOf_2 (by decide) ?_
  refine z_istore_n C hm (lv' := [(3, .int 0), (2, .int 0), (0, .ref (zad w 5)), (1, .int x)]) dX6_fridaysOf_3 rfl (by decide) rfl ?_
  have L4 : ∀ (d : Nat) (k : Nat) (v4_2 : Int32) (v4_3 : Int32), (tr - k) < d → (k ≤ tr) → v4_2 = aDays (I 9) (I 10) x k → v4_3 = nI k → Z X w I J 4 [(0, .ref (zad w 5)), (1, .int x), (2, .int v4_2), (3, .int v4_3)] [] := by
    intro d
    induction d with
    | zero => intro k v4_2 v4_3 hd; exact absurd hd (Nat.not_lt_zero _)
    | succ d ih4 => 
      intro k v4_2 v4_3 hd4 hk e_v4_2 e_v4_3
      replace e_v4_2 := e_v4_2.symm; subst e_v4_2
      replace e_v4_3 := e_v4_3.symm; subst e_v4_3
      refine z_iload_n C dX6_fridaysOf_4 rfl 3 rfl ?_
      refine z_aload_n C dX6_fridaysOf_5 rfl 0 rfl ?_
      refine z_geti C ff_X6_52 5 (by decide) sh5 rfl (v := nI tr) hT dX6_fridaysOf_6 ?_
      refine z_icmp_ge_n k tr (tgt := 39) C rfl rfl (by omega) (by omega) dX6_fridaysOf_9 (by decide) (fun c9 => ?_) (fun c9 => ?_)
      · skip
        have hkk : k = tr := by omega
        refine z_iload_n C dX6_fridaysOf_39 rfl 2 rfl ?_
        refine z_iret C hr rfl dX6_fridaysOf_40 ?_
        refine ⟨_, rfl, ?_⟩
        exact ⟨by rw [hkk], rfl, rfl⟩
      · skip
        refine z_aload_n C dX6_fridaysOf_12 rfl 0 rfl ?_
        refine z_getr C ff_X6_21 5 (by decide) sh5 rfl dX6_fridaysOf_13 ?_
        refine z_iload_n C dX6_fridaysOf_16 rfl 3 rfl ?_
        refine z_iald C 9 (by decide) sh9 k (by omega) (by decide) rfl (v := I 9 k) rfl dX6_fridaysOf_17 ?_
        refine z_iload_n C dX6_fridaysOf_18 rfl 1 rfl ?_
        refine z_icmp_ne (tgt := 33) C dX6_fridaysOf_19 (by decide) (fun c19 => ?_) (fun c19 => ?_)
        · skip
          refine z_iinc C hm 3 (v := nI (k + 1)) (lv' := [(3, .int (nI (k + 1))), (0, .ref (zad w 5)), (1, .int x), (2, .int (aDays (I 9) (I 10) x k))]) dX6_fridaysOf_33 rfl (nI_add k 1) (by decide) rfl ?_
          refine z_goto (tgt := 4) C dX6_fridaysOf_36 (by decide) ?_
          exact z_sub [1, 2, 3, 0] rfl (ih4  (k + 1) _ _ (by omega) (by omega) (by rw [aDays, if_neg c19]) rfl)
        · skip
          refine z_iload_n C dX6_fridaysOf_22 rfl 2 rfl ?_
          refine z_iconst C (v := 1) dX6_fridaysOf_23 (by decide) ?_
          refine z_aload_n C dX6_fridaysOf_24 rfl 0 rfl ?_
          refine z_getr C ff_X6_24 5 (by decide) sh5 rfl dX6_fridaysOf_25 ?_
          refine z_iload_n C dX6_fridaysOf_28 rfl 3 rfl ?_
          refine z_iald C 10 (by decide) sh10 k (by omega) (by decide) rfl (v := I 10 k) rfl dX6_fridaysOf_29 ?_
          refine z_ishl C dX6_fridaysOf_30 ?_
          refine z_ior C dX6_fridaysOf_31 ?_
          refine z_istore_n C hm (lv' := [(2, .int ((aDays (I 9) (I 10) x k) ||| (1 <<< ((I 10 k) &&& 31)))), (0, .ref (zad w 5)), (1, .int x), (3, .int (nI k))]) dX6_fridaysOf_32 rfl (by decide) rfl ?_
          refine z_iinc C hm 3 (v := nI (k + 1)) (lv' := [(3, .int (nI (k + 1))), (2, .int ((aDays (I 9) (I 10) x k) ||| (1 <<< ((I 10 k) &&& 31)))), (0, .ref (zad w 5)), (1, .int x)]) dX6_fridaysOf_33 rfl (nI_add k 1) (by decide) rfl ?_
          refine z_goto (tgt := 4) C dX6_fridaysOf_36 (by decide) ?_
          exact z_sub [2, 3, 1, 0] rfl (ih4  (k + 1) _ _ (by omega) (by omega) (by rw [aDays, if_pos c19]) rfl)
  exact z_sub [2, 3, 1, 0] rfl (L4 _ 0 _ _ (Nat.lt_succ_self _) (by omega) rfl rfl)
abbrev rm_X6_hasFellow : Room := { frames := 4, cells := 0, slots := 0, locals := 200 }
set_option maxRecDepth 100000 in
set_option maxHeartbeats 4000000 in
theorem k_X6_hasFellow (w : zW) (I : zI) (J : zJ) (tr : Nat) (t : Nat) (htr : tr ≤ 16) (hT : I 5 8 = nI tr) (ht : t < tr) : zMet yX6_hasFellow cX6_hasFellow 3 (some .boolean) rm_X6_hasFellow w [.ref (zad w 5), .int (nI t)] I J (zpi (fun v I' J' => v = bI (∃ o, o < tr ∧ o ≠ t ∧ I 9 o = I 9 t ∧ I 10 o = I 10 t) ∧ I' = I ∧ J' = J)) := by
  refine zMet_of (by decide) (Nat.le_of_ble_eq_true rfl) (fun X C hm hr => ?_)
  refine z_sub (lv' := [(0, .ref (zad w 5)), (1, .int (nI t))]) [0, 1] rfl ?_
  refine z_iconst C (v := 0) dX6_hasFellow_0 (by decide) ?_
  refine z_istore_n C hm (lv' := [(2, .int 0), (0, .ref (zad w 5)), (1, .int (nI t))]) dX6_hasFellow_1 rfl (by decide) rfl ?_
  have L2 : ∀ (d : Nat) (k : Nat) (v2_2 : Int32), (tr - k) < d → (k ≤ tr) → (∀ o, o < k → ¬ (o ≠ t ∧ I 9 o = I 9 t ∧ I 10 o = I 10 t)) → v2_2 = nI k → Z X w I J 2 [(0, .ref (zad w 5)), (1, .int (nI t)), (2, .int v2_2)] [] := by
    intro d
    induction d with
    | zero => intro k v2_2 hd; exact absurd hd (Nat.not_lt_zero _)
    | succ d ih2 => 
      intro k v2_2 hd2 hk hno e_v2_2
      replace e_v2_2 := e_v2_2.symm; subst e_v2_2
      refine z_iload_n C dX6_hasFellow_2 rfl 2 rfl ?_
      refine z_aload_n C dX6_hasFellow_3 rfl 0 rfl ?_
      refine z_geti C ff_X6_52 5 (by decide) sh5 rfl (v := nI tr) hT dX6_hasFellow_4 ?_
      refine z_icmp_ge_n k tr (tgt := 53) C rfl rfl (by omega) (by omega) dX6_hasFellow_7 (by decide) (fun c7 => ?_) (fun c7 => ?_)
      · skip
        refine z_iconst C (v := 0) dX6_hasFellow_53 (by decide) ?_
        refine z_iret C hr (by decide) dX6_hasFellow_54 ?_
        refine ⟨_, rfl, ?_⟩
        exact ⟨(bI_f (fun ⟨o, h1, h2⟩ => hno o (by omega) h2)).symm, rfl, rfl⟩
      · skip
        refine z_iload_n C dX6_hasFellow_10 rfl 2 rfl ?_
        refine z_iload_n C dX6_hasFellow_11 rfl 1 rfl ?_
        refine z_icmp_eq_n k t (tgt := 47) C rfl rfl (by omega) (by omega) dX6_hasFellow_12 (by decide) (fun c12 => ?_) (fun c12 => ?_)
        · skip
          refine z_iinc C hm 2 (v := nI (k + 1)) (lv' := [(2, .int (nI (k + 1))), (0, .ref (zad w 5)), (1, .int (nI t))]) dX6_hasFellow_47 rfl (nI_add k 1) (by decide) rfl ?_
          refine z_goto (tgt := 2) C dX6_hasFellow_50 (by decide) ?_
          exact z_sub [1, 2, 0] rfl (ih2  (k + 1) _ (by omega) (by omega) (lt_s hno (fun q => q.1 c12)) rfl)
        · skip
          refine z_aload_n C dX6_hasFellow_15 rfl 0 rfl ?_
          refine z_getr C ff_X6_21 5 (by decide) sh5 rfl dX6_hasFellow_16 ?_
          refine z_iload_n C dX6_hasFellow_19 rfl 2 rfl ?_
          refine z_iald C 9 (by decide) sh9 k (by omega) (by decide) rfl (v := I 9 k) rfl dX6_hasFellow_20 ?_
          refine z_aload_n C dX6_hasFellow_21 rfl 0 rfl ?_
          refine z_getr C ff_X6_21 5 (by decide) sh5 rfl dX6_hasFellow_22 ?_
          refine z_iload_n C dX6_hasFellow_25 rfl 1 rfl ?_
          refine z_iald C 9 (by decide) sh9 t (by omega) (by decide) rfl (v := I 9 t) rfl dX6_hasFellow_26 ?_
          refine z_icmp_ne (tgt := 47) C dX6_hasFellow_27 (by decide) (fun c27 => ?_) (fun c27 => ?_)
          · skip
            refine z_iinc C hm 2 (v := nI (k + 1)) (lv' := [(2, .int (nI (k + 1))), (0, .ref (zad w 5)), (1, .int (nI t))]) dX6_hasFellow_47 rfl (nI_add k 1) (by decide) rfl ?_
            refine z_goto (tgt := 2) C dX6_hasFellow_50 (by decide) ?_
            exact z_sub [1, 2, 0] rfl (ih2  (k + 1) _ (by omega) (by omega) (lt_s hno (fun q => c27 q.2.1)) rfl)
          · skip
            refine z_aload_n C dX6_hasFellow_30 rfl 0 rfl ?_
            refine z_getr C ff_X6_24 5 (by decide) sh5 rfl dX6_hasFellow_31 ?_
            refine z_iload_n C dX6_hasFellow_34 rfl 2 rfl ?_
            refine z_iald C 10 (by decide) sh10 k (by omega) (by decide) rfl (v := I 10 k) rfl dX6_hasFellow_35 ?_
            refine z_aload_n C dX6_hasFellow_36 rfl 0 rfl ?_
            refine z_getr C ff_X6_24 5 (by decide) sh5 rfl dX6_hasFellow_37 ?_
            refine z_iload_n C dX6_hasFellow_40 rfl 1 rfl ?_
            refine z_iald C 10 (by decide) sh10 t (by omega) (by decide) rfl (v := I 10 t) rfl dX6_hasFellow_41 ?_
            refine z_icmp_ne (tgt := 47) C dX6_hasFellow_42 (by decide) (fun c42 => ?_) (fun c42 => ?_)
            · skip
              refine z_iinc C hm 2 (v := nI (k + 1)) (lv' := [(2, .int (nI (k + 1))), (0, .ref (zad w 5)), (1, .int (nI t))]) dX6_hasFellow_47 rfl (nI_add k 1) (by decide) rfl ?_
              refine z_goto (tgt := 2) C dX6_hasFellow_50 (by decide) ?_
              exact z_sub [1, 2, 0] rfl (ih2  (k + 1) _ (by omega) (by omega) (lt_s hno (fun q => c42 q.2.2)) rfl)
            · skip
              refine z_iconst C (v := 1) dX6_hasFellow_45 (by decide) ?_
              refine z_iret C hr (by decide) dX6_hasFellow_46 ?_
              refine ⟨_, rfl, ?_⟩
              exact ⟨(bI_t ⟨k, c7, c12, c27, c42⟩).symm, rfl, rfl⟩
  exact z_sub [1, 2, 0] rfl (L2 _ 0 _ (Nat.lt_succ_self _) (by omega) (fun _ h => absurd h (Nat.not_lt_zero _)) rfl)
abbrev rm_X6_become_k : Room := { frames := 4, cells := 0, slots := 0, locals := 200 }
set_option maxRecDepth 100000 in
set_option maxHeartbeats 4000000 in
theorem k_X6_become_k (w : zW) (I : zI) (J : zJ)    : zMet yX6_become cX6_become 2 none rm_X6_become_k w [.ref (zad w 14), .ref (zad w 5)] I J (zpv (fun I' J' => ((∀ k, k < 64 → I' 15 k = I 6 k) ∧ (∀ k, k < 8 → I' 16 k = I 7 k) ∧ (∀ k, k < 16 → I' 17 k = I 8 k) ∧ (∀ k, k < 16 → I' 18 k = I 9 k) ∧ (∀ k, k < 16 → I' 19 k = I 10 k) ∧ (∀ k, k < 16 → I' 20 k = I 11 k) ∧ (∀ k, k < 16 → I' 21 k = I 12 k) ∧ (∀ k, k < 6 → I' 22 k = I 13 k) ∧ I' 14 2 = I 5 2 ∧ I' 14 8 = I 5 8 ∧ I' 14 10 = I 5 10 ∧ (∀ a, a < 14 ∨ 22 < a → I' a = I a)) ∧ J' = J)) := by
  refine zMet_of (by decide) (Nat.le_of_ble_eq_true rfl) (fun X C hm hr => ?_)
  refine z_sub (lv' := [(0, .ref (zad w 14)), (1, .ref (zad w 5))]) [0, 1] rfl ?_
  refine z_aload_n C dX6_become_0 rfl 1 rfl ?_
  refine z_getr C ff_X6_9 5 (by decide) sh5 rfl dX6_become_1 ?_
  refine z_iconst C (v := 0) dX6_become_4 (by decide) ?_
  refine z_aload_n C dX6_become_5 rfl 0 rfl ?_
  refine z_getr C ff_X6_9 14 (by decide) sh14 rfl dX6_become_6 ?_
  refine z_iconst C (v := 0) dX6_become_9 (by decide) ?_
  refine z_aload_n C dX6_become_10 rfl 0 rfl ?_
  refine z_getr C ff_X6_9 14 (by decide) sh14 rfl dX6_become_11 ?_
  refine z_alen C 15 (by decide) sh15 (by decide) (v := 64) (by decide) dX6_become_14 ?_
  refine z_copyi C ml_X6_46 na_copy st_copy in_sys 6 15 (by decide) (by decide) sh6 sh15 0 0 64 rfl rfl rfl (by omega) (by omega) (by decide) (by decide) (Nat.le_of_ble_eq_true rfl) (Nat.le_of_ble_eq_true rfl) dX6_become_15 ?_
  refine z_I (I' := zup I 15 (va_cpy (I 6) (I 15) 0 0 64)) rfl ?_
  refine z_aload_n C dX6_become_18 rfl 1 rfl ?_
  refine z_getr C ff_X6_15 5 (by decide) sh5 rfl dX6_become_19 ?_
  refine z_iconst C (v := 0) dX6_become_22 (by decide) ?_
  refine z_aload_n C dX6_become_23 rfl 0 rfl ?_
  refine z_getr C ff_X6_15 14 (by decide) sh14 rfl dX6_become_24 ?_
  refine z_iconst C (v := 0) dX6_become_27 (by decide) ?_
  refine z_aload_n C dX6_become_28 rfl 0 rfl ?_
  refine z_getr C ff_X6_15 14 (by decide) sh14 rfl dX6_become_29 ?_
  refine z_alen C 16 (by decide) sh16 (by decide) (v := 8) (by decide) dX6_become_32 ?_
  refine z_copyi C ml_X6_46 na_copy st_copy in_sys 7 16 (by decide) (by decide) sh7 sh16 0 0 8 rfl rfl rfl (by omega) (by omega) (by decide) (by decide) (Nat.le_of_ble_eq_true rfl) (Nat.le_of_ble_eq_true rfl) dX6_become_33 ?_
  refine z_I (I' := zup (zup I 15 (va_cpy (I 6) (I 15) 0 0 64)) 16 (va_cpy (I 7) (I 16) 0 0 8)) (by first | rfl | (rw [zup_n] <;> omega)) ?_
  refine z_aload_n C dX6_become_36 rfl 0 rfl ?_
  refine z_aload_n C dX6_become_37 rfl 1 rfl ?_
  refine z_geth C ff_X6_36 5 (by decide) sh5 rfl (q := zhd (I 5 2)) rfl dX6_become_38 ?_
  refine z_puth C ff_X6_36 14 (by decide) sh14 rfl (x := I 5 2) rfl rfl rfl dX6_become_41 ?_
  refine z_I (I' := zup (zup (zup I 15 (va_cpy (I 6) (I 15) 0 0 64)) 16 (va_cpy (I 7) (I 16) 0 0 8)) 14 (upd (I 14) 2 (I 5 2))) (by first | rfl | (rw [zup_n] <;> omega) | (rw [zup_n, zup_n] <;> omega)) ?_
  refine z_aload_n C dX6_become_44 rfl 1 rfl ?_
  refine z_getr C ff_X6_18 5 (by decide) sh5 rfl dX6_become_45 ?_
  refine z_iconst C (v := 0) dX6_become_48 (by decide) ?_
  refine z_aload_n C dX6_become_49 rfl 0 rfl ?_
  refine z_getr C ff_X6_18 14 (by decide) sh14 rfl dX6_become_50 ?_
  refine z_iconst C (v := 0) dX6_become_53 (by decide) ?_
  refine z_aload_n C dX6_become_54 rfl 0 rfl ?_
  refine z_getr C ff_X6_18 14 (by decide) sh14 rfl dX6_become_55 ?_
  refine z_alen C 17 (by decide) sh17 (by decide) (v := 16) (by decide) dX6_become_58 ?_
  refine z_copyi C ml_X6_46 na_copy st_copy in_sys 8 17 (by decide) (by decide) sh8 sh17 0 0 16 rfl rfl rfl (by omega) (by omega) (by decide) (by decide) (Nat.le_of_ble_eq_true rfl) (Nat.le_of_ble_eq_true rfl) dX6_become_59 ?_
  refine z_I (I' := zup (zup (zup (zup I 15 (va_cpy (I 6) (I 15) 0 0 64)) 16 (va_cpy (I 7) (I 16) 0 0 8)) 14 (upd (I 14) 2 (I 5 2))) 17 (va_cpy (I 8) (I 17) 0 0 16)) (by first | rfl | (rw [zup_n] <;> omega) | (rw [zup_n, zup_n] <;> omega) | (rw [zup_n, zup_n, zup_n] <;> omega)) ?_
  refine z_aload_n C dX6_become_62 rfl 1 rfl ?_
  refine z_getr C ff_X6_21 5 (by decide) sh5 rfl dX6_become_63 ?_
  refine z_iconst C (v := 0) dX6_become_66 (by decide) ?_
  refine z_aload_n C dX6_become_67 rfl 0 rfl ?_
  refine z_getr C ff_X6_21 14 (by decide) sh14 rfl dX6_become_68 ?_
  refine z_iconst C (v := 0) dX6_become_71 (by decide) ?_
  refine z_aload_n C dX6_become_72 rfl 0 rfl ?_
  refine z_getr C ff_X6_21 14 (by decide) sh14 rfl dX6_become_73 ?_
  refine z_alen C 18 (by decide) sh18 (by decide) (v := 16) (by decide) dX6_become_76 ?_
  refine z_copyi C ml_X6_46 na_copy st_copy in_sys 9 18 (by decide) (by decide) sh9 sh18 0 0 16 rfl rfl rfl (by omega) (by omega) (by decide) (by decide) (Nat.le_of_ble_eq_true rfl) (Nat.le_of_ble_eq_true rfl) dX6_become_77 ?_
  refine z_I (I' := zup (zup (zup (zup (zup I 15 (va_cpy (I 6) (I 15) 0 0 64)) 16 (va_cpy (I 7) (I 16) 0 0 8)) 14 (upd (I 14) 2 (I 5 2))) 17 (va_cpy (I 8) (I 17) 0 0 16)) 18 (va_cpy (I 9) (I 18) 0 0 16)) (by first | rfl | (rw [zup_n] <;> omega) | (rw [zup_n, zup_n] <;> omega) | (rw [zup_n, zup_n, zup_n] <;> omega) | (rw [zup_n, zup_n, zup_n, zup_n] <;> omega)) ?_
  refine z_aload_n C dX6_become_80 rfl 1 rfl ?_
  refine z_getr C ff_X6_24 5 (by decide) sh5 rfl dX6_become_81 ?_
  refine z_iconst C (v := 0) dX6_become_84 (by decide) ?_
  refine z_aload_n C dX6_become_85 rfl 0 rfl ?_
  refine z_getr C ff_X6_24 14 (by decide) sh14 rfl dX6_become_86 ?_
  refine z_iconst C (v := 0) dX6_become_89 (by decide) ?_
  refine z_aload_n C dX6_become_90 rfl 0 rfl ?_
  refine z_getr C ff_X6_24 14 (by decide) sh14 rfl dX6_become_91 ?_
  refine z_alen C 19 (by decide) sh19 (by decide) (v := 16) (by decide) dX6_become_94 ?_
  refine z_copyi C ml_X6_46 na_copy st_copy in_sys 10 19 (by decide) (by decide) sh10 sh19 0 0 16 rfl rfl rfl (by omega) (by omega) (by decide) (by decide) (Nat.le_of_ble_eq_true rfl) (Nat.le_of_ble_eq_true rfl) dX6_become_95 ?_
  refine z_I (I' := zup (zup (zup (zup (zup (zup I 15 (va_cpy (I 6) (I 15) 0 0 64)) 16 (va_cpy (I 7) (I 16) 0 0 8)) 14 (upd (I 14) 2 (I 5 2))) 17 (va_cpy (I 8) (I 17) 0 0 16)) 18 (va_cpy (I 9) (I 18) 0 0 16)) 19 (va_cpy (I 10) (I 19) 0 0 16)) (by first | rfl | (rw [zup_n] <;> omega) | (rw [zup_n, zup_n] <;> omega) | (rw [zup_n, zup_n, zup_n] <;> omega) | (rw [zup_n, zup_n, zup_n, zup_n] <;> omega) | (rw [zup_n, zup_n, zup_n, zup_n, zup_n] <;> omega)) ?_
  refine z_aload_n C dX6_become_98 rfl 1 rfl ?_
  refine z_getr C ff_X6_27 5 (by decide) sh5 rfl dX6_become_99 ?_
  refine z_iconst C (v := 0) dX6_become_102 (by decide) ?_
  refine z_aload_n C dX6_become_103 rfl 0 rfl ?_
  refine z_getr C ff_X6_27 14 (by decide) sh14 rfl dX6_become_104 ?_
  refine z_iconst C (v := 0) dX6_become_107 (by decide) ?_
  refine z_aload_n C dX6_become_108 rfl 0 rfl ?_
  refine z_getr C ff_X6_27 14 (by decide) sh14 rfl dX6_become_109 ?_
  refine z_alen C 20 (by decide) sh20 (by decide) (v := 16) (by decide) dX6_become_112 ?_
  refine z_copyi C ml_X6_46 na_copy st_copy in_sys 11 20 (by decide) (by decide) sh11 sh20 0 0 16 rfl rfl rfl (by omega) (by omega) (by decide) (by decide) (Nat.le_of_ble_eq_true rfl) (Nat.le_of_ble_eq_true rfl) dX6_become_113 ?_
  refine z_I (I' := zup (zup (zup (zup (zup (zup (zup I 15 (va_cpy (I 6) (I 15) 0 0 64)) 16 (va_cpy (I 7) (I 16) 0 0 8)) 14 (upd (I 14) 2 (I 5 2))) 17 (va_cpy (I 8) (I 17) 0 0 16)) 18 (va_cpy (I 9) (I 18) 0 0 16)) 19 (va_cpy (I 10) (I 19) 0 0 16)) 20 (va_cpy (I 11) (I 20) 0 0 16)) (by first | rfl | (rw [zup_n] <;> omega) | (rw [zup_n, zup_n] <;> omega) | (rw [zup_n, zup_n, zup_n] <;> omega) | (rw [zup_n, zup_n, zup_n, zup_n] <;> omega) | (rw [zup_n, zup_n, zup_n, zup_n, zup_n] <;> omega) | (rw [zup_n, zup_n, zup_n, zup_n, zup_n, zup_n] <;> omega)) ?_
  refine z_aload_n C dX6_become_116 rfl 1 rfl ?_
  refine z_getr C ff_X6_30 5 (by decide) sh5 rfl dX6_become_117 ?_
  refine z_iconst C (v := 0) dX6_become_120 (by decide) ?_
  refine z_aload_n C dX6_become_121 rfl 0 rfl ?_
  refine z_getr C ff_X6_30 14 (by decide) sh14 rfl dX6_become_122 ?_
  refine z_iconst C (v := 0) dX6_become_125 (by decide) ?_
  refine z_aload_n C dX6_become_126 rfl 0 rfl ?_
  refine z_getr C ff_X6_30 14 (by decide) sh14 rfl dX6_become_127 ?_
  refine z_alen C 21 (by decide) sh21 (by decide) (v := 16) (by decide) dX6_become_130 ?_
  refine z_copyi C ml_X6_46 na_copy st_copy in_sys 12 21 (by decide) (by decide) sh12 sh21 0 0 16 rfl rfl rfl (by omega) (by omega) (by decide) (by decide) (Nat.le_of_ble_eq_true rfl) (Nat.le_of_ble_eq_true rfl) dX6_become_131 ?_
  refine z_I (I' := zup (zup (zup (zup (zup (zup (zup (zup I 15 (va_cpy (I 6) (I 15) 0 0 64)) 16 (va_cpy (I 7) (I 16) 0 0 8)) 14 (upd (I 14) 2 (I 5 2))) 17 (va_cpy (I 8) (I 17) 0 0 16)) 18 (va_cpy (I 9) (I 18) 0 0 16)) 19 (va_cpy (I 10) (I 19) 0 0 16)) 20 (va_cpy (I 11) (I 20) 0 0 16)) 21 (va_cpy (I 12) (I 21) 0 0 16)) (by first | rfl | (rw [zup_n] <;> omega) | (rw [zup_n, zup_n] <;> omega) | (rw [zup_n, zup_n, zup_n] <;> omega) | (rw [zup_n, zup_n, zup_n, zup_n] <;> omega) | (rw [zup_n, zup_n, zup_n, zup_n, zup_n] <;> omega) | (rw [zup_n, zup_n, zup_n, zup_n, zup_n, zup_n] <;> omega) | (rw [zup_n, zup_n, zup_n, zup_n, zup_n, zup_n, zup_n] <;> omega)) ?_
  refine z_aload_n C dX6_become_134 rfl 0 rfl ?_
  refine z_aload_n C dX6_become_135 rfl 1 rfl ?_
  refine z_geti C ff_X6_52 5 (by decide) sh5 rfl (v := I 5 8) (by first | rfl | (simp [zup, zupJ, upd, vp_updL]; done)) dX6_become_136 ?_
  refine z_puti C ff_X6_52 14 (by decide) sh14 rfl rfl rfl dX6_become_139 ?_
  refine z_I (I' := zup (zup (zup (zup (zup (zup (zup (zup I 15 (va_cpy (I 6) (I 15) 0 0 64)) 16 (va_cpy (I 7) (I 16) 0 0 8)) 14 (upd (upd (I 14) 2 (I 5 2)) 8 (I 5 8))) 17 (va_cpy (I 8) (I 17) 0 0 16)) 18 (va_cpy (I 9) (I 18) 0 0 16)) 19 (va_cpy (I 10) (I 19) 0 0 16)) 20 (va_cpy (I 11) (I 20) 0 0 16)) 21 (va_cpy (I 12) (I 21) 0 0 16)) (by funext zk; simp only [zup]; split <;> simp_all [zup]) ?_
  refine z_aload_n C dX6_become_142 rfl 1 rfl ?_
  refine z_getr C ff_X6_33 5 (by decide) sh5 rfl dX6_become_143 ?_
  refine z_iconst C (v := 0) dX6_become_146 (by decide) ?_
  refine z_aload_n C dX6_become_147 rfl 0 rfl ?_
  refine z_getr C ff_X6_33 14 (by decide) sh14 rfl dX6_become_148 ?_
  refine z_iconst C (v := 0) dX6_become_151 (by decide) ?_
  refine z_aload_n C dX6_become_152 rfl 0 rfl ?_
  refine z_getr C ff_X6_33 14 (by decide) sh14 rfl dX6_become_153 ?_
  refine z_alen C 22 (by decide) sh22 (by decide) (v := 6) (by decide) dX6_become_156 ?_
  refine z_copyi C ml_X6_46 na_copy st_copy in_sys 13 22 (by decide) (by decide) sh13 sh22 0 0 6 rfl rfl rfl (by omega) (by omega) (by decide) (by decide) (Nat.le_of_ble_eq_true rfl) (Nat.le_of_ble_eq_true rfl) dX6_become_157 ?_
  refine z_I (I' := zup (zup (zup (zup (zup (zup (zup (zup (zup I 15 (va_cpy (I 6) (I 15) 0 0 64)) 16 (va_cpy (I 7) (I 16) 0 0 8)) 14 (upd (upd (I 14) 2 (I 5 2)) 8 (I 5 8))) 17 (va_cpy (I 8) (I 17) 0 0 16)) 18 (va_cpy (I 9) (I 18) 0 0 16)) 19 (va_cpy (I 10) (I 19) 0 0 16)) 20 (va_cpy (I 11) (I 20) 0 0 16)) 21 (va_cpy (I 12) (I 21) 0 0 16)) 22 (va_cpy (I 13) (I 22) 0 0 6)) (by first | rfl | (rw [zup_n] <;> omega) | (rw [zup_n, zup_n] <;> omega) | (rw [zup_n, zup_n, zup_n] <;> omega) | (rw [zup_n, zup_n, zup_n, zup_n] <;> omega) | (rw [zup_n, zup_n, zup_n, zup_n, zup_n] <;> omega) | (rw [zup_n, zup_n, zup_n, zup_n, zup_n, zup_n] <;> omega) | (rw [zup_n, zup_n, zup_n, zup_n, zup_n, zup_n, zup_n] <;> omega) | (rw [zup_n, zup_n, zup_n, zup_n, zup_n, zup_n, zup_n, zup_n] <;> omega)) ?_
  refine z_aload_n C dX6_become_160 rfl 0 rfl ?_
  refine z_aload_n C dX6_become_161 rfl 1 rfl ?_
  refine z_geti C ff_X6_56 5 (by decide) sh5 rfl (v := I 5 10) (by first | rfl | (simp [zup, zupJ, upd, vp_updL]; done)) dX6_become_162 ?_
  refine z_puti C ff_X6_56 14 (by decide) sh14 rfl rfl rfl dX6_become_165 ?_
  refine z_I (I' := zup (zup (zup (zup (zup (zup (zup (zup (zup I 15 (va_cpy (I 6) (I 15) 0 0 64)) 16 (va_cpy (I 7) (I 16) 0 0 8)) 14 (upd (upd (upd (I 14) 2 (I 5 2)) 8 (I 5 8)) 10 (I 5 10))) 17 (va_cpy (I 8) (I 17) 0 0 16)) 18 (va_cpy (I 9) (I 18) 0 0 16)) 19 (va_cpy (I 10) (I 19) 0 0 16)) 20 (va_cpy (I 11) (I 20) 0 0 16)) 21 (va_cpy (I 12) (I 21) 0 0 16)) 22 (va_cpy (I 13) (I 22) 0 0 6)) (by funext zk; simp only [zup]; split <;> simp_all [zup]) ?_
  refine z_vret C hr dX6_become_168 ?_
  refine ⟨rfl, ?_⟩
  refine ⟨⟨?_, ?_, ?_, ?_, ?_, ?_, ?_, ?_, ?_, ?_, ?_, ?_⟩, rfl⟩
  · exact fun k h => sb_cpy0 h
  · exact fun k h => sb_cpy0 h
  · exact fun k h => sb_cpy0 h
  · exact fun k h => sb_cpy0 h
  · exact fun k h => sb_cpy0 h
  · exact fun k h => sb_cpy0 h
  · exact fun k h => sb_cpy0 h
  · exact fun k h => sb_cpy0 h
  · rfl
  · rfl
  · rfl
  · intro a ha
    simp only [zup]
    rw [if_neg (by omega), if_neg (by omega), if_neg (by omega), if_neg (by omega), if_neg (by omega), if_neg (by omega), if_neg (by omega), if_neg (by omega), if_neg (by omega)]
abbrev rm_X6_become_n : Room := { frames := 4, cells := 0, slots := 0, locals := 200 }
set_option maxRecDepth 100000 in
set_option maxHeartbeats 4000000 in
theorem k_X6_become_n (w : zW) (I : zI) (J : zJ)    : zMet yX6_become cX6_become 2 none rm_X6_become_n w [.ref (zad w 5), .ref (zad w 14)] I J (zpv (fun I' J' => ((∀ k, k < 64 → I' 6 k = I 15 k) ∧ (∀ k, k < 8 → I' 7 k = I 16 k) ∧ (∀ k, k < 16 → I' 8 k = I 17 k) ∧ (∀ k, k < 16 → I' 9 k = I 18 k) ∧ (∀ k, k < 16 → I' 10 k = I 19 k) ∧ (∀ k, k < 16 → I' 11 k = I 20 k) ∧ (∀ k, k < 16 → I' 12 k = I 21 k) ∧ (∀ k, k < 6 → I' 13 k = I 22 k) ∧ I' 5 2 = I 14 2 ∧ I' 5 8 = I 14 8 ∧ I' 5 10 = I 14 10 ∧ (∀ a, a < 5 ∨ 13 < a → I' a = I a)) ∧ J' = J)) := by
  refine zMet_of (by decide) (Nat.le_of_ble_eq_true rfl) (fun X C hm hr => ?_)
  refine z_sub (lv' := [(0, .ref (zad w 5)), (1, .ref (zad w 14))]) [0, 1] rfl ?_
  refine z_aload_n C dX6_become_0 rfl 1 rfl ?_
  refine z_getr C ff_X6_9 14 (by decide) sh14 rfl dX6_become_1 ?_
  refine z_iconst C (v := 0) dX6_become_4 (by decide) ?_
  refine z_aload_n C dX6_become_5 rfl 0 rfl ?_
  refine z_getr C ff_X6_9 5 (by decide) sh5 rfl dX6_become_6 ?_
  refine z_iconst C (v := 0) dX6_become_9 (by decide) ?_
  refine z_aload_n C dX6_become_10 rfl 0 rfl ?_
  refine z_getr C ff_X6_9 5 (by decide) sh5 rfl dX6_become_11 ?_
  refine z_alen C 6 (by decide) sh6 (by decide) (v := 64) (by decide) dX6_become_14 ?_
  refine z_copyi C ml_X6_46 na_copy st_copy in_sys 15 6 (by decide) (by decide) sh15 sh6 0 0 64 rfl rfl rfl (by omega) (by omega) (by decide) (by decide) (Nat.le_of_ble_eq_true rfl) (Nat.le_of_ble_eq_true rfl) dX6_become_15 ?_
  refine z_I (I' := zup I 6 (va_cpy (I 15) (I 6) 0 0 64)) rfl ?_
  refine z_aload_n C dX6_become_18 rfl 1 rfl ?_
  refine z_getr C ff_X6_15 14 (by decide) sh14 rfl dX6_become_19 ?_
  refine z_iconst C (v := 0) dX6_become_22 (by decide) ?_
  refine z_aload_n C dX6_become_23 rfl 0 rfl ?_
  refine z_getr C ff_X6_15 5 (by decide) sh5 rfl dX6_become_24 ?_
  refine z_iconst C (v := 0) dX6_become_27 (by decide) ?_
  refine z_aload_n C dX6_become_28 rfl 0 rfl ?_
  refine z_getr C ff_X6_15 5 (by decide) sh5 rfl dX6_become_29 ?_
  refine z_alen C 7 (by decide) sh7 (by decide) (v := 8) (by decide) dX6_become_32 ?_
  refine z_copyi C ml_X6_46 na_copy st_copy in_sys 16 7 (by decide) (by decide) sh16 sh7 0 0 8 rfl rfl rfl (by omega) (by omega) (by decide) (by decide) (Nat.le_of_ble_eq_true rfl) (Nat.le_of_ble_eq_true rfl) dX6_become_33 ?_
  refine z_I (I' := zup (zup I 6 (va_cpy (I 15) (I 6) 0 0 64)) 7 (va_cpy (I 16) (I 7) 0 0 8)) (by first | rfl | (rw [zup_n] <;> omega)) ?_
  refine z_aload_n C dX6_become_36 rfl 0 rfl ?_
  refine z_aload_n C dX6_become_37 rfl 1 rfl ?_
  refine z_geth C ff_X6_36 14 (by decide) sh14 rfl (q := zhd (I 14 2)) rfl dX6_become_38 ?_
  refine z_puth C ff_X6_36 5 (by decide) sh5 rfl (x := I 14 2) rfl rfl rfl dX6_become_41 ?_
  refine z_I (I' := zup (zup (zup I 6 (va_cpy (I 15) (I 6) 0 0 64)) 7 (va_cpy (I 16) (I 7) 0 0 8)) 5 (upd (I 5) 2 (I 14 2))) (by first | rfl | (rw [zup_n] <;> omega) | (rw [zup_n, zup_n] <;> omega)) ?_
  refine z_aload_n C dX6_become_44 rfl 1 rfl ?_
  refine z_getr C ff_X6_18 14 (by decide) sh14 rfl dX6_become_45 ?_
  refine z_iconst C (v := 0) dX6_become_48 (by decide) ?_
  refine z_aload_n C dX6_become_49 rfl 0 rfl ?_
  refine z_getr C ff_X6_18 5 (by decide) sh5 rfl dX6_become_50 ?_
  refine z_iconst C (v := 0) dX6_become_53 (by decide) ?_
  refine z_aload_n C dX6_become_54 rfl 0 rfl ?_
  refine z_getr C ff_X6_18 5 (by decide) sh5 rfl dX6_become_55 ?_
  refine z_alen C 8 (by decide) sh8 (by decide) (v := 16) (by decide) dX6_become_58 ?_
  refine z_copyi C ml_X6_46 na_copy st_copy in_sys 17 8 (by decide) (by decide) sh17 sh8 0 0 16 rfl rfl rfl (by omega) (by omega) (by decide) (by decide) (Nat.le_of_ble_eq_true rfl) (Nat.le_of_ble_eq_true rfl) dX6_become_59 ?_
  refine z_I (I' := zup (zup (zup (zup I 6 (va_cpy (I 15) (I 6) 0 0 64)) 7 (va_cpy (I 16) (I 7) 0 0 8)) 5 (upd (I 5) 2 (I 14 2))) 8 (va_cpy (I 17) (I 8) 0 0 16)) (by first | rfl | (rw [zup_n] <;> omega) | (rw [zup_n, zup_n] <;> omega) | (rw [zup_n, zup_n, zup_n] <;> omega)) ?_
  refine z_aload_n C dX6_become_62 rfl 1 rfl ?_
  refine z_getr C ff_X6_21 14 (by decide) sh14 rfl dX6_become_63 ?_
  refine z_iconst C (v := 0) dX6_become_66 (by decide) ?_
  refine z_aload_n C dX6_become_67 rfl 0 rfl ?_
  refine z_getr C ff_X6_21 5 (by decide) sh5 rfl dX6_become_68 ?_
  refine z_iconst C (v := 0) dX6_become_71 (by decide) ?_
  refine z_aload_n C dX6_become_72 rfl 0 rfl ?_
  refine z_getr C ff_X6_21 5 (by decide) sh5 rfl dX6_become_73 ?_
  refine z_alen C 9 (by decide) sh9 (by decide) (v := 16) (by decide) dX6_become_76 ?_
  refine z_copyi C ml_X6_46 na_copy st_copy in_sys 18 9 (by decide) (by decide) sh18 sh9 0 0 16 rfl rfl rfl (by omega) (by omega) (by decide) (by decide) (Nat.le_of_ble_eq_true rfl) (Nat.le_of_ble_eq_true rfl) dX6_become_77 ?_
  refine z_I (I' := zup (zup (zup (zup (zup I 6 (va_cpy (I 15) (I 6) 0 0 64)) 7 (va_cpy (I 16) (I 7) 0 0 8)) 5 (upd (I 5) 2 (I 14 2))) 8 (va_cpy (I 17) (I 8) 0 0 16)) 9 (va_cpy (I 18) (I 9) 0 0 16)) (by first | rfl | (rw [zup_n] <;> omega) | (rw [zup_n, zup_n] <;> omega) | (rw [zup_n, zup_n, zup_n] <;> omega) | (rw [zup_n, zup_n, zup_n, zup_n] <;> omega)) ?_
  refine z_aload_n C dX6_become_80 rfl 1 rfl ?_
  refine z_getr C ff_X6_24 14 (by decide) sh14 rfl dX6_become_81 ?_
  refine z_iconst C (v := 0) dX6_become_84 (by decide) ?_
  refine z_aload_n C dX6_become_85 rfl 0 rfl ?_
  refine z_getr C ff_X6_24 5 (by decide) sh5 rfl dX6_become_86 ?_
  refine z_iconst C (v := 0) dX6_become_89 (by decide) ?_
  refine z_aload_n C dX6_become_90 rfl 0 rfl ?_
  refine z_getr C ff_X6_24 5 (by decide) sh5 rfl dX6_become_91 ?_
  refine z_alen C 10 (by decide) sh10 (by decide) (v := 16) (by decide) dX6_become_94 ?_
  refine z_copyi C ml_X6_46 na_copy st_copy in_sys 19 10 (by decide) (by decide) sh19 sh10 0 0 16 rfl rfl rfl (by omega) (by omega) (by decide) (by decide) (Nat.le_of_ble_eq_true rfl) (Nat.le_of_ble_eq_true rfl) dX6_become_95 ?_
  refine z_I (I' := zup (zup (zup (zup (zup (zup I 6 (va_cpy (I 15) (I 6) 0 0 64)) 7 (va_cpy (I 16) (I 7) 0 0 8)) 5 (upd (I 5) 2 (I 14 2))) 8 (va_cpy (I 17) (I 8) 0 0 16)) 9 (va_cpy (I 18) (I 9) 0 0 16)) 10 (va_cpy (I 19) (I 10) 0 0 16)) (by first | rfl | (rw [zup_n] <;> omega) | (rw [zup_n, zup_n] <;> omega) | (rw [zup_n, zup_n, zup_n] <;> omega) | (rw [zup_n, zup_n, zup_n, zup_n] <;> omega) | (rw [zup_n, zup_n, zup_n, zup_n, zup_n] <;> omega)) ?_
  refine z_aload_n C dX6_become_98 rfl 1 rfl ?_
  refine z_getr C ff_X6_27 14 (by decide) sh14 rfl dX6_become_99 ?_
  refine z_iconst C (v := 0) dX6_become_102 (by decide) ?_
  refine z_aload_n C dX6_become_103 rfl 0 rfl ?_
  refine z_getr C ff_X6_27 5 (by decide) sh5 rfl dX6_become_104 ?_
  refine z_iconst C (v := 0) dX6_become_107 (by decide) ?_
  refine z_aload_n C dX6_become_108 rfl 0 rfl ?_
  refine z_getr C ff_X6_27 5 (by decide) sh5 rfl dX6_become_109 ?_
  refine z_alen C 11 (by decide) sh11 (by decide) (v := 16) (by decide) dX6_become_112 ?_
  refine z_copyi C ml_X6_46 na_copy st_copy in_sys 20 11 (by decide) (by decide) sh20 sh11 0 0 16 rfl rfl rfl (by omega) (by omega) (by decide) (by decide) (Nat.le_of_ble_eq_true rfl) (Nat.le_of_ble_eq_true rfl) dX6_become_113 ?_
  refine z_I (I' := zup (zup (zup (zup (zup (zup (zup I 6 (va_cpy (I 15) (I 6) 0 0 64)) 7 (va_cpy (I 16) (I 7) 0 0 8)) 5 (upd (I 5) 2 (I 14 2))) 8 (va_cpy (I 17) (I 8) 0 0 16)) 9 (va_cpy (I 18) (I 9) 0 0 16)) 10 (va_cpy (I 19) (I 10) 0 0 16)) 11 (va_cpy (I 20) (I 11) 0 0 16)) (by first | rfl | (rw [zup_n] <;> omega) | (rw [zup_n, zup_n] <;> omega) | (rw [zup_n, zup_n, zup_n] <;> omega) | (rw [zup_n, zup_n, zup_n, zup_n] <;> omega) | (rw [zup_n, zup_n, zup_n, zup_n, zup_n] <;> omega) | (rw [zup_n, zup_n, zup_n, zup_n, zup_n, zup_n] <;> omega)) ?_
  refine z_aload_n C dX6_become_116 rfl 1 rfl ?_
  refine z_getr C ff_X6_30 14 (by decide) sh14 rfl dX6_become_117 ?_
  refine z_iconst C (v := 0) dX6_become_120 (by decide) ?_
  refine z_aload_n C dX6_become_121 rfl 0 rfl ?_
  refine z_getr C ff_X6_30 5 (by decide) sh5 rfl dX6_become_122 ?_
  refine z_iconst C (v := 0) dX6_become_125 (by decide) ?_
  refine z_aload_n C dX6_become_126 rfl 0 rfl ?_
  refine z_getr C ff_X6_30 5 (by decide) sh5 rfl dX6_become_127 ?_
  refine z_alen C 12 (by decide) sh12 (by decide) (v := 16) (by decide) dX6_become_130 ?_
  refine z_copyi C ml_X6_46 na_copy st_copy in_sys 21 12 (by decide) (by decide) sh21 sh12 0 0 16 rfl rfl rfl (by omega) (by omega) (by decide) (by decide) (Nat.le_of_ble_eq_true rfl) (Nat.le_of_ble_eq_true rfl) dX6_become_131 ?_
  refine z_I (I' := zup (zup (zup (zup (zup (zup (zup (zup I 6 (va_cpy (I 15) (I 6) 0 0 64)) 7 (va_cpy (I 16) (I 7) 0 0 8)) 5 (upd (I 5) 2 (I 14 2))) 8 (va_cpy (I 17) (I 8) 0 0 16)) 9 (va_cpy (I 18) (I 9) 0 0 16)) 10 (va_cpy (I 19) (I 10) 0 0 16)) 11 (va_cpy (I 20) (I 11) 0 0 16)) 12 (va_cpy (I 21) (I 12) 0 0 16)) (by first | rfl | (rw [zup_n] <;> omega) | (rw [zup_n, zup_n] <;> omega) | (rw [zup_n, zup_n, zup_n] <;> omega) | (rw [zup_n, zup_n, zup_n, zup_n] <;> omega) | (rw [zup_n, zup_n, zup_n, zup_n, zup_n] <;> omega) | (rw [zup_n, zup_n, zup_n, zup_n, zup_n, zup_n] <;> omega) | (rw [zup_n, zup_n, zup_n, zup_n, zup_n, zup_n, zup_n] <;> omega)) ?_
  refine z_aload_n C dX6_become_134 rfl 0 rfl ?_
  refine z_aload_n C dX6_become_135 rfl 1 rfl ?_
  refine z_geti C ff_X6_52 14 (by decide) sh14 rfl (v := I 14 8) (by first | rfl | (simp [zup, zupJ, upd, vp_updL]; done)) dX6_become_136 ?_
  refine z_puti C ff_X6_52 5 (by decide) sh5 rfl rfl rfl dX6_become_139 ?_
  refine z_I (I' := zup (zup (zup (zup (zup (zup (zup (zup I 6 (va_cpy (I 15) (I 6) 0 0 64)) 7 (va_cpy (I 16) (I 7) 0 0 8)) 5 (upd (upd (I 5) 2 (I 14 2)) 8 (I 14 8))) 8 (va_cpy (I 17) (I 8) 0 0 16)) 9 (va_cpy (I 18) (I 9) 0 0 16)) 10 (va_cpy (I 19) (I 10) 0 0 16)) 11 (va_cpy (I 20) (I 11) 0 0 16)) 12 (va_cpy (I 21) (I 12) 0 0 16)) (by funext zk; simp only [zup]; split <;> simp_all [zup]) ?_
  refine z_aload_n C dX6_become_142 rfl 1 rfl ?_
  refine z_getr C ff_X6_33 14 (by decide) sh14 rfl dX6_become_143 ?_
  refine z_iconst C (v := 0) dX6_become_146 (by decide) ?_
  refine z_aload_n C dX6_become_147 rfl 0 rfl ?_
  refine z_getr C ff_X6_33 5 (by decide) sh5 rfl dX6_become_148 ?_
  refine z_iconst C (v := 0) dX6_become_151 (by decide) ?_
  refine z_aload_n C dX6_become_152 rfl 0 rfl ?_
  refine z_getr C ff_X6_33 5 (by decide) sh5 rfl dX6_become_153 ?_
  refine z_alen C 13 (by decide) sh13 (by decide) (v := 6) (by decide) dX6_become_156 ?_
  refine z_copyi C ml_X6_46 na_copy st_copy in_sys 22 13 (by decide) (by decide) sh22 sh13 0 0 6 rfl rfl rfl (by omega) (by omega) (by decide) (by decide) (Nat.le_of_ble_eq_true rfl) (Nat.le_of_ble_eq_true rfl) dX6_become_157 ?_
  refine z_I (I' := zup (zup (zup (zup (zup (zup (zup (zup (zup I 6 (va_cpy (I 15) (I 6) 0 0 64)) 7 (va_cpy (I 16) (I 7) 0 0 8)) 5 (upd (upd (I 5) 2 (I 14 2)) 8 (I 14 8))) 8 (va_cpy (I 17) (I 8) 0 0 16)) 9 (va_cpy (I 18) (I 9) 0 0 16)) 10 (va_cpy (I 19) (I 10) 0 0 16)) 11 (va_cpy (I 20) (I 11) 0 0 16)) 12 (va_cpy (I 21) (I 12) 0 0 16)) 13 (va_cpy (I 22) (I 13) 0 0 6)) (by first | rfl | (rw [zup_n] <;> omega) | (rw [zup_n, zup_n] <;> omega) | (rw [zup_n, zup_n, zup_n] <;> omega) | (rw [zup_n, zup_n, zup_n, zup_n] <;> omega) | (rw [zup_n, zup_n, zup_n, zup_n, zup_n] <;> omega) | (rw [zup_n, zup_n, zup_n, zup_n, zup_n, zup_n] <;> omega) | (rw [zup_n, zup_n, zup_n, zup_n, zup_n, zup_n, zup_n] <;> omega) | (rw [zup_n, zup_n, zup_n, zup_n, zup_n, zup_n, zup_n, zup_n] <;> omega)) ?_
  refine z_aload_n C dX6_become_160 rfl 0 rfl ?_
  refine z_aload_n C dX6_become_161 rfl 1 rfl ?_
  refine z_geti C ff_X6_56 14 (by decide) sh14 rfl (v := I 14 10) (by first | rfl | (simp [zup, zupJ, upd, vp_updL]; done)) dX6_become_162 ?_
  refine z_puti C ff_X6_56 5 (by decide) sh5 rfl rfl rfl dX6_become_165 ?_
  refine z_I (I' := zup (zup (zup (zup (zup (zup (zup (zup (zup I 6 (va_cpy (I 15) (I 6) 0 0 64)) 7 (va_cpy (I 16) (I 7) 0 0 8)) 5 (upd (upd (upd (I 5) 2 (I 14 2)) 8 (I 14 8)) 10 (I 14 10))) 8 (va_cpy (I 17) (I 8) 0 0 16)) 9 (va_cpy (I 18) (I 9) 0 0 16)) 10 (va_cpy (I 19) (I 10) 0 0 16)) 11 (va_cpy (I 20) (I 11) 0 0 16)) 12 (va_cpy (I 21) (I 12) 0 0 16)) 13 (va_cpy (I 22) (I 13) 0 0 6)) (by funext zk; simp only [zup]; split <;> simp_all [zup]) ?_
  refine z_vret C hr dX6_become_168 ?_
  refine ⟨rfl, ?_⟩
  refine ⟨⟨?_, ?_, ?_, ?_, ?_, ?_, ?_, ?_, ?_, ?_, ?_, ?_⟩, rfl⟩
  · exact fun k h => sb_cpy0 h
  · exact fun k h => sb_cpy0 h
  · exact fun k h => sb_cpy0 h
  · exact fun k h => sb_cpy0 h
  · exact fun k h => sb_cpy0 h
  · exact fun k h => sb_cpy0 h
  · exact fun k h => sb_cpy0 h
  · exact fun k h => sb_cpy0 h
  · rfl
  · rfl
  · rfl
  · intro a ha
    simp only [zup]
    rw [if_neg (by omega), if_neg (by omega), if_neg (by omega), if_neg (by omega), if_neg (by omega), if_neg (by omega), if_neg (by omega), if_neg (by omega), if_neg (by omega)]
abbrev rm_J7_fill_53178 : Room := { frames := 4, cells := 0, slots := 0, locals := 200 }
set_option maxRecDepth 100000 in
set_option maxHeartbeats 4000000 in
theorem k_J7_fill_53178 (w : zW) (I : zI) (J : zJ) (a n : Nat) (r : Nat → Option Nat) (v : Int32) (ha : a < zN) (hs : zsh a = .inl (0, n, 0, r)) (hn : n ≤ 1000) : zMet yJ7_fill_53178 cJ7_fill_53178 4 none rm_J7_fill_53178 w [.ref (zad w a), .int v] I J (zpv (fun I' J' => I' = zup I a (zfill v (I a) n) ∧ J' = J)) := by
  refine zMet_of (by decide) (Nat.le_of_ble_eq_true rfl) (fun X C hm hr => ?_)
  refine z_sub (lv' := [(0, .ref (zad w a)), (1, .int v)]) [0, 1] rfl ?_
  refine z_iconst C (v := 0) dJ7_fill_53178_0 (by decide) ?_
  refine z_istore_n C hm (lv' := [(2, .int 0), (0, .ref (zad w a)), (1, .int v)]) dJ7_fill_53178_1 rfl (by decide) rfl ?_
  refine z_aload_n C dJ7_fill_53178_2 rfl 1 rfl ?_
  refine z_alen C a ha hs (by decide) (v := nI n) rfl dJ7_fill_53178_3 ?_
  refine z_istore_n C hm (lv' := [(3, .int (nI n)), (2, .int 0), (0, .ref (zad w a)), (1, .int v)]) dJ7_fill_53178_4 rfl (by decide) rfl ?_
  have L5 : ∀ (d : Nat) (k : Nat) (v5_2 : Int32) (I5 : zI), (n - k) < d → (k ≤ n) → v5_2 = nI k → I5 = zup I a (zfill v (I a) k) → Z X w I5 J 5 [(0, .ref (zad w a)), (1, .int v), (2, .int v5_2), (3, .int (nI n))] [] := by
    intro d
    induction d with
    | zero => intro k v5_2 I5 hd; exact absurd hd (Nat.not_lt_zero _)
    | succ d ih5 => 
      intro k v5_2 I5 hd5 hk e_v5_2 e_I5
      replace e_v5_2 := e_v5_2.symm; subst e_v5_2
      replace e_I5 := e_I5.symm; subst e_I5
      refine z_iload_n C dJ7_fill_53178_5 rfl 2 rfl ?_
      refine z_iload_n C dJ7_fill_53178_6 rfl 3 rfl ?_
      refine z_icmp_ge_n k n (tgt := 20) C rfl rfl (by omega) (by omega) dJ7_fill_53178_7 (by decide) (fun c7 => ?_) (fun c7 => ?_)
      · skip
        have hkk : k = n := by omega
        refine z_vret C hr dJ7_fill_53178_20 ?_
        refine ⟨rfl, ?_⟩
        exact ⟨by rw [hkk], rfl⟩
      · skip
        refine z_aload_n C dJ7_fill_53178_10 rfl 0 rfl ?_
        refine z_iload_n C dJ7_fill_53178_11 rfl 2 rfl ?_
        refine z_iload_n C dJ7_fill_53178_12 rfl 1 rfl ?_
        refine z_iast C a ha hs k (by omega) (by omega) rfl dJ7_fill_53178_13 ?_
        refine z_I (I' := zup I a (upd (zfill v (I a) k) k v)) (by rw [zup_s, zup_up]) ?_
        refine z_iinc C hm 2 (v := nI (k + 1)) (lv' := [(2, .int (nI (k + 1))), (0, .ref (zad w a)), (1, .int v), (3, .int (nI n))]) dJ7_fill_53178_14 rfl (nI_add k 1) (by decide) rfl ?_
        refine z_goto (tgt := 5) C dJ7_fill_53178_17 (by decide) ?_
        exact z_sub [1, 2, 0, 3] rfl (ih5  (k + 1) _ _ (by omega) (by omega) rfl (by rw [zfill_s]))
  exact z_sub [2, 3, 1, 0] rfl (L5 _ 0 _ _ (Nat.lt_succ_self _) (by omega) rfl (by rw [zfill_0, zup_id]))
abbrev rm_J7_fill_d0a16 : Room := { frames := 4, cells := 0, slots := 0, locals := 200 }
set_option maxRecDepth 100000 in
set_option maxHeartbeats 4000000 in
theorem k_J7_fill_d0a16 (w : zW) (I : zI) (J : zJ) (a n : Nat) (r : Nat → Option Nat) (v : Int64) (ha : a < zN) (hs : zsh a = .inl (1, n, 1, r)) (hn : n ≤ 1000) : zMet yJ7_fill_d0a16 cJ7_fill_d0a16 5 none rm_J7_fill_d0a16 w [.ref (zad w a), .long v] I J (zpv (fun I' J' => I' = I ∧ J' = zupJ J a (zfill v (J a) n))) := by
  refine zMet_of (by decide) (Nat.le_of_ble_eq_true rfl) (fun X C hm hr => ?_)
  refine z_sub (lv' := [(0, .ref (zad w a)), (1, .long v)]) [0, 1] rfl ?_
  refine z_iconst C (v := 0) dJ7_fill_d0a16_0 (by decide) ?_
  refine z_istore_n C hm (lv' := [(3, .int 0), (0, .ref (zad w a)), (1, .long v)]) dJ7_fill_d0a16_1 rfl (by decide) rfl ?_
  refine z_aload_n C dJ7_fill_d0a16_2 rfl 1 rfl ?_
  refine z_alen C a ha hs (by decide) (v := nI n) rfl dJ7_fill_d0a16_3 ?_
  refine z_istore C hm (lv' := [(4, .int (nI n)), (3, .int 0), (0, .ref (zad w a)), (1, .long v)]) dJ7_fill_d0a16_4 (by decide) rfl ?_
  have L6 : ∀ (d : Nat) (k : Nat) (v6_3 : Int32) (J6 : zJ), (n - k) < d → (k ≤ n) → v6_3 = nI k → J6 = zupJ J a (zfill v (J a) k) → Z X w I J6 6 [(0, .ref (zad w a)), (1, .long v), (3, .int v6_3), (4, .int (nI n))] [] := by
    intro d
    induction d with
    | zero => intro k v6_3 J6 hd; exact absurd hd (Nat.not_lt_zero _)
    | succ d ih6 => 
      intro k v6_3 J6 hd6 hk e_v6_3 e_J6
      replace e_v6_3 := e_v6_3.symm; subst e_v6_3
      replace e_J6 := e_J6.symm; subst e_J6
      refine z_iload_n C dJ7_fill_d0a16_6 rfl 2 rfl ?_
      refine z_iload C dJ7_fill_d0a16_7 3 rfl ?_
      refine z_icmp_ge_n k n (tgt := 22) C rfl rfl (by omega) (by omega) dJ7_fill_d0a16_9 (by decide) (fun c9 => ?_) (fun c9 => ?_)
      · skip
        have hkk : k = n := by omega
        refine z_vret C hr dJ7_fill_d0a16_22 ?_
        refine ⟨rfl, ?_⟩
        exact ⟨rfl, by rw [hkk]⟩
      · skip
        refine z_aload_n C dJ7_fill_d0a16_12 rfl 0 rfl ?_
        refine z_iload_n C dJ7_fill_d0a16_13 rfl 2 rfl ?_
        refine z_lload_n C dJ7_fill_d0a16_14 rfl 1 rfl ?_
        refine z_last C a ha hs k (by omega) (by omega) rfl dJ7_fill_d0a16_15 ?_
        refine z_J (J' := zupJ J a (vp_updL (zfill v (J a) k) k v)) (by rw [zupJ_s, zupJ_up]) ?_
        refine z_iinc C hm 2 (v := nI (k + 1)) (lv' := [(3, .int (nI (k + 1))), (0, .ref (zad w a)), (1, .long v), (4, .int (nI n))]) dJ7_fill_d0a16_16 rfl (nI_add k 1) (by decide) rfl ?_
        refine z_goto (tgt := 6) C dJ7_fill_d0a16_19 (by decide) ?_
        exact z_sub [1, 2, 0, 3] rfl (ih6  (k + 1) _ _ (by omega) (by omega) rfl (by rw [zfill_sl]))
  exact z_sub [2, 3, 1, 0] rfl (L6 _ 0 _ _ (Nat.lt_succ_self _) (by omega) rfl (by rw [zfill_0, zupJ_id]))
abbrev rm_J6_bitCount_0f7a4 : Room := { frames := 4, cells := 0, slots := 0, locals := 200 }
set_option maxRecDepth 100000 in
set_option maxHeartbeats 4000000 in
theorem k_J6_bitCount_0f7a4 (w : zW) (I : zI) (J : zJ)  (x : Int32)  : zMet yJ6_bitCount_0f7a4 cJ6_bitCount_0f7a4 1 (some .int) rm_J6_bitCount_0f7a4 w [.int x] I J (zpi (fun v I' J' => v = zbc x ∧ I' = I ∧ J' = J)) := by
  refine zMet_of (by decide) (Nat.le_of_ble_eq_true rfl) (fun X C hm hr => ?_)
  refine z_sub (lv' := [(0, .int x)]) [0] rfl ?_
  refine z_iload_n C dJ6_bitCount_0f7a4_0 rfl 0 rfl ?_
  refine z_iload_n C dJ6_bitCount_0f7a4_1 rfl 0 rfl ?_
  refine z_iconst C (v := 1) dJ6_bitCount_0f7a4_2 (by decide) ?_
  refine z_iushr C (v := (x.toUInt32 >>> ((1 : Int32).toUInt32 &&& Int32.toUInt32 31)).toInt32) dJ6_bitCount_0f7a4_3 rfl ?_
  refine z_ldcw C (v := 1431655765) kc_J6_265 dJ6_bitCount_0f7a4_4 ?_
  refine z_iand C dJ6_bitCount_0f7a4_7 ?_
  refine z_isub C dJ6_bitCount_0f7a4_8 ?_
  refine z_istore_n C hm (lv' := [(0, .int (x - (((x.toUInt32 >>> ((1 : Int32).toUInt32 &&& Int32.toUInt32 31)).toInt32) &&& 1431655765)))]) dJ6_bitCount_0f7a4_9 rfl (by decide) rfl ?_
  refine z_iload_n C dJ6_bitCount_0f7a4_10 rfl 0 rfl ?_
  refine z_ldcw C (v := 858993459) kc_J6_266 dJ6_bitCount_0f7a4_11 ?_
  refine z_iand C dJ6_bitCount_0f7a4_14 ?_
  refine z_iload_n C dJ6_bitCount_0f7a4_15 rfl 0 rfl ?_
  refine z_iconst C (v := 2) dJ6_bitCount_0f7a4_16 (by decide) ?_
  refine z_iushr C (v := ((x - (((x.toUInt32 >>> ((1 : Int32).toUInt32 &&& Int32.toUInt32 31)).toInt32) &&& 1431655765)).toUInt32 >>> ((2 : Int32).toUInt32 &&& Int32.toUInt32 31)).toInt32) dJ6_bitCount_0f7a4_17 rfl ?_
  refine z_ldcw C (v := 858993459) kc_J6_266 dJ6_bitCount_0f7a4_18 ?_
  refine z_iand C dJ6_bitCount_0f7a4_21 ?_
  refine z_iadd C dJ6_bitCount_0f7a4_22 ?_
  refine z_istore_n C hm (lv' := [(0, .int (((x - (((x.toUInt32 >>> ((1 : Int32).toUInt32 &&& Int32.toUInt32 31)).toInt32) &&& 1431655765)) &&& 858993459) + ((((x - (((x.toUInt32 >>> ((1 : Int32).toUInt32 &&& Int32.toUInt32 31)).toInt32) &&& 1431655765)).toUInt32 >>> ((2 : Int32).toUInt32 &&& Int32.toUInt32 31)).toInt32) &&& 858993459)))]) dJ6_bitCount_0f7a4_23 rfl (by decide) rfl ?_
  refine z_iload_n C dJ6_bitCount_0f7a4_24 rfl 0 rfl ?_
  refine z_iload_n C dJ6_bitCount_0f7a4_25 rfl 0 rfl ?_
  refine z_iconst C (v := 4) dJ6_bitCount_0f7a4_26 (by decide) ?_
  refine z_iushr C (v := ((((x - (((x.toUInt32 >>> ((1 : Int32).toUInt32 &&& Int32.toUInt32 31)).toInt32) &&& 1431655765)) &&& 858993459) + ((((x - (((x.toUInt32 >>> ((1 : Int32).toUInt32 &&& Int32.toUInt32 31)).toInt32) &&& 1431655765)).toUInt32 >>> ((2 : Int32).toUInt32 &&& Int32.toUInt32 31)).toInt32) &&& 858993459)).toUInt32 >>> ((4 : Int32).toUInt32 &&& Int32.toUInt32 31)).toInt32) dJ6_bitCount_0f7a4_27 rfl ?_
  refine z_iadd C dJ6_bitCount_0f7a4_28 ?_
  refine z_ldcw C (v := 252645135) kc_J6_267 dJ6_bitCount_0f7a4_29 ?_
  refine z_iand C dJ6_bitCount_0f7a4_32 ?_
  refine z_istore_n C hm (lv' := [(0, .int (((((x - (((x.toUInt32 >>> ((1 : Int32).toUInt32 &&& Int32.toUInt32 31)).toInt32) &&& 1431655765)) &&& 858993459) + ((((x - (((x.toUInt32 >>> ((1 : Int32).toUInt32 &&& Int32.toUInt32 31)).toInt32) &&& 1431655765)).toUInt32 >>> ((2 : Int32).toUInt32 &&& Int32.toUInt32 31)).toInt32) &&& 858993459)) + (((((x - (((x.toUInt32 >>> ((1 : Int32).toUInt32 &&& Int32.toUInt32 31)).toInt32) &&& 1431655765)) &&& 858993459) + ((((x - (((x.toUInt32 >>> ((1 : Int32).toUInt32 &&& Int32.toUInt32 31)).toInt32) &&& 1431655765)).toUInt32 >>> ((2 : Int32).toUInt32 &&& Int32.toUInt32 31)).toInt32) &&& 858993459)).toUInt32 >>> ((4 : Int32).toUInt32 &&& Int32.toUInt32 31)).toInt32)) &&& 252645135))]) dJ6_bitCount_0f7a4_33 rfl (by decide) rfl ?_
  refine z_iload_n C dJ6_bitCount_0f7a4_34 rfl 0 rfl ?_
  refine z_iload_n C dJ6_bitCount_0f7a4_35 rfl 0 rfl ?_
  refine z_bipush C (v := 8) dJ6_bitCount_0f7a4_36 (by decide) ?_
  refine z_iushr C (v := ((((((x - (((x.toUInt32 >>> ((1 : Int32).toUInt32 &&& Int32.toUInt32 31)).toInt32) &&& 1431655765)) &&& 858993459) + ((((x - (((x.toUInt32 >>> ((1 : Int32).toUInt32 &&& Int32.toUInt32 31)).toInt32) &&& 1431655765)).toUInt32 >>> ((2 : Int32).toUInt32 &&& Int32.toUInt32 31)).toInt32) &&& 858993459)) + (((((x - (((x.toUInt32 >>> ((1 : Int32).toUInt32 &&& Int32.toUInt32 31)).toInt32) &&& 1431655765)) &&& 858993459) + ((((x - (((x.toUInt32 >>> ((1 : Int32).toUInt32 &&& Int32.toUInt32 31)).toInt32) &&& 1431655765)).toUInt32 >>> ((2 : Int32).toUInt32 &&& Int32.toUInt32 31)).toInt32) &&& 858993459)).toUInt32 >>> ((4 : Int32).toUInt32 &&& Int32.toUInt32 31)).toInt32)) &&& 252645135).toUInt32 >>> ((8 : Int32).toUInt32 &&& Int32.toUInt32 31)).toInt32) dJ6_bitCount_0f7a4_38 rfl ?_
  refine z_iadd C dJ6_bitCount_0f7a4_39 ?_
  refine z_istore_n C hm (lv' := [(0, .int ((((((x - (((x.toUInt32 >>> ((1 : Int32).toUInt32 &&& Int32.toUInt32 31)).toInt32) &&& 1431655765)) &&& 858993459) + ((((x - (((x.toUInt32 >>> ((1 : Int32).toUInt32 &&& Int32.toUInt32 31)).toInt32) &&& 1431655765)).toUInt32 >>> ((2 : Int32).toUInt32 &&& Int32.toUInt32 31)).toInt32) &&& 858993459)) + (((((x - (((x.toUInt32 >>> ((1 : Int32).toUInt32 &&& Int32.toUInt32 31)).toInt32) &&& 1431655765)) &&& 858993459) + ((((x - (((x.toUInt32 >>> ((1 : Int32).toUInt32 &&& Int32.toUInt32 31)).toInt32) &&& 1431655765)).toUInt32 >>> ((2 : Int32).toUInt32 &&& Int32.toUInt32 31)).toInt32) &&& 858993459)).toUInt32 >>> ((4 : Int32).toUInt32 &&& Int32.toUInt32 31)).toInt32)) &&& 252645135) + (((((((x - (((x.toUInt32 >>> ((1 : Int32).toUInt32 &&& Int32.toUInt32 31)).toInt32) &&& 1431655765)) &&& 858993459) + ((((x - (((x.toUInt32 >>> ((1 : Int32).toUInt32 &&& Int32.toUInt32 31)).toInt32) &&& 1431655765)).toUInt32 >>> ((2 : Int32).toUInt32 &&& Int32.toUInt32 31)).toInt32) &&& 858993459)) + (((((x - (((x.toUInt32 >>> ((1 : Int32).toUInt32 &&& Int32.toUInt32 31)).toInt32) &&& 1431655765)) &&& 858993459) + ((((x - (((x.toUInt32 >>> ((1 : Int32).toUInt32 &&& Int32.toUInt32 31)).toInt32) &&& 1431655765)).toUInt32 >>> ((2 : Int32).toUInt32 &&& Int32.toUInt32 31)).toInt32) &&& 858993459)).toUInt32 >>> ((4 : Int32).toUInt32 &&& Int32.toUInt32 31)).toInt32)) &&& 252645135).toUInt32 >>> ((8 : Int32).toUInt32 &&& Int32.toUInt32 31)).toInt32)))]) dJ6_bitCount_0f7a4_40 rfl (by decide) rfl ?_
  refine z_iload_n C dJ6_bitCount_0f7a4_41 rfl 0 rfl ?_
  refine z_iload_n C dJ6_bitCount_0f7a4_42 rfl 0 rfl ?_
  refine z_bipush C (v := 16) dJ6_bitCount_0f7a4_43 (by decide) ?_
  refine z_iushr C (v := (((((((x - (((x.toUInt32 >>> ((1 : Int32).toUInt32 &&& Int32.toUInt32 31)).toInt32) &&& 1431655765)) &&& 858993459) + ((((x - (((x.toUInt32 >>> ((1 : Int32).toUInt32 &&& Int32.toUInt32 31)).toInt32) &&& 1431655765)).toUInt32 >>> ((2 : Int32).toUInt32 &&& Int32.toUInt32 31)).toInt32) &&& 858993459)) + (((((x - (((x.toUInt32 >>> ((1 : Int32).toUInt32 &&& Int32.toUInt32 31)).toInt32) &&& 1431655765)) &&& 858993459) + ((((x - (((x.toUInt32 >>> ((1 : Int32).toUInt32 &&& Int32.toUInt32 31)).toInt32) &&& 1431655765)).toUInt32 >>> ((2 : Int32).toUInt32 &&& Int32.toUInt32 31)).toInt32) &&& 858993459)).toUInt32 >>> ((4 : Int32).toUInt32 &&& Int32.toUInt32 31)).toInt32)) &&& 252645135) + (((((((x - (((x.toUInt32 >>> ((1 : Int32).toUInt32 &&& Int32.toUInt32 31)).toInt32) &&& 1431655765)) &&& 858993459) + ((((x - (((x.toUInt32 >>> ((1 : Int32).toUInt32 &&& Int32.toUInt32 31)).toInt32) &&& 1431655765)).toUInt32 >>> ((2 : Int32).toUInt32 &&& Int32.toUInt32 31)).toInt32) &&& 858993459)) + (((((x - (((x.toUInt32 >>> ((1 : Int32).toUInt32 &&& Int32.toUInt32 31)).toInt32) &&& 1431655765)) &&& 858993459) + ((((x - (((x.toUInt32 >>> ((1 : Int32).toUInt32 &&& Int32.toUInt32 31)).toInt32) &&& 1431655765)).toUInt32 >>> ((2 : Int32).toUInt32 &&& Int32.toUInt32 31)).toInt32) &&& 858993459)).toUInt32 >>> ((4 : Int32).toUInt32 &&& Int32.toUInt32 31)).toInt32)) &&& 252645135).toUInt32 >>> ((8 : Int32).toUInt32 &&& Int32.toUInt32 31)).toInt32)).toUInt32 >>> ((16 : Int32).toUInt32 &&& Int32.toUInt32 31)).toInt32) dJ6_bitCount_0f7a4_45 rfl ?_
  refine z_iadd C dJ6_bitCount_0f7a4_46 ?_
  refine z_istore_n C hm (lv' := [(0, .int (((((((x - (((x.toUInt32 >>> ((1 : Int32).toUInt32 &&& Int32.toUInt32 31)).toInt32) &&& 1431655765)) &&& 858993459) + ((((x - (((x.toUInt32 >>> ((1 : Int32).toUInt32 &&& Int32.toUInt32 31)).toInt32) &&& 1431655765)).toUInt32 >>> ((2 : Int32).toUInt32 &&& Int32.toUInt32 31)).toInt32) &&& 858993459)) + (((((x - (((x.toUInt32 >>> ((1 : Int32).toUInt32 &&& Int32.toUInt32 31)).toInt32) &&& 1431655765)) &&& 858993459) + ((((x - (((x.toUInt32 >>> ((1 : Int32).toUInt32 &&& Int32.toUInt32 31)).toInt32) &&& 1431655765)).toUInt32 >>> ((2 : Int32).toUInt32 &&& Int32.toUInt32 31)).toInt32) &&& 858993459)).toUInt32 >>> ((4 : Int32).toUInt32 &&& Int32.toUInt32 31)).toInt32)) &&& 252645135) + (((((((x - (((x.toUInt32 >>> ((1 : Int32).toUInt32 &&& Int32.toUInt32 31)).toInt32) &&& 1431655765)) &&& 858993459) + ((((x - (((x.toUInt32 >>> ((1 : Int32).toUInt32 &&& Int32.toUInt32 31)).toInt32) &&& 1431655765)).toUInt32 >>> ((2 : Int32).toUInt32 &&& Int32.toUInt32 31)).toInt32) &&& 858993459)) + (((((x - (((x.toUInt32 >>> ((1 : Int32).toUInt32 &&& Int32.toUInt32 31)).toInt32) &&& 1431655765)) &&& 858993459) + ((((x - (((x.toUInt32 >>> ((1 : Int32).toUInt32 &&& Int32.toUInt32 31)).toInt32) &&& 1431655765)).toUInt32 >>> ((2 : Int32).toUInt32 &&& Int32.toUInt32 31)).toInt32) &&& 858993459)).toUInt32 >>> ((4 : Int32).toUInt32 &&& Int32.toUInt32 31)).toInt32)) &&& 252645135).toUInt32 >>> ((8 : Int32).toUInt32 &&& Int32.toUInt32 31)).toInt32)) + ((((((((x - (((x.toUInt32 >>> ((1 : Int32).toUInt32 &&& Int32.toUInt32 31)).toInt32) &&& 1431655765)) &&& 858993459) + ((((x - (((x.toUInt32 >>> ((1 : Int32).toUInt32 &&& Int32.toUInt32 31)).toInt32) &&& 1431655765)).toUInt32 >>> ((2 : Int32).toUInt32 &&& Int32.toUInt32 31)).toInt32) &&& 858993459)) + (((((x - (((x.toUInt32 >>> ((1 : Int32).toUInt32 &&& Int32.toUInt32 31)).toInt32) &&& 1431655765)) &&& 858993459) + ((((x - (((x.toUInt32 >>> ((1 : Int32).toUInt32 &&& Int32.toUInt32 31)).toInt32) &&& 1431655765)).toUInt32 >>> ((2 : Int32).toUInt32 &&& Int32.toUInt32 31)).toInt32) &&& 858993459)).toUInt32 >>> ((4 : Int32).toUInt32 &&& Int32.toUInt32 31)).toInt32)) &&& 252645135) + (((((((x - (((x.toUInt32 >>> ((1 : Int32).toUInt32 &&& Int32.toUInt32 31)).toInt32) &&& 1431655765)) &&& 858993459) + ((((x - (((x.toUInt32 >>> ((1 : Int32).toUInt32 &&& Int32.toUInt32 31)).toInt32) &&& 1431655765)).toUInt32 >>> ((2 : Int32).toUInt32 &&& Int32.toUInt32 31)).toInt32) &&& 858993459)) + (((((x - (((x.toUInt32 >>> ((1 : Int32).toUInt32 &&& Int32.toUInt32 31)).toInt32) &&& 1431655765)) &&& 858993459) + ((((x - (((x.toUInt32 >>> ((1 : Int32).toUInt32 &&& Int32.toUInt32 31)).toInt32) &&& 1431655765)).toUInt32 >>> ((2 : Int32).toUInt32 &&& Int32.toUInt32 31)).toInt32) &&& 858993459)).toUInt32 >>> ((4 : Int32).toUInt32 &&& Int32.toUInt32 31)).toInt32)) &&& 252645135).toUInt32 >>> ((8 : Int32).toUInt32 &&& Int32.toUInt32 31)).toInt32)).toUInt32 >>> ((16 : Int32).toUInt32 &&& Int32.toUInt32 31)).toInt32)))]) dJ6_bitCount_0f7a4_47 rfl (by decide) rfl ?_
  refine z_iload_n C dJ6_bitCount_0f7a4_48 rfl 0 rfl ?_
  refine z_bipush C (v := 63) dJ6_bitCount_0f7a4_49 (by decide) ?_
  refine z_iand C dJ6_bitCount_0f7a4_51 ?_
  refine z_iret C hr rfl dJ6_bitCount_0f7a4_52 ?_
  refine ⟨_, rfl, ?_⟩
  exact ⟨rfl, rfl, rfl⟩
abbrev rm_X4_become : Room := { frames := 5, cells := 0, slots := 0, locals := 224 }
set_option maxRecDepth 100000 in
set_option maxHeartbeats 4000000 in
theorem k_X4_become (w : zW) (I : zI) (J : zJ) (t : Nat) (so : Int32) (n : Int32) (ht : t < 6) : zMet yX4_become cX4_become 3 none rm_X4_become w [.ref (zad w (35 + 2 * t)), .int so, .int n] I J (zpv (fun I' J' => I' = zup I (35 + 2 * t) (upd (upd (I (35 + 2 * t)) 0 so) 1 n) ∧ J' = zupJ J (35 + 2 * t + 1) (zfill 0 (J (35 + 2 * t + 1)) 60))) := by
  refine zMet_of (by decide) (Nat.le_of_ble_eq_true rfl) (fun X C hm hr => ?_)
  refine z_sub (lv' := [(0, .ref (zad w (35 + 2 * t))), (1, .int so), (2, .int n)]) [0, 1, 2] rfl ?_
  refine z_aload_n C dX4_become_0 rfl 0 rfl ?_
  refine z_iload_n C dX4_become_1 rfl 1 rfl ?_
  refine z_puti C ff_X4_11 (35 + 2 * t) (shTn0 ht) (shT0 ht) rfl rfl rfl dX4_become_2 ?_
  refine z_I (I' := zup I (35 + 2 * t) (upd (I (35 + 2 * t)) 0 so)) rfl ?_
  refine z_aload_n C dX4_become_5 rfl 0 rfl ?_
  refine z_iload_n C dX4_become_6 rfl 2 rfl ?_
  refine z_puti C ff_X4_19 (35 + 2 * t) (shTn0 ht) (shT0 ht) rfl rfl rfl dX4_become_7 ?_
  refine z_I (I' := zup I (35 + 2 * t) (upd (upd (I (35 + 2 * t)) 0 so) 1 n)) (by rw [zup_s, zup_up]) ?_
  refine z_aload_n C dX4_become_10 rfl 0 rfl ?_
  refine z_getr C ff_X4_15 (35 + 2 * t) (shTn0 ht) (shT0 ht) rfl dX4_become_11 ?_
  refine z_lconst C (v := 0) dX4_become_14 (by decide) ?_
  refine z_callSv C hm cl_X4_22 cs_J7_fill_d0a16 [.ref (zad w (35 + 2 * t + 1)), .long 0] rfl (rest := []) rfl (k_J7_fill_d0a16 w _ _ (35 + 2 * t + 1) 60 _ (0) (shTn1 ht) (shT1 ht) (by decide)) ⟨rfl, rfl, Nat.le_of_ble_eq_true rfl, Nat.le_of_ble_eq_true rfl⟩ (Nat.le_of_ble_eq_true rfl) dX4_become_15 (fun I_1 J_1 h_1 => ?_)
  obtain ⟨ei_1, ej_1⟩ := h_1
  replace ei_1 := ei_1.symm; subst ei_1
  replace ej_1 := ej_1.symm; subst ej_1
  refine z_vret C hr dX4_become_18 ?_
  refine ⟨rfl, ?_⟩
  exact ⟨rfl, rfl⟩
abbrev rm_X4_hasPlace : Room := { frames := 4, cells := 0, slots := 0, locals := 200 }
set_option maxRecDepth 100000 in
set_option maxHeartbeats 4000000 in
theorem k_X4_hasPlace (w : zW) (I : zI) (J : zJ) (t ln : Nat) (x : Int32) (ht : t < 6) (hln : I (35 + 2 * t) 1 = nI ln) (hl60 : ln ≤ 60) : zMet yX4_hasPlace cX4_hasPlace 2 (some .boolean) rm_X4_hasPlace w [.ref (zad w (35 + 2 * t)), .int x] I J (zpi (fun v I' J' => v = bI (zin x ln) ∧ I' = I ∧ J' = J)) := by
  refine zMet_of (by decide) (Nat.le_of_ble_eq_true rfl) (fun X C hm hr => ?_)
  refine z_sub (lv' := [(0, .ref (zad w (35 + 2 * t))), (1, .int x)]) [0, 1] rfl ?_
  refine z_iload_n C dX4_hasPlace_0 rfl 1 rfl ?_
  refine z_if_lt (tgt := 16) C dX4_hasPlace_1 (by decide) (fun c1 => ?_) (fun c1 => ?_)
  · skip
    refine z_iconst C (v := 0) dX4_hasPlace_16 (by decide) ?_
    refine z_iret C hr (by decide) dX4_hasPlace_17 ?_
    refine ⟨_, rfl, ?_⟩
    exact ⟨(bI_f (zin_neg c1 (by omega))).symm, rfl, rfl⟩
  · skip
    refine z_iload_n C dX4_hasPlace_4 rfl 1 rfl ?_
    refine z_aload_n C dX4_hasPlace_5 rfl 0 rfl ?_
    refine z_geti C ff_X4_19 (35 + 2 * t) (shTn0 ht) (shT0 ht) rfl (v := nI ln) hln dX4_hasPlace_6 ?_
    refine z_icmp_ge (tgt := 16) C dX4_hasPlace_9 (by decide) (fun c9 => ?_) (fun c9 => ?_)
    · skip
      refine z_iconst C (v := 0) dX4_hasPlace_16 (by decide) ?_
      refine z_iret C hr (by decide) dX4_hasPlace_17 ?_
      refine ⟨_, rfl, ?_⟩
      exact ⟨(bI_f (zin_ge c9 (by omega))).symm, rfl, rfl⟩
    · skip
      refine z_iconst C (v := 1) dX4_hasPlace_12 (by decide) ?_
      refine z_goto (tgt := 17) C dX4_hasPlace_13 (by decide) ?_
      refine z_iret C hr (by decide) dX4_hasPlace_17 ?_
      refine ⟨_, rfl, ?_⟩
      exact ⟨(bI_t (zin_of c1 c9 (by omega))).symm, rfl, rfl⟩
abbrev rm_X4_hasRun : Room := { frames := 4, cells := 0, slots := 0, locals := 200 }
set_option maxRecDepth 100000 in
set_option maxHeartbeats 4000000 in
theorem k_X4_hasRun (w : zW) (I : zI) (J : zJ) (t ln : Nat) (x : Int32) (y : Int32) (ht : t < 6) (hln : I (35 + 2 * t) 1 = nI ln) (hl60 : ln ≤ 60) : zMet yX4_hasRun cX4_hasRun 3 (some .boolean) rm_X4_hasRun w [.ref (zad w (35 + 2 * t)), .int x, .int y] I J (zpi (fun v I' J' => v = bI (∃ k m : Nat, x = nI k ∧ y = nI m ∧ k + m ≤ ln) ∧ I' = I ∧ J' = J)) := by
  refine zMet_of (by decide) (Nat.le_of_ble_eq_true rfl) (fun X C hm hr => ?_)
  refine z_sub (lv' := [(0, .ref (zad w (35 + 2 * t))), (1, .int x), (2, .int y)]) [0, 1, 2] rfl ?_
  refine z_iload_n C dX4_hasRun_0 rfl 1 rfl ?_
  refine z_if_lt (tgt := 30) C dX4_hasRun_1 (by decide) (fun c1 => ?_) (fun c1 => ?_)
  · skip
    have hno : ¬ (∃ k m : Nat, x = nI k ∧ y = nI m ∧ k + m ≤ ln) := fun ⟨k, m, h1, h2, h3⟩ => nI_pos (show k < 2 ^ 31 by omega) (h1 ▸ c1)
    refine z_iconst C (v := 0) dX4_hasRun_30 (by decide) ?_
    refine z_iret C hr (by decide) dX4_hasRun_31 ?_
    refine ⟨_, rfl, ?_⟩
    exact ⟨(bI_f hno).symm, rfl, rfl⟩
  · skip
    obtain ⟨k, hk31, rfl⟩ := nI_of c1
    refine z_iload_n C dX4_hasRun_4 rfl 2 rfl ?_
    refine z_if_lt (tgt := 30) C dX4_hasRun_5 (by decide) (fun c5 => ?_) (fun c5 => ?_)
    · skip
      have hno : ¬ (∃ k2 m : Nat, nI k = nI k2 ∧ y = nI m ∧ k2 + m ≤ ln) := fun ⟨k2, m, h1, h2, h3⟩ => nI_pos (show m < 2 ^ 31 by omega) (h2 ▸ c5)
      refine z_iconst C (v := 0) dX4_hasRun_30 (by decide) ?_
      refine z_iret C hr (by decide) dX4_hasRun_31 ?_
      refine ⟨_, rfl, ?_⟩
      exact ⟨(bI_f hno).symm, rfl, rfl⟩
    · skip
      obtain ⟨m, hm31, rfl⟩ := nI_of c5
      refine z_iload_n C dX4_hasRun_8 rfl 1 rfl ?_
      refine z_aload_n C dX4_hasRun_9 rfl 0 rfl ?_
      refine z_geti C ff_X4_19 (35 + 2 * t) (shTn0 ht) (shT0 ht) rfl (v := nI ln) hln dX4_hasRun_10 ?_
      refine z_icmp_gt_n k ln (tgt := 30) C rfl rfl (by omega) (by omega) dX4_hasRun_13 (by decide) (fun c13 => ?_) (fun c13 => ?_)
      · skip
        have hno : ¬ (∃ k2 m2 : Nat, nI k = nI k2 ∧ nI m = nI m2 ∧ k2 + m2 ≤ ln) := fun ⟨k2, m2, h1, h2, h3⟩ => by
          have := (nI_eq hk31 (by omega)).mp h1
          omega
        refine z_iconst C (v := 0) dX4_hasRun_30 (by decide) ?_
        refine z_iret C hr (by decide) dX4_hasRun_31 ?_
        refine ⟨_, rfl, ?_⟩
        exact ⟨(bI_f hno).symm, rfl, rfl⟩
      · skip
        refine z_iload_n C dX4_hasRun_16 rfl 2 rfl ?_
        refine z_aload_n C dX4_hasRun_17 rfl 0 rfl ?_
        refine z_geti C ff_X4_19 (35 + 2 * t) (shTn0 ht) (shT0 ht) rfl (v := nI ln) hln dX4_hasRun_18 ?_
        refine z_iload_n C dX4_hasRun_21 rfl 1 rfl ?_
        refine z_isub C dX4_hasRun_22 ?_
        refine z_ti (y := nI (ln - k)) (pk_sub (by omega)) ?_
        refine z_icmp_gt_n m (ln - k) (tgt := 30) C rfl rfl (by omega) (by omega) dX4_hasRun_23 (by decide) (fun c23 => ?_) (fun c23 => ?_)
        · skip
          have hno : ¬ (∃ k2 m2 : Nat, nI k = nI k2 ∧ nI m = nI m2 ∧ k2 + m2 ≤ ln) := fun ⟨k2, m2, h1, h2, h3⟩ => by
            have := (nI_eq hk31 (by omega)).mp h1
            have := (nI_eq hm31 (by omega)).mp h2
            omega
          refine z_iconst C (v := 0) dX4_hasRun_30 (by decide) ?_
          refine z_iret C hr (by decide) dX4_hasRun_31 ?_
          refine ⟨_, rfl, ?_⟩
          exact ⟨(bI_f hno).symm, rfl, rfl⟩
        · skip
          refine z_iconst C (v := 1) dX4_hasRun_26 (by decide) ?_
          refine z_goto (tgt := 31) C dX4_hasRun_27 (by decide) ?_
          refine z_iret C hr (by decide) dX4_hasRun_31 ?_
          refine ⟨_, rfl, ?_⟩
          exact ⟨(bI_t ⟨k, m, rfl, rfl, by omega⟩).symm, rfl, rfl⟩
def zcut (so : Int32) (v : Int64) : Int64 := if so = 0 then v.toInt32.toInt8.toInt32.toInt64 else if so = 1 then v.toInt32.toInt16.toInt32.toInt64 else if so = 2 then v.toInt32.toInt64 else if so = 3 then v else if v = 0 then 0 else 1
abbrev rm_X4_cut : Room := { frames := 4, cells := 0, slots := 0, locals := 200 }
set_option maxRecDepth 100000 in
set_option maxHeartbeats 4000000 in
theorem k_X4_cut (w : zW) (I : zI) (J : zJ)  (so : Int32) (v : Int64)  : zMet yX4_cut cX4_cut 3 (some .long) rm_X4_cut w [.int so, .long v] I J (zpl (fun r I' J' => r = zcut so v ∧ I' = I ∧ J' = J)) := by
  refine zMet_of (by decide) (Nat.le_of_ble_eq_true rfl) (fun X C hm hr => ?_)
  refine z_sub (lv' := [(0, .int so), (1, .long v)]) [0, 1] rfl ?_
  refine z_iload_n C dX4_cut_0 rfl 0 rfl ?_
  by_cases c1_0 : so = 0
  · skip
    refine z_tableIn (tgt := 32) C dX4_cut_1 (by rw [c1_0]; decide) (by rw [c1_0]; decide) (off := 31) (by rw [c1_0]; decide) (by decide) ?_
    refine z_lload_n C dX4_cut_32 rfl 1 rfl ?_
    refine z_l2i C (v := v.toInt32) dX4_cut_33 rfl ?_
    refine z_i2b C (v := v.toInt32.toInt8.toInt32) dX4_cut_34 rfl ?_
    refine z_i2l C (v := v.toInt32.toInt8.toInt32.toInt64) dX4_cut_35 rfl ?_
    refine z_lret C hr dX4_cut_36 ?_
    refine ⟨_, rfl, ?_⟩
    exact ⟨by rw [zcut, if_pos c1_0], rfl, rfl⟩
  by_cases c1_1 : so = 1
  · skip
    refine z_tableIn (tgt := 37) C dX4_cut_1 (by rw [c1_1]; decide) (by rw [c1_1]; decide) (off := 36) (by rw [c1_1]; decide) (by decide) ?_
    refine z_lload_n C dX4_cut_37 rfl 1 rfl ?_
    refine z_l2i C (v := v.toInt32) dX4_cut_38 rfl ?_
    refine z_i2s C (v := v.toInt32.toInt16.toInt32) dX4_cut_39 rfl ?_
    refine z_i2l C (v := v.toInt32.toInt16.toInt32.toInt64) dX4_cut_40 rfl ?_
    refine z_lret C hr dX4_cut_41 ?_
    refine ⟨_, rfl, ?_⟩
    exact ⟨by rw [zcut, if_neg c1_0, if_pos c1_1], rfl, rfl⟩
  by_cases c1_2 : so = 2
  · skip
    refine z_tableIn (tgt := 42) C dX4_cut_1 (by rw [c1_2]; decide) (by rw [c1_2]; decide) (off := 41) (by rw [c1_2]; decide) (by decide) ?_
    refine z_lload_n C dX4_cut_42 rfl 1 rfl ?_
    refine z_l2i C (v := v.toInt32) dX4_cut_43 rfl ?_
    refine z_i2l C (v := v.toInt32.toInt64) dX4_cut_44 rfl ?_
    refine z_lret C hr dX4_cut_45 ?_
    refine ⟨_, rfl, ?_⟩
    exact ⟨by rw [zcut, if_neg c1_0, if_neg c1_1, if_pos c1_2], rfl, rfl⟩
  by_cases c1_3 : so = 3
  · skip
    refine z_tableIn (tgt := 46) C dX4_cut_1 (by rw [c1_3]; decide) (by rw [c1_3]; decide) (off := 45) (by rw [c1_3]; decide) (by decide) ?_
    refine z_lload_n C dX4_cut_46 rfl 1 rfl ?_
    refine z_lret C hr dX4_cut_47 ?_
    refine ⟨_, rfl, ?_⟩
    exact ⟨by rw [zcut, if_neg c1_0, if_neg c1_1, if_neg c1_2, if_pos c1_3], rfl, rfl⟩
  refine z_tableOut (tgt := 48) C dX4_cut_1 (by have h0 := lv_neT c1_0 (a := 0) (by decide); have h1 := lv_neT c1_1 (a := 1) (by decide); have h2 := lv_neT c1_2 (a := 2) (by decide); have h3 := lv_neT c1_3 (a := 3) (by decide); omega) (by decide) ?_
  refine z_lload_n C dX4_cut_48 rfl 1 rfl ?_
  refine z_lconst C (v := 0) dX4_cut_49 (by decide) ?_
  refine z_lcmp C dX4_cut_50 ?_
  refine z_if_eq (tgt := 58) C dX4_cut_51 (by decide) (fun c51 => ?_) (fun c51 => ?_)
  · skip
    refine z_lconst C (v := 0) dX4_cut_58 (by decide) ?_
    refine z_lret C hr dX4_cut_59 ?_
    refine ⟨_, rfl, ?_⟩
    exact ⟨by rw [zcut, if_neg c1_0, if_neg c1_1, if_neg c1_2, if_neg c1_3, if_pos ((lg_cmp_eq _ _).mp c51)], rfl, rfl⟩
  · skip
    refine z_lconst C (v := 1) dX4_cut_54 (by decide) ?_
    refine z_goto (tgt := 59) C dX4_cut_55 (by decide) ?_
    refine z_lret C hr dX4_cut_59 ?_
    refine ⟨_, rfl, ?_⟩
    exact ⟨by rw [zcut, if_neg c1_0, if_neg c1_1, if_neg c1_2, if_neg c1_3, if_neg (fun q => c51 ((lg_cmp_eq _ _).mpr q))], rfl, rfl⟩
