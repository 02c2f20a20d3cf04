/-! acts -/
def aAb (o : Nat) : Nat := [0, 0, 0, 0, 1, 3, 3].getD o 0
def aOwn1 (a o : Nat) : Nat := if o ≠ 0 ∧ zBodies (o * 3 + a) = 0 then aAb o else o
def aOwn (o a : Nat) : Nat := aOwn1 a (aOwn1 a (aOwn1 a o))
theorem aOwn_step : ∀ o, o < 7 → ∀ a, a < 3 → o ≠ 0 → zBodies (o * 3 + a) = 0 → aOwn (aAb o) a = aOwn o a := by decide +kernel
theorem aOwn_stop : ∀ o, o < 7 → ∀ a, a < 3 → (o = 0 ∨ zBodies (o * 3 + a) ≠ 0) → aOwn o a = o := by decide +kernel
theorem aOwn_lt : ∀ o, o < 7 → ∀ a, a < 3 → aOwn o a < 7 := by decide +kernel
theorem aAb_lt : ∀ o, o < 7 → aAb o < 7 ∧ (o ≠ 0 → aAb o < o) := by decide +kernel
theorem aAb_eq : ∀ o, o < 7 → o ≠ 0 → zAbove o = nI (aAb o) := by decide +kernel
theorem aUp_eq : ∀ o, o < 7 → (if zAbove o < (0 : Int32) then (0 : Int32) else zAbove o) = nI (aAb o) := by decide +kernel
def aPut (f : Nat → Int32) (n : Nat) (x : Int32) : Nat → Int32 := if n < 20 then upd f n x else f
abbrev zTr : Type := Nat × (Nat → Int32)
def aBody (k : Nat) (i n : Int32) (P : Nat → Nat → Int32 → zTr → Int32 × zTr) (u : Nat) (b x : Int32) (s : zTr) : Int32 × zTr :=
  if b = 10 then (x + i, s) else
  if b = 11 then ((P k 0 x s).1 - n, (P k 0 x s).2) else
  if b = 12 then ((P k 1 x s).1 * 2, (P k 1 x s).2) else
  if b = 20 then ((P u 1 x s).1 ^^^ 6, (P u 1 x s).2) else
  if b = 30 then P u 0 (x * 3) s else
  if b = 40 then ((P u 2 x s).1 + (P k 1 1 (P u 2 x s).2).1, (P k 1 1 (P u 2 x s).2).2) else
  if b = 50 then (-(P u 0 x s).1, (P u 0 x s).2) else
  if b = 51 then P u 1 (x + 1) s else
  if b = 60 then P u 2 (x - i) s else
  if b = 70 then ((P u 1 x s).1 + (P u 0 2 (P u 1 x s).2).1, (P u 0 2 (P u 1 x s).2).2) else
  if b = 71 then ((P u 0 x s).1 ^^^ n, (P u 0 x s).2) else (0, s)
def aPerf (k : Nat) (i n : Int32) : Nat → Nat → Nat → Int32 → zTr → Int32 × zTr
  | 0, _, _, _, s => (0, s)
  | m + 1, f, a, x, s => aBody k i n (aPerf k i n m) (aAb (aOwn f a)) (zBodies (aOwn f a * 3 + a)) x (s.1 + 1, aPut s.2 s.1 (zBodies (aOwn f a * 3 + a)))
def aFuB (P : Nat → Nat → Bool) (k u : Nat) (b : Int32) : Bool :=
  if b = 10 then true else
  if b = 11 then P k 0 else
  if b = 12 then P k 1 else
  if b = 20 then P u 1 else
  if b = 30 then P u 0 else
  if b = 40 then P u 2 && P k 1 else
  if b = 50 then P u 0 else
  if b = 51 then P u 1 else
  if b = 60 then P u 2 else
  if b = 70 then P u 1 && P u 0 else
  if b = 71 then P u 0 else true
/-- calls enough -/
def aFu (k : Nat) : Nat → Nat → Nat → Bool
  | 0, _, _ => false
  | m + 1, f, a => aFuB (aFu k m) k (aAb (aOwn f a)) (zBodies (aOwn f a * 3 + a))
theorem aFu_all : ∀ k, k < 7 → ∀ a, a < 3 → aFu k 9 k a = true := by decide +kernel
theorem aPerf_le {k : Nat} {i n : Int32} : ∀ (m f a : Nat) (x : Int32) (s : zTr), (aPerf k i n m f a x s).2.1 + 1 ≤ s.1 + 2 ^ m
  | 0, _, _, _, s => Nat.le_refl _
  | m + 1, f, a, x, s => by
    have hp : 1 ≤ 2 ^ m := Nat.one_le_two_pow
    have h2 : 2 ^ (m + 1) = 2 ^ m + 2 ^ m := by rw [Nat.pow_succ]; omega
    have ih := aPerf_le (k := k) (i := i) (n := n) m
    have one : ∀ f a x, (aPerf k i n m f a x (s.1 + 1, aPut s.2 s.1 (zBodies (aOwn f a * 3 + a)))).2.1 + 1 ≤ s.1 + 2 ^ (m + 1) := fun f a x => by
      have := ih f a x (s.1 + 1, aPut s.2 s.1 (zBodies (aOwn f a * 3 + a)))
      simp only at this; omega
    have one' : ∀ (q : zTr) f a x, q.1 = s.1 + 1 → (aPerf k i n m f a x q).2.1 + 1 ≤ s.1 + 2 ^ (m + 1) := fun q f a x hq => by
      have := ih f a x q
      omega
    have two' : ∀ (q : zTr) f a x f' a' x', q.1 = s.1 + 1 → (aPerf k i n m f' a' x' (aPerf k i n m f a x q).2).2.1 + 1 ≤ s.1 + 2 ^ (m + 1) := fun q f a x f' a' x' hq => by
      have := ih f a x q
      have := ih f' a' x' (aPerf k i n m f a x q).2
      omega
    rw [aPerf, aBody]
    by_cases c10 : zBodies (aOwn f a * 3 + a) = 10
    · rw [if_pos c10]; show s.1 + 1 + 1 ≤ _; omega
    rw [if_neg c10]
    by_cases c11 : zBodies (aOwn f a * 3 + a) = 11
    · rw [if_pos c11]; exact one' _ _ _ _ rfl
    rw [if_neg c11]
    by_cases c12 : zBodies (aOwn f a * 3 + a) = 12
    · rw [if_pos c12]; exact one' _ _ _ _ rfl
    rw [if_neg c12]
    by_cases c20 : zBodies (aOwn f a * 3 + a) = 20
    · rw [if_pos c20]; exact one' _ _ _ _ rfl
    rw [if_neg c20]
    by_cases c30 : zBodies (aOwn f a * 3 + a) = 30
    · rw [if_pos c30]; exact one' _ _ _ _ rfl
    rw [if_neg c30]
    by_cases c40 : zBodies (aOwn f a * 3 + a) = 40
    · rw [if_pos c40]; exact two' _ _ _ _ _ _ _ rfl
    rw [if_neg c40]
    by_cases c50 : zBodies (aOwn f a * 3 + a) = 50
    · rw [if_pos c50]; exact one' _ _ _ _ rfl
    rw [if_neg c50]
    by_cases c51 : zBodies (aOwn f a * 3 + a) = 51
    · rw [if_pos c51]; exact one' _ _ _ _ rfl
    rw [if_neg c51]
    by_cases c60 : zBodies (aOwn f a * 3 + a) = 60
    · rw [if_pos c60]; exact one' _ _ _ _ rfl
    rw [if_neg c60]
    by_cases c70 : zBodies (aOwn f a * 3 + a) = 70
    · rw [if_pos c70]; exact two' _ _ _ _ _ _ _ rfl
    rw [if_neg c70]
    by_cases c71 : zBodies (aOwn f a * 3 + a) = 71
    · rw [if_pos c71]; exact one' _ _ _ _ rfl
    rw [if_neg c71]
    show s.1 + 1 + 1 ≤ _; omega
abbrev rm_X0_forget : Room := { frames := 4, cells := 0, slots := 0, locals := 200 }
set_option maxRecDepth 100000 in
set_option maxHeartbeats 4000000 in
theorem k_X0_forget (w : zW) (I : zI) (J : zJ)    : zMet yX0_forget cX0_forget 1 none rm_X0_forget w [.ref (zad w 32)] I J (zpv (fun I' J' => I' = zup I 32 (upd (I 32) 1 0) ∧ J' = J)) := by
  refine zMet_of (by decide) (Nat.le_of_ble_eq_true rfl) (fun X C hm hr => ?_)
  refine z_sub (lv' := [(0, .ref (zad w 32))]) [0] rfl ?_
  refine z_aload_n C dX0_forget_0 rfl 0 rfl ?_
  refine z_iconst C (v := 0) dX0_forget_1 (by decide) ?_
  refine z_puti C ff_X0_15 32 (by decide) sh32 rfl rfl rfl dX0_forget_2 ?_
  refine z_I (I' := zup I 32 (upd (I 32) 1 0)) rfl ?_
  refine z_vret C hr dX0_forget_5 ?_
  refine ⟨rfl, ?_⟩
  exact ⟨rfl, rfl⟩
abbrev rm_X0_takeOn : Room := { frames := 4, cells := 0, slots := 0, locals := 200 }
set_option maxRecDepth 100000 in
set_option maxHeartbeats 4000000 in
theorem k_X0_takeOn (w : zW) (I : zI) (J : zJ)  (a : Int32) (b : Int32) (c : Int32)  : zMet yX0_takeOn cX0_takeOn 4 none rm_X0_takeOn w [.ref (zad w 32), .int a, .int b, .int c] I J (zpv (fun I' J' => I' = zup I 32 (upd (upd (upd (I 32) 2 a) 3 b) 4 c) ∧ J' = J)) := by
  refine zMet_of (by decide) (Nat.le_of_ble_eq_true rfl) (fun X C hm hr => ?_)
  refine z_sub (lv' := [(0, .ref (zad w 32)), (1, .int a), (2, .int b), (3, .int c)]) [0, 1, 2, 3] rfl ?_
  refine z_aload_n C dX0_takeOn_0 rfl 0 rfl ?_
  refine z_iload_n C dX0_takeOn_1 rfl 1 rfl ?_
  refine z_puti C ff_X0_19 32 (by decide) sh32 rfl rfl rfl dX0_takeOn_2 ?_
  refine z_I (I' := zup I 32 (upd (I 32) 2 a)) rfl ?_
  refine z_aload_n C dX0_takeOn_5 rfl 0 rfl ?_
  refine z_iload_n C dX0_takeOn_6 rfl 2 rfl ?_
  refine z_puti C ff_X0_22 32 (by decide) sh32 rfl rfl rfl dX0_takeOn_7 ?_
  refine z_I (I' := zup I 32 (upd (upd (I 32) 2 a) 3 b)) (by rw [zup_s, zup_up]) ?_
  refine z_aload_n C dX0_takeOn_10 rfl 0 rfl ?_
  refine z_iload_n C dX0_takeOn_11 rfl 3 rfl ?_
  refine z_puti C ff_X0_25 32 (by decide) sh32 rfl rfl rfl dX0_takeOn_12 ?_
  refine z_I (I' := zup I 32 (upd (upd (upd (I 32) 2 a) 3 b) 4 c)) (by rw [zup_s, zup_up]) ?_
  refine z_vret C hr dX0_takeOn_15 ?_
  refine ⟨rfl, ?_⟩
  exact ⟨rfl, rfl⟩
abbrev rm_X0_ownerOf : Room := { frames := 4, cells := 0, slots := 0, locals := 200 }
set_option maxRecDepth 100000 in
set_option maxHeartbeats 4000000 in
theorem k_X0_ownerOf (w : zW) (I : zI) (J : zJ)  (f : Nat) (a : Nat) (hf7 : f < 7) (ha3 : a < 3) : zMet yX0_ownerOf cX0_ownerOf 4 (some .int) rm_X0_ownerOf w [.int (nI f), .int (nI a)] I J (zpi (fun v I' J' => v = nI (aOwn f a) ∧ I' = I ∧ J' = J)) := by
  refine zMet_of (by decide) (Nat.le_of_ble_eq_true rfl) (fun X C hm hr => ?_)
  refine z_sub (lv' := [(0, .int (nI f)), (1, .int (nI a))]) [0, 1] rfl ?_
  refine z_iload_n C dX0_ownerOf_0 rfl 0 rfl ?_
  refine z_istore_n C hm (lv' := [(2, .int (nI f)), (0, .int (nI f)), (1, .int (nI a))]) dX0_ownerOf_1 rfl (by decide) rfl ?_
  refine z_iconst C (v := 0) dX0_ownerOf_2 (by decide) ?_
  refine z_istore_n C hm (lv' := [(3, .int 0), (2, .int (nI f)), (0, .int (nI f)), (1, .int (nI a))]) dX0_ownerOf_3 rfl (by decide) rfl ?_
  have L4 : ∀ (d : Nat) (o i : Nat) (v4_2 : Int32) (v4_3 : Int32), (7 - i) < d → (o < 7) → (o + i ≤ 6) → (aOwn o a = aOwn f a) → v4_2 = nI o → v4_3 = nI i → Z X w I J 4 [(0, .int (nI f)), (1, .int (nI a)), (2, .int v4_2), (3, .int v4_3)] [] := by
    intro d
    induction d with
    | zero => intro o i v4_2 v4_3 hd; exact absurd hd (Nat.not_lt_zero _)
    | succ d ih4 => 
      intro o i v4_2 v4_3 hd4 ho7 hoi hoe e_v4_2 e_v4_3
      replace e_v4_2 := e_v4_2.symm; subst e_v4_2
      replace e_v4_3 := e_v4_3.symm; subst e_v4_3
      refine z_iload_n C dX0_ownerOf_4 rfl 3 rfl ?_
      refine z_bipush C (v := 7) dX0_ownerOf_5 (by decide) ?_
      refine z_icmp_ge_n i 7 (tgt := 38) C rfl rfl (by omega) (by omega) dX0_ownerOf_7 (by decide) (fun c7 => ?_) (fun c7 => ?_)
      · skip
        exact absurd c7 (by omega)
      · skip
        refine z_iload_n C dX0_ownerOf_10 rfl 2 rfl ?_
        refine z_if_le (tgt := 38) C dX0_ownerOf_11 (by decide) (fun c11 => ?_) (fun c11 => ?_)
        · skip
          have ho0 : o = 0 := by
            rcases Nat.eq_zero_or_pos o with q | q
            · exact q
            · exact absurd c11 (nI_nle q (by omega))
          refine z_iload_n C dX0_ownerOf_38 rfl 2 rfl ?_
          refine z_iret C hr rfl dX0_ownerOf_39 ?_
          refine ⟨_, rfl, ?_⟩
          exact ⟨by rw [← hoe, aOwn_stop o ho7 a ha3 (Or.inl ho0)], rfl, rfl⟩
        · skip
          have ho0 : o ≠ 0 := fun q => c11 (by rw [q]; decide)
          refine z_tabs (t := 1) C (fun h => h.2.2.1) fl_X0_44 dX0_ownerOf_14 ?_
          refine z_iload_n C dX0_ownerOf_17 rfl 2 rfl ?_
          refine z_iconst C (v := 3) dX0_ownerOf_18 (by decide) ?_
          refine z_imul C dX0_ownerOf_19 ?_
          refine z_ti (y := nI (o * 3)) (pk_mul o 3) ?_
          refine z_iload_n C dX0_ownerOf_20 rfl 1 rfl ?_
          refine z_iadd C dX0_ownerOf_21 ?_
          refine z_ti (y := nI (o * 3 + a)) (nI_add (o * 3) a) ?_
          refine z_tabi C (fun h => h.2.2.2.1) (o * 3 + a) (by omega) (by decide) rfl dX0_ownerOf_22 ?_
          refine z_if_ne (tgt := 38) C dX0_ownerOf_23 (by decide) (fun c23 => ?_) (fun c23 => ?_)
          · skip
            refine z_iload_n C dX0_ownerOf_38 rfl 2 rfl ?_
            refine z_iret C hr rfl dX0_ownerOf_39 ?_
            refine ⟨_, rfl, ?_⟩
            exact ⟨by rw [← hoe, aOwn_stop o ho7 a ha3 (Or.inr c23)], rfl, rfl⟩
          · skip
            refine z_tabN C (fun h => h.2.2.2.2.1) dX0_ownerOf_26 ?_
            refine z_iload_n C dX0_ownerOf_29 rfl 2 rfl ?_
            refine z_tabi C (fun h => h.2.1) o (by omega) (by decide) rfl dX0_ownerOf_30 ?_
            refine z_ti (y := nI (aAb o)) (aAb_eq o ho7 ho0) ?_
            refine z_istore_n C hm (lv' := [(2, .int (nI (aAb o))), (0, .int (nI f)), (1, .int (nI a)), (3, .int (nI i))]) dX0_ownerOf_31 rfl (by decide) rfl ?_
            refine z_iinc C hm 3 (v := nI (i + 1)) (lv' := [(3, .int (nI (i + 1))), (2, .int (nI (aAb o))), (0, .int (nI f)), (1, .int (nI a))]) dX0_ownerOf_32 rfl (nI_add i 1) (by decide) rfl ?_
            refine z_goto (tgt := 4) C dX0_ownerOf_35 (by decide) ?_
            exact z_sub [2, 3, 1, 0] rfl (ih4  (aAb o) (i + 1) _ _ (by omega) (aAb_lt o ho7).1 (by have := (aAb_lt o ho7).2 ho0; omega) ((aOwn_step o ho7 a ha3 ho0 c23).trans hoe) rfl rfl)
  exact z_sub [2, 3, 1, 0] rfl (L4 _ f 0 _ _ (Nat.lt_succ_self _) (by omega) (by omega) rfl rfl rfl)
abbrev rm_X0_begin : Room := { frames := 4, cells := 0, slots := 0, locals := 200 }
set_option maxRecDepth 100000 in
set_option maxHeartbeats 4000000 in
theorem k_X0_begin (w : zW) (I : zI) (J : zJ) (bg : Nat) (b : Int32) (hbg : I 32 1 = nI bg) (hb1 : bg ≤ 10000) : zMet yX0_begin cX0_begin 2 none rm_X0_begin w [.ref (zad w 32), .int b] I J (zpv (fun I' J' => I' = zup (zup I 33 (aPut (I 33) bg b)) 32 (upd (I 32) 1 (nI (bg + 1))) ∧ J' = J)) := by
  refine zMet_of (by decide) (Nat.le_of_ble_eq_true rfl) (fun X C hm hr => ?_)
  refine z_sub (lv' := [(0, .ref (zad w 32)), (1, .int b)]) [0, 1] rfl ?_
  refine z_aload_n C dX0_begin_0 rfl 0 rfl ?_
  refine z_geti C ff_X0_15 32 (by decide) sh32 rfl (v := nI bg) hbg dX0_begin_1 ?_
  refine z_aload_n C dX0_begin_4 rfl 0 rfl ?_
  refine z_getr C ff_X0_11 32 (by decide) sh32 rfl dX0_begin_5 ?_
  refine z_alen C 33 (by decide) sh33 (by decide) (v := 20) (by decide) dX0_begin_8 ?_
  refine z_icmp_ge_n bg 20 (tgt := 22) C rfl rfl (by omega) (by omega) dX0_begin_9 (by decide) (fun c9 => ?_) (fun c9 => ?_)
  · skip
    refine z_aload_n C dX0_begin_22 rfl 0 rfl ?_
    refine z_dup C dX0_begin_23 rfl ?_
    refine z_geti C ff_X0_15 32 (by decide) sh32 rfl (v := nI bg) hbg dX0_begin_24 ?_
    refine z_iconst C (v := 1) dX0_begin_27 (by decide) ?_
    refine z_iadd C dX0_begin_28 ?_
    refine z_ti (y := nI (bg + 1)) (nI_add bg 1) ?_
    refine z_puti C ff_X0_15 32 (by decide) sh32 rfl rfl rfl dX0_begin_29 ?_
    refine z_I (I' := zup I 32 (upd (I 32) 1 (nI (bg + 1)))) rfl ?_
    refine z_vret C hr dX0_begin_32 ?_
    refine ⟨rfl, ?_⟩
    exact ⟨by rw [aPut, if_neg (by omega), zup_id], rfl⟩
  · skip
    refine z_aload_n C dX0_begin_12 rfl 0 rfl ?_
    refine z_getr C ff_X0_11 32 (by decide) sh32 rfl dX0_begin_13 ?_
    refine z_aload_n C dX0_begin_16 rfl 0 rfl ?_
    refine z_geti C ff_X0_15 32 (by decide) sh32 rfl (v := nI bg) hbg dX0_begin_17 ?_
    refine z_iload_n C dX0_begin_20 rfl 1 rfl ?_
    refine z_iast C 33 (by decide) sh33 bg (by omega) (by decide) rfl dX0_begin_21 ?_
    refine z_I (I' := zup I 33 (upd (I 33) bg b)) rfl ?_
    refine z_aload_n C dX0_begin_22 rfl 0 rfl ?_
    refine z_dup C dX0_begin_23 rfl ?_
    refine z_geti C ff_X0_15 32 (by decide) sh32 rfl (v := nI bg) (by first | exact hbg | (simp [zup, zupJ, upd, vp_updL]; exact hbg)) dX0_begin_24 ?_
    refine z_iconst C (v := 1) dX0_begin_27 (by decide) ?_
    refine z_iadd C dX0_begin_28 ?_
    refine z_ti (y := nI (bg + 1)) (nI_add bg 1) ?_
    refine z_puti C ff_X0_15 32 (by decide) sh32 rfl rfl rfl dX0_begin_29 ?_
    refine z_I (I' := zup (zup I 33 (upd (I 33) bg b)) 32 (upd (I 32) 1 (nI (bg + 1)))) (by first | rfl | (rw [zup_n] <;> omega)) ?_
    refine z_vret C hr dX0_begin_32 ?_
    refine ⟨rfl, ?_⟩
    exact ⟨by rw [aPut, if_pos (by omega)], rfl⟩
abbrev rm_X0_perform (m : Nat) : Room := { frames := m + 6, cells := 0, slots := 0, locals := 300 + 28 * m }
set_option maxRecDepth 100000 in
set_option maxHeartbeats 8000000 in
theorem k_X0_perform (w : zW) (k : Nat) (i n : Int32) : ∀ (m : Nat) (I : zI) (J : zJ) (bg f a : Nat) (x : Int32) (d : Nat) (hbg : I 32 1 = nI bg) (hkd : I 32 3 = nI k) (hki : I 32 2 = i) (hkn : I 32 4 = n) (hf7 : f < 7) (hk7 : k < 7) (ha3 : a < 3) (hfu : aFu k m f a = true) (hbd : bg + 2 ^ m ≤ 9000) (hdm : d + m ≤ 40), zMet yX0_perform cX0_perform 9 (some .int) (rm_X0_perform m) w [.ref (zad w 32), .int (nI f), .int (nI a), .int x, .int (nI d)] I J (zpi (fun v I' J' => v = (aPerf k i n m f a x (bg, I 33)).1 ∧ I' = zup (zup I 33 (aPerf k i n m f a x (bg, I 33)).2.2) 32 (upd (I 32) 1 (nI (aPerf k i n m f a x (bg, I 33)).2.1)) ∧ J' = J)) := by
  intro m
  induction m with
  | zero => intro I J bg f a x d _ _ _ _ _ _ _ hfu; exact absurd hfu (by simp [aFu])
  | succ m ihm =>
  intro I J bg f a x d hbg hkd hki hkn hf7 hk7 ha3 hfu hbd hdm
  have hp2 : 2 ^ (m + 1) = 2 ^ m + 2 ^ m := by rw [Nat.pow_succ]; omega
  have hp1 : 1 ≤ 2 ^ m := Nat.one_le_two_pow
  refine zMet_of (by decide) (Nat.le_of_ble_eq_true rfl) (fun X C hm hr => ?_)
  refine z_sub (lv' := [(0, .ref (zad w 32)), (1, .int (nI f)), (2, .int (nI a)), (3, .int x), (4, .int (nI d))]) [0, 1, 2, 3, 4] rfl ?_
  refine z_iload C dX0_perform_0 4 rfl ?_
  refine z_bipush C (v := 40) dX0_perform_2 (by decide) ?_
  refine z_icmp_le_n d 40 (tgt := 9) C rfl rfl (by omega) (by omega) dX0_perform_4 (by decide) (fun c4 => ?_) (fun c4 => ?_)
  · skip
    refine z_iload_n C dX0_perform_9 rfl 1 rfl ?_
    refine z_iload_n C dX0_perform_10 rfl 2 rfl ?_
    refine z_callSi C hm cl_X0_32 cs_X0_ownerOf [.int (nI f), .int (nI a)] rfl (rest := []) rfl (k_X0_ownerOf w _ _  f a hf7 ha3) ⟨rfl, rfl, by show 4 + 1 ≤ m + 1 + 6; omega, by show 8 + (4 + 11) + 200 ≤ 300 + 28 * (m + 1); omega⟩ (Nat.le_of_ble_eq_true rfl) dX0_perform_11 (fun v_1 I_1 J_1 h_1 => ?_)
    obtain ⟨ev_1, ei_1, ej_1⟩ := h_1
    replace ev_1 := ev_1.symm; subst ev_1
    replace ei_1 := ei_1.symm; subst ei_1
    replace ej_1 := ej_1.symm; subst ej_1
    refine z_istore C hm (lv' := [(5, .int (nI (aOwn f a))), (0, .ref (zad w 32)), (1, .int (nI f)), (2, .int (nI a)), (3, .int x), (4, .int (nI d))]) dX0_perform_14 (by decide) rfl ?_
    refine z_tabN C (fun h => h.2.2.2.2.1) dX0_perform_16 ?_
    refine z_iload C dX0_perform_19 0 rfl ?_
    refine z_tabi C (fun h => h.2.1) (aOwn f a) (aOwn_lt f hf7 a ha3) (by decide) rfl dX0_perform_21 ?_
    refine z_iconst C (v := 0) dX0_perform_22 (by decide) ?_
    refine z_max C hm ml_X0_39 st_max in_math co_max (by show 1 ≤ m + 1 + 6; omega) (by show 0 + 13 ≤ 300 + 28 * (m + 1); omega) dX0_perform_23 ?_
    refine z_ti (y := nI (aAb (aOwn f a))) (aUp_eq _ (aOwn_lt f hf7 a ha3)) ?_
    refine z_istore C hm (lv' := [(6, .int (nI (aAb (aOwn f a)))), (5, .int (nI (aOwn f a))), (0, .ref (zad w 32)), (1, .int (nI f)), (2, .int (nI a)), (3, .int x), (4, .int (nI d))]) dX0_perform_26 (by decide) rfl ?_
    refine z_tabs (t := 1) C (fun h => h.2.2.1) fl_X0_44 dX0_perform_28 ?_
    refine z_iload C dX0_perform_31 1 rfl ?_
    refine z_iconst C (v := 3) dX0_perform_33 (by decide) ?_
    refine z_imul C dX0_perform_34 ?_
    refine z_ti (y := nI ((aOwn f a) * 3)) (pk_mul (aOwn f a) 3) ?_
    refine z_iload_n C dX0_perform_35 rfl 4 rfl ?_
    refine z_iadd C dX0_perform_36 ?_
    refine z_ti (y := nI ((aOwn f a) * 3 + a)) (nI_add ((aOwn f a) * 3) a) ?_
    refine z_tabi C (fun h => h.2.2.2.1) ((aOwn f a) * 3 + a) (by have := (aOwn_lt f hf7 a ha3); omega) (by decide) rfl dX0_perform_37 ?_
    refine z_istore C hm (lv' := [(7, .int (zBodies ((aOwn f a) * 3 + a))), (6, .int (nI (aAb (aOwn f a)))), (5, .int (nI (aOwn f a))), (0, .ref (zad w 32)), (1, .int (nI f)), (2, .int (nI a)), (3, .int x), (4, .int (nI d))]) dX0_perform_38 (by decide) rfl ?_
    refine z_iload C dX0_perform_40 7 rfl ?_
    refine z_iconst C (v := 1) dX0_perform_42 (by decide) ?_
    refine z_iadd C dX0_perform_43 ?_
    refine z_ti (y := nI (d + 1)) (nI_add d 1) ?_
    refine z_istore C hm (lv' := [(8, .int (nI (d + 1))), (7, .int (zBodies ((aOwn f a) * 3 + a))), (6, .int (nI (aAb (aOwn f a)))), (5, .int (nI (aOwn f a))), (0, .ref (zad w 32)), (1, .int (nI f)), (2, .int (nI a)), (3, .int x), (4, .int (nI d))]) dX0_perform_44 (by decide) rfl ?_
    refine z_aload_n C dX0_perform_46 rfl 4 rfl ?_
    refine z_iload C dX0_perform_47 1 rfl ?_
    refine z_callVv C hm cl_X0_47 cv_X0_begin 32 (by decide) sh32 ⟨_, _, rfl⟩ [.int (zBodies ((aOwn f a) * 3 + a))] rfl (rest := []) rfl (k_X0_begin w _ _ bg (zBodies ((aOwn f a) * 3 + a)) hbg (by omega)) ⟨rfl, rfl, by show 4 + 1 ≤ m + 1 + 6; omega, by show 8 + (2 + 11) + 200 ≤ 300 + 28 * (m + 1); omega⟩ (Nat.le_of_ble_eq_true rfl) dX0_perform_49 (fun I_2 J_2 h_2 => ?_)
    obtain ⟨ei_2, ej_2⟩ := h_2
    replace ei_2 := ei_2.symm; subst ei_2
    replace ej_2 := ej_2.symm; subst ej_2
    refine z_iload C dX0_perform_52 1 rfl ?_
    by_cases c54_10 : zBodies ((aOwn f a) * 3 + a) = 10
    · skip
      refine z_lookup (tgt := 152) C dX0_perform_54 (by decide) (off := 98) (by rw [c54_10]; decide) (by decide) ?_
      rw [aFu, aFuB, if_pos c54_10] at hfu
      refine z_iload_n C dX0_perform_152 rfl 7 rfl ?_
      refine z_aload_n C dX0_perform_153 rfl 4 rfl ?_
      refine z_geti C ff_X0_19 32 (by decide) sh32 rfl (v := i) (by first | exact hki | (simp [zup, zupJ, upd, vp_updL]; exact hki)) dX0_perform_154 ?_
      refine z_iadd C dX0_perform_157 ?_
      refine z_iret C hr rfl dX0_perform_158 ?_
      refine ⟨_, rfl, ?_⟩
      rw [aPerf, aBody, if_pos c54_10]; exact ⟨rfl, by simp only [upd_2], rfl⟩
    by_cases c54_11 : zBodies ((aOwn f a) * 3 + a) = 11
    · skip
      refine z_lookup (tgt := 159) C dX0_perform_54 (by decide) (off := 105) (by rw [c54_11]; decide) (by decide) ?_
      rw [aFu, aFuB, if_neg c54_10, if_pos c54_11] at hfu
      refine z_aload_n C dX0_perform_159 rfl 4 rfl ?_
      refine z_aload_n C dX0_perform_160 rfl 4 rfl ?_
      refine z_geti C ff_X0_22 32 (by decide) sh32 rfl (v := nI k) (by first | exact hkd | (simp [zup, zupJ, upd, vp_updL]; exact hkd)) dX0_perform_161 ?_
      refine z_iconst C (v := 0) dX0_perform_164 (by decide) ?_
      refine z_iload_n C dX0_perform_165 rfl 7 rfl ?_
      refine z_iload C dX0_perform_166 0 rfl ?_
      refine z_callVi C hm cl_X0_28 cv_X0_perform 32 (by decide) sh32 ⟨_, _, rfl⟩ [.int (nI k), .int 0, .int x, .int (nI (d + 1))] rfl (rest := []) rfl (ihm _ _ (bg + 1) k 0 x (d + 1) (by rfl) (by exact hkd) (by exact hki) (by exact hkn) hk7 hk7 (by decide) hfu (by omega) (by omega)) ⟨rfl, rfl, by show m + 6 + 1 ≤ m + 1 + 6; omega, by show 8 + (9 + 11) + (300 + 28 * m) ≤ 300 + 28 * (m + 1); omega⟩ (Nat.le_of_ble_eq_true rfl) dX0_perform_168 (fun v_3 I_3 J_3 h_3 => ?_)
      obtain ⟨ev_3, ei_3, ej_3⟩ := h_3
      replace ev_3 := ev_3.symm; subst ev_3
      replace ei_3 := ei_3.symm; subst ei_3
      replace ej_3 := ej_3.symm; subst ej_3
      refine z_I (I' := zup (zup I 33 ((aPerf k i n m k 0 x (bg + 1, aPut (I 33) bg (zBodies (aOwn f a * 3 + a)))).2.2)) 32 (upd (I 32) 1 (nI (aPerf k i n m k 0 x (bg + 1, aPut (I 33) bg (zBodies (aOwn f a * 3 + a)))).2.1))) (by
        funext zk
        by_cases h32 : zk = 32
        · subst h32; simp [zup, upd_2]
        by_cases h33 : zk = 33
        · subst h33; simp [zup]
        · simp [zup, h32, h33]) ?_
      refine z_aload_n C dX0_perform_171 rfl 4 rfl ?_
      refine z_geti C ff_X0_25 32 (by decide) sh32 rfl (v := n) (by first | exact hkn | (simp [zup, zupJ, upd, vp_updL]; exact hkn)) dX0_perform_172 ?_
      refine z_isub C dX0_perform_175 ?_
      refine z_iret C hr rfl dX0_perform_176 ?_
      refine ⟨_, rfl, ?_⟩
      rw [aPerf, aBody, if_neg c54_10, if_pos c54_11]; exact ⟨rfl, by simp only [upd_2], rfl⟩
    by_cases c54_12 : zBodies ((aOwn f a) * 3 + a) = 12
    · skip
      refine z_lookup (tgt := 177) C dX0_perform_54 (by decide) (off := 123) (by rw [c54_12]; decide) (by decide) ?_
      rw [aFu, aFuB, if_neg c54_10, if_neg c54_11, if_pos c54_12] at hfu
      refine z_aload_n C dX0_perform_177 rfl 4 rfl ?_
      refine z_aload_n C dX0_perform_178 rfl 4 rfl ?_
      refine z_geti C ff_X0_22 32 (by decide) sh32 rfl (v := nI k) (by first | exact hkd | (simp [zup, zupJ, upd, vp_updL]; exact hkd)) dX0_perform_179 ?_
      refine z_iconst C (v := 1) dX0_perform_182 (by decide) ?_
      refine z_iload_n C dX0_perform_183 rfl 7 rfl ?_
      refine z_iload C dX0_perform_184 0 rfl ?_
      refine z_callVi C hm cl_X0_28 cv_X0_perform 32 (by decide) sh32 ⟨_, _, rfl⟩ [.int (nI k), .int 1, .int x, .int (nI (d + 1))] rfl (rest := []) rfl (ihm _ _ (bg + 1) k 1 x (d + 1) (by rfl) (by exact hkd) (by exact hki) (by exact hkn) hk7 hk7 (by decide) hfu (by omega) (by omega)) ⟨rfl, rfl, by show m + 6 + 1 ≤ m + 1 + 6; omega, by show 8 + (9 + 11) + (300 + 28 * m) ≤ 300 + 28 * (m + 1); omega⟩ (Nat.le_of_ble_eq_true rfl) dX0_perform_186 (fun v_4 I_4 J_4 h_4 => ?_)
      obtain ⟨ev_4, ei_4, ej_4⟩ := h_4
      replace ev_4 := ev_4.symm; subst ev_4
      replace ei_4 := ei_4.symm; subst ei_4
      replace ej_4 := ej_4.symm; subst ej_4
      refine z_I (I' := zup (zup I 33 ((aPerf k i n m k 1 x (bg + 1, aPut (I 33) bg (zBodies (aOwn f a * 3 + a)))).2.2)) 32 (upd (I 32) 1 (nI (aPerf k i n m k 1 x (bg + 1, aPut (I 33) bg (zBodies (aOwn f a * 3 + a)))).2.1))) (by
        funext zk
        by_cases h32 : zk = 32
        · subst h32; simp [zup, upd_2]
        by_cases h33 : zk = 33
        · subst h33; simp [zup]
        · simp [zup, h32, h33]) ?_
      refine z_iconst C (v := 2) dX0_perform_189 (by decide) ?_
      refine z_imul C dX0_perform_190 ?_
      refine z_iret C hr rfl dX0_perform_191 ?_
      refine ⟨_, rfl, ?_⟩
      rw [aPerf, aBody, if_neg c54_10, if_neg c54_11, if_pos c54_12]; exact ⟨rfl, by simp only [upd_2], rfl⟩
    by_cases c54_20 : zBodies ((aOwn f a) * 3 + a) = 20
    · skip
      refine z_lookup (tgt := 192) C dX0_perform_54 (by decide) (off := 138) (by rw [c54_20]; decide) (by decide) ?_
      rw [aFu, aFuB, if_neg c54_10, if_neg c54_11, if_neg c54_12, if_pos c54_20] at hfu
      refine z_aload_n C dX0_perform_192 rfl 4 rfl ?_
      refine z_iload C dX0_perform_193 2 rfl ?_
      refine z_iconst C (v := 1) dX0_perform_195 (by decide) ?_
      refine z_iload_n C dX0_perform_196 rfl 7 rfl ?_
      refine z_iload C dX0_perform_197 0 rfl ?_
      refine z_callVi C hm cl_X0_28 cv_X0_perform 32 (by decide) sh32 ⟨_, _, rfl⟩ [.int (nI (aAb (aOwn f a))), .int 1, .int x, .int (nI (d + 1))] rfl (rest := []) rfl (ihm _ _ (bg + 1) (aAb (aOwn f a)) 1 x (d + 1) (by rfl) (by exact hkd) (by exact hki) (by exact hkn) (aAb_lt _ (aOwn_lt f hf7 a ha3)).1 hk7 (by decide) hfu (by omega) (by omega)) ⟨rfl, rfl, by show m + 6 + 1 ≤ m + 1 + 6; omega, by show 8 + (9 + 11) + (300 + 28 * m) ≤ 300 + 28 * (m + 1); omega⟩ (Nat.le_of_ble_eq_true rfl) dX0_perform_199 (fun v_5 I_5 J_5 h_5 => ?_)
      obtain ⟨ev_5, ei_5, ej_5⟩ := h_5
      replace ev_5 := ev_5.symm; subst ev_5
      replace ei_5 := ei_5.symm; subst ei_5
      replace ej_5 := ej_5.symm; subst ej_5
      refine z_I (I' := zup (zup I 33 ((aPerf k i n m (aAb (aOwn f a)) 1 x (bg + 1, aPut (I 33) bg (zBodies (aOwn f a * 3 + a)))).2.2)) 32 (upd (I 32) 1 (nI (aPerf k i n m (aAb (aOwn f a)) 1 x (bg + 1, aPut (I 33) bg (zBodies (aOwn f a * 3 + a)))).2.1))) (by
        funext zk
        by_cases h32 : zk = 32
        · subst h32; simp [zup, upd_2]
        by_cases h33 : zk = 33
        · subst h33; simp [zup]
        · simp [zup, h32, h33]) ?_
      refine z_bipush C (v := 6) dX0_perform_202 (by decide) ?_
      refine z_ixor C dX0_perform_204 ?_
      refine z_iret C hr rfl dX0_perform_205 ?_
      refine ⟨_, rfl, ?_⟩
      rw [aPerf, aBody, if_neg c54_10, if_neg c54_11, if_neg c54_12, if_pos c54_20]; exact ⟨rfl, by simp only [upd_2], rfl⟩
    by_cases c54_30 : zBodies ((aOwn f a) * 3 + a) = 30
    · skip
      refine z_lookup (tgt := 206) C dX0_perform_54 (by decide) (off := 152) (by rw [c54_30]; decide) (by decide) ?_
      rw [aFu, aFuB, if_neg c54_10, if_neg c54_11, if_neg c54_12, if_neg c54_20, if_pos c54_30] at hfu
      refine z_aload_n C dX0_perform_206 rfl 4 rfl ?_
      refine z_iload C dX0_perform_207 2 rfl ?_
      refine z_iconst C (v := 0) dX0_perform_209 (by decide) ?_
      refine z_iload_n C dX0_perform_210 rfl 7 rfl ?_
      refine z_iconst C (v := 3) dX0_perform_211 (by decide) ?_
      refine z_imul C dX0_perform_212 ?_
      refine z_iload C dX0_perform_213 0 rfl ?_
      refine z_callVi C hm cl_X0_28 cv_X0_perform 32 (by decide) sh32 ⟨_, _, rfl⟩ [.int (nI (aAb (aOwn f a))), .int 0, .int (x * 3), .int (nI (d + 1))] rfl (rest := []) rfl (ihm _ _ (bg + 1) (aAb (aOwn f a)) 0 (x * 3) (d + 1) (by rfl) (by exact hkd) (by exact hki) (by exact hkn) (aAb_lt _ (aOwn_lt f hf7 a ha3)).1 hk7 (by decide) hfu (by omega) (by omega)) ⟨rfl, rfl, by show m + 6 + 1 ≤ m + 1 + 6; omega, by show 8 + (9 + 11) + (300 + 28 * m) ≤ 300 + 28 * (m + 1); omega⟩ (Nat.le_of_ble_eq_true rfl) dX0_perform_215 (fun v_6 I_6 J_6 h_6 => ?_)
      obtain ⟨ev_6, ei_6, ej_6⟩ := h_6
      replace ev_6 := ev_6.symm; subst ev_6
      replace ei_6 := ei_6.symm; subst ei_6
      replace ej_6 := ej_6.symm; subst ej_6
      refine z_I (I' := zup (zup I 33 ((aPerf k i n m (aAb (aOwn f a)) 0 (x * 3) (bg + 1, aPut (I 33) bg (zBodies (aOwn f a * 3 + a)))).2.2)) 32 (upd (I 32) 1 (nI (aPerf k i n m (aAb (aOwn f a)) 0 (x * 3) (bg + 1, aPut (I 33) bg (zBodies (aOwn f a * 3 + a)))).2.1))) (by
        funext zk
        by_cases h32 : zk = 32
        · subst h32; simp [zup, upd_2]
        by_cases h33 : zk = 33
        · subst h33; simp [zup]
        · simp [zup, h32, h33]) ?_
      refine z_iret C hr rfl dX0_perform_218 ?_
      refine ⟨_, rfl, ?_⟩
      rw [aPerf, aBody, if_neg c54_10, if_neg c54_11, if_neg c54_12, if_neg c54_20, if_pos c54_30]; exact ⟨rfl, by simp only [upd_2], rfl⟩
    by_cases c54_40 : zBodies ((aOwn f a) * 3 + a) = 40
    · skip
      refine z_lookup (tgt := 219) C dX0_perform_54 (by decide) (off := 165) (by rw [c54_40]; decide) (by decide) ?_
      rw [aFu, aFuB, if_neg c54_10, if_neg c54_11, if_neg c54_12, if_neg c54_20, if_neg c54_30, if_pos c54_40] at hfu
      rw [Bool.and_eq_true] at hfu
      refine z_aload_n C dX0_perform_219 rfl 4 rfl ?_
      refine z_iload C dX0_perform_220 2 rfl ?_
      refine z_iconst C (v := 2) dX0_perform_222 (by decide) ?_
      refine z_iload_n C dX0_perform_223 rfl 7 rfl ?_
      refine z_iload C dX0_perform_224 0 rfl ?_
      refine z_callVi C hm cl_X0_28 cv_X0_perform 32 (by decide) sh32 ⟨_, _, rfl⟩ [.int (nI (aAb (aOwn f a))), .int 2, .int x, .int (nI (d + 1))] rfl (rest := []) rfl (ihm _ _ (bg + 1) (aAb (aOwn f a)) 2 x (d + 1) (by rfl) (by exact hkd) (by exact hki) (by exact hkn) (aAb_lt _ (aOwn_lt f hf7 a ha3)).1 hk7 (by decide) hfu.1 (by omega) (by omega)) ⟨rfl, rfl, by show m + 6 + 1 ≤ m + 1 + 6; omega, by show 8 + (9 + 11) + (300 + 28 * m) ≤ 300 + 28 * (m + 1); omega⟩ (Nat.le_of_ble_eq_true rfl) dX0_perform_226 (fun v_7 I_7 J_7 h_7 => ?_)
      obtain ⟨ev_7, ei_7, ej_7⟩ := h_7
      replace ev_7 := ev_7.symm; subst ev_7
      replace ei_7 := ei_7.symm; subst ei_7
      replace ej_7 := ej_7.symm; subst ej_7
      refine z_I (I' := zup (zup I 33 ((aPerf k i n m (aAb (aOwn f a)) 2 x (bg + 1, aPut (I 33) bg (zBodies (aOwn f a * 3 + a)))).2.2)) 32 (upd (I 32) 1 (nI (aPerf k i n m (aAb (aOwn f a)) 2 x (bg + 1, aPut (I 33) bg (zBodies (aOwn f a * 3 + a)))).2.1))) (by
        funext zk
        by_cases h32 : zk = 32
        · subst h32; simp [zup, upd_2]
        by_cases h33 : zk = 33
        · subst h33; simp [zup]
        · simp [zup, h32, h33]) ?_
      refine z_aload_n C dX0_perform_229 rfl 4 rfl ?_
      refine z_aload_n C dX0_perform_230 rfl 4 rfl ?_
      refine z_geti C ff_X0_22 32 (by decide) sh32 rfl (v := nI k) (by first | exact hkd | (simp [zup, zupJ, upd, vp_updL]; exact hkd)) dX0_perform_231 ?_
      refine z_iconst C (v := 1) dX0_perform_234 (by decide) ?_
      refine z_iconst C (v := 1) dX0_perform_235 (by decide) ?_
      refine z_iload C dX0_perform_236 0 rfl ?_
      refine z_callVi C hm cl_X0_28 cv_X0_perform 32 (by decide) sh32 ⟨_, _, rfl⟩ [.int (nI k), .int 1, .int 1, .int (nI (d + 1))] rfl (rest := [.int ((aPerf k i n m (aAb (aOwn f a)) 2 x (bg + 1, aPut (I 33) bg (zBodies (aOwn f a * 3 + a)))).1)]) rfl (ihm _ _ ((aPerf k i n m (aAb (aOwn f a)) 2 x (bg + 1, aPut (I 33) bg (zBodies (aOwn f a * 3 + a)))).2.1) k 1 (1) (d + 1) (by rfl) (by exact hkd) (by exact hki) (by exact hkn) hk7 hk7 (by decide) hfu.2 (by have := aPerf_le (k := k) (i := i) (n := n) m (aAb (aOwn f a)) 2 x (bg + 1, aPut (I 33) bg (zBodies (aOwn f a * 3 + a))); simp only at this ⊢; omega) (by omega)) ⟨rfl, rfl, by show m + 6 + 1 ≤ m + 1 + 6; omega, by show 8 + (9 + 11) + (300 + 28 * m) ≤ 300 + 28 * (m + 1); omega⟩ (Nat.le_of_ble_eq_true rfl) dX0_perform_238 (fun v_8 I_8 J_8 h_8 => ?_)
      obtain ⟨ev_8, ei_8, ej_8⟩ := h_8
      replace ev_8 := ev_8.symm; subst ev_8
      replace ei_8 := ei_8.symm; subst ei_8
      replace ej_8 := ej_8.symm; subst ej_8
      refine z_I (I' := zup (zup I 33 ((aPerf k i n m k 1 (1) ((aPerf k i n m (aAb (aOwn f a)) 2 x (bg + 1, aPut (I 33) bg (zBodies (aOwn f a * 3 + a)))).2)).2.2)) 32 (upd (I 32) 1 (nI (aPerf k i n m k 1 (1) ((aPerf k i n m (aAb (aOwn f a)) 2 x (bg + 1, aPut (I 33) bg (zBodies (aOwn f a * 3 + a)))).2)).2.1))) (by
        funext zk
        by_cases h32 : zk = 32
        · subst h32; simp [zup, upd_2]
        by_cases h33 : zk = 33
        · subst h33; simp [zup]
        · simp [zup, h32, h33]) ?_
      refine z_iadd C dX0_perform_241 ?_
      refine z_iret C hr rfl dX0_perform_242 ?_
      refine ⟨_, rfl, ?_⟩
      rw [aPerf, aBody, if_neg c54_10, if_neg c54_11, if_neg c54_12, if_neg c54_20, if_neg c54_30, if_pos c54_40]; exact ⟨rfl, by simp only [upd_2], rfl⟩
    by_cases c54_50 : zBodies ((aOwn f a) * 3 + a) = 50
    · skip
      refine z_lookup (tgt := 243) C dX0_perform_54 (by decide) (off := 189) (by rw [c54_50]; decide) (by decide) ?_
      rw [aFu, aFuB, if_neg c54_10, if_neg c54_11, if_neg c54_12, if_neg c54_20, if_neg c54_30, if_neg c54_40, if_pos c54_50] at hfu
      refine z_aload_n C dX0_perform_243 rfl 4 rfl ?_
      refine z_iload C dX0_perform_244 2 rfl ?_
      refine z_iconst C (v := 0) dX0_perform_246 (by decide) ?_
      refine z_iload_n C dX0_perform_247 rfl 7 rfl ?_
      refine z_iload C dX0_perform_248 0 rfl ?_
      refine z_callVi C hm cl_X0_28 cv_X0_perform 32 (by decide) sh32 ⟨_, _, rfl⟩ [.int (nI (aAb (aOwn f a))), .int 0, .int x, .int (nI (d + 1))] rfl (rest := []) rfl (ihm _ _ (bg + 1) (aAb (aOwn f a)) 0 x (d + 1) (by rfl) (by exact hkd) (by exact hki) (by exact hkn) (aAb_lt _ (aOwn_lt f hf7 a ha3)).1 hk7 (by decide) hfu (by omega) (by omega)) ⟨rfl, rfl, by show m + 6 + 1 ≤ m + 1 + 6; omega, by show 8 + (9 + 11) + (300 + 28 * m) ≤ 300 + 28 * (m + 1); omega⟩ (Nat.le_of_ble_eq_true rfl) dX0_perform_250 (fun v_9 I_9 J_9 h_9 => ?_)
      obtain ⟨ev_9, ei_9, ej_9⟩ := h_9
      replace ev_9 := ev_9.symm; subst ev_9
      replace ei_9 := ei_9.symm; subst ei_9
      replace ej_9 := ej_9.symm; subst ej_9
      refine z_I (I' := zup (zup I 33 ((aPerf k i n m (aAb (aOwn f a)) 0 x (bg + 1, aPut (I 33) bg (zBodies (aOwn f a * 3 + a)))).2.2)) 32 (upd (I 32) 1 (nI (aPerf k i n m (aAb (aOwn f a)) 0 x (bg + 1, aPut (I 33) bg (zBodies (aOwn f a * 3 + a)))).2.1))) (by
        funext zk
        by_cases h32 : zk = 32
        · subst h32; simp [zup, upd_2]
        by_cases h33 : zk = 33
        · subst h33; simp [zup]
        · simp [zup, h32, h33]) ?_
      refine z_ineg C dX0_perform_253 ?_
      refine z_iret C hr rfl dX0_perform_254 ?_
      refine ⟨_, rfl, ?_⟩
      rw [aPerf, aBody, if_neg c54_10, if_neg c54_11, if_neg c54_12, if_neg c54_20, if_neg c54_30, if_neg c54_40, if_pos c54_50]; exact ⟨rfl, by simp only [upd_2], rfl⟩
    by_cases c54_51 : zBodies ((aOwn f a) * 3 + a) = 51
    · skip
      refine z_lookup (tgt := 255) C dX0_perform_54 (by decide) (off := 201) (by rw [c54_51]; decide) (by decide) ?_
      rw [aFu, aFuB, if_neg c54_10, if_neg c54_11, if_neg c54_12, if_neg c54_20, if_neg c54_30, if_neg c54_40, if_neg c54_50, if_pos c54_51] at hfu
      refine z_aload_n C dX0_perform_255 rfl 4 rfl ?_
      refine z_iload C dX0_perform_256 2 rfl ?_
      refine z_iconst C (v := 1) dX0_perform_258 (by decide) ?_
      refine z_iload_n C dX0_perform_259 rfl 7 rfl ?_
      refine z_iconst C (v := 1) dX0_perform_260 (by decide) ?_
      refine z_iadd C dX0_perform_261 ?_
      refine z_iload C dX0_perform_262 0 rfl ?_
      refine z_callVi C hm cl_X0_28 cv_X0_perform 32 (by decide) sh32 ⟨_, _, rfl⟩ [.int (nI (aAb (aOwn f a))), .int 1, .int (x + 1), .int (nI (d + 1))] rfl (rest := []) rfl (ihm _ _ (bg + 1) (aAb (aOwn f a)) 1 (x + 1) (d + 1) (by rfl) (by exact hkd) (by exact hki) (by exact hkn) (aAb_lt _ (aOwn_lt f hf7 a ha3)).1 hk7 (by decide) hfu (by omega) (by omega)) ⟨rfl, rfl, by show m + 6 + 1 ≤ m + 1 + 6; omega, by show 8 + (9 + 11) + (300 + 28 * m) ≤ 300 + 28 * (m + 1); omega⟩ (Nat.le_of_ble_eq_true rfl) dX0_perform_264 (fun v_10 I_10 J_10 h_10 => ?_)
      obtain ⟨ev_10, ei_10, ej_10⟩ := h_10
      replace ev_10 := ev_10.symm; subst ev_10
      replace ei_10 := ei_10.symm; subst ei_10
      replace ej_10 := ej_10.symm; subst ej_10
      refine z_I (I' := zup (zup I 33 ((aPerf k i n m (aAb (aOwn f a)) 1 (x + 1) (bg + 1, aPut (I 33) bg (zBodies (aOwn f a * 3 + a)))).2.2)) 32 (upd (I 32) 1 (nI (aPerf k i n m (aAb (aOwn f a)) 1 (x + 1) (bg + 1, aPut (I 33) bg (zBodies (aOwn f a * 3 + a)))).2.1))) (by
        funext zk
        by_cases h32 : zk = 32
        · subst h32; simp [zup, upd_2]
        by_cases h33 : zk = 33
        · subst h33; simp [zup]
        · simp [zup, h32, h33]) ?_
      refine z_iret C hr rfl dX0_perform_267 ?_
      refine ⟨_, rfl, ?_⟩
      rw [aPerf, aBody, if_neg c54_10, if_neg c54_11, if_neg c54_12, if_neg c54_20, if_neg c54_30, if_neg c54_40, if_neg c54_50, if_pos c54_51]; exact ⟨rfl, by simp only [upd_2], rfl⟩
    by_cases c54_60 : zBodies ((aOwn f a) * 3 + a) = 60
    · skip
      refine z_lookup (tgt := 268) C dX0_perform_54 (by decide) (off := 214) (by rw [c54_60]; decide) (by decide) ?_
      rw [aFu, aFuB, if_neg c54_10, if_neg c54_11, if_neg c54_12, if_neg c54_20, if_neg c54_30, if_neg c54_40, if_neg c54_50, if_neg c54_51, if_pos c54_60] at hfu
      refine z_aload_n C dX0_perform_268 rfl 4 rfl ?_
      refine z_iload C dX0_perform_269 2 rfl ?_
      refine z_iconst C (v := 2) dX0_perform_271 (by decide) ?_
      refine z_iload_n C dX0_perform_272 rfl 7 rfl ?_
      refine z_aload_n C dX0_perform_273 rfl 4 rfl ?_
      refine z_geti C ff_X0_19 32 (by decide) sh32 rfl (v := i) (by first | exact hki | (simp [zup, zupJ, upd, vp_updL]; exact hki)) dX0_perform_274 ?_
      refine z_isub C dX0_perform_277 ?_
      refine z_iload C dX0_perform_278 0 rfl ?_
      refine z_callVi C hm cl_X0_28 cv_X0_perform 32 (by decide) sh32 ⟨_, _, rfl⟩ [.int (nI (aAb (aOwn f a))), .int 2, .int (x - i), .int (nI (d + 1))] rfl (rest := []) rfl (ihm _ _ (bg + 1) (aAb (aOwn f a)) 2 (x - i) (d + 1) (by rfl) (by exact hkd) (by exact hki) (by exact hkn) (aAb_lt _ (aOwn_lt f hf7 a ha3)).1 hk7 (by decide) hfu (by omega) (by omega)) ⟨rfl, rfl, by show m + 6 + 1 ≤ m + 1 + 6; omega, by show 8 + (9 + 11) + (300 + 28 * m) ≤ 300 + 28 * (m + 1); omega⟩ (Nat.le_of_ble_eq_true rfl) dX0_perform_280 (fun v_11 I_11 J_11 h_11 => ?_)
      obtain ⟨ev_11, ei_11, ej_11⟩ := h_11
      replace ev_11 := ev_11.symm; subst ev_11
      replace ei_11 := ei_11.symm; subst ei_11
      replace ej_11 := ej_11.symm; subst ej_11
      refine z_I (I' := zup (zup I 33 ((aPerf k i n m (aAb (aOwn f a)) 2 (x - i) (bg + 1, aPut (I 33) bg (zBodies (aOwn f a * 3 + a)))).2.2)) 32 (upd (I 32) 1 (nI (aPerf k i n m (aAb (aOwn f a)) 2 (x - i) (bg + 1, aPut (I 33) bg (zBodies (aOwn f a * 3 + a)))).2.1))) (by
        funext zk
        by_cases h32 : zk = 32
        · subst h32; simp [zup, upd_2]
        by_cases h33 : zk = 33
        · subst h33; simp [zup]
        · simp [zup, h32, h33]) ?_
      refine z_iret C hr rfl dX0_perform_283 ?_
      refine ⟨_, rfl, ?_⟩
      rw [aPerf, aBody, if_neg c54_10, if_neg c54_11, if_neg c54_12, if_neg c54_20, if_neg c54_30, if_neg c54_40, if_neg c54_50, if_neg c54_51, if_pos c54_60]; exact ⟨rfl, by simp only [upd_2], rfl⟩
    by_cases c54_70 : zBodies ((aOwn f a) * 3 + a) = 70
    · skip
      refine z_lookup (tgt := 284) C dX0_perform_54 (by decide) (off := 230) (by rw [c54_70]; decide) (by decide) ?_
      rw [aFu, aFuB, if_neg c54_10, if_neg c54_11, if_neg c54_12, if_neg c54_20, if_neg c54_30, if_neg c54_40, if_neg c54_50, if_neg c54_51, if_neg c54_60, if_pos c54_70] at hfu
      rw [Bool.and_eq_true] at hfu
      refine z_aload_n C dX0_perform_284 rfl 4 rfl ?_
      refine z_iload C dX0_perform_285 2 rfl ?_
      refine z_iconst C (v := 1) dX0_perform_287 (by decide) ?_
      refine z_iload_n C dX0_perform_288 rfl 7 rfl ?_
      refine z_iload C dX0_perform_289 0 rfl ?_
      refine z_callVi C hm cl_X0_28 cv_X0_perform 32 (by decide) sh32 ⟨_, _, rfl⟩ [.int (nI (aAb (aOwn f a))), .int 1, .int x, .int (nI (d + 1))] rfl (rest := []) rfl (ihm _ _ (bg + 1) (aAb (aOwn f a)) 1 x (d + 1) (by rfl) (by exact hkd) (by exact hki) (by exact hkn) (aAb_lt _ (aOwn_lt f hf7 a ha3)).1 hk7 (by decide) hfu.1 (by omega) (by omega)) ⟨rfl, rfl, by show m + 6 + 1 ≤ m + 1 + 6; omega, by show 8 + (9 + 11) + (300 + 28 * m) ≤ 300 + 28 * (m + 1); omega⟩ (Nat.le_of_ble_eq_true rfl) dX0_perform_291 (fun v_12 I_12 J_12 h_12 => ?_)
      obtain ⟨ev_12, ei_12, ej_12⟩ := h_12
      replace ev_12 := ev_12.symm; subst ev_12
      replace ei_12 := ei_12.symm; subst ei_12
      replace ej_12 := ej_12.symm; subst ej_12
      refine z_I (I' := zup (zup I 33 ((aPerf k i n m (aAb (aOwn f a)) 1 x (bg + 1, aPut (I 33) bg (zBodies (aOwn f a * 3 + a)))).2.2)) 32 (upd (I 32) 1 (nI (aPerf k i n m (aAb (aOwn f a)) 1 x (bg + 1, aPut (I 33) bg (zBodies (aOwn f a * 3 + a)))).2.1))) (by
        funext zk
        by_cases h32 : zk = 32
        · subst h32; simp [zup, upd_2]
        by_cases h33 : zk = 33
        · subst h33; simp [zup]
        · simp [zup, h32, h33]) ?_
      refine z_aload_n C dX0_perform_294 rfl 4 rfl ?_
      refine z_iload C dX0_perform_295 2 rfl ?_
      refine z_iconst C (v := 0) dX0_perform_297 (by decide) ?_
      refine z_iconst C (v := 2) dX0_perform_298 (by decide) ?_
      refine z_iload C dX0_perform_299 0 rfl ?_
      refine z_callVi C hm cl_X0_28 cv_X0_perform 32 (by decide) sh32 ⟨_, _, rfl⟩ [.int (nI (aAb (aOwn f a))), .int 0, .int 2, .int (nI (d + 1))] rfl (rest := [.int ((aPerf k i n m (aAb (aOwn f a)) 1 x (bg + 1, aPut (I 33) bg (zBodies (aOwn f a * 3 + a)))).1)]) rfl (ihm _ _ ((aPerf k i n m (aAb (aOwn f a)) 1 x (bg + 1, aPut (I 33) bg (zBodies (aOwn f a * 3 + a)))).2.1) (aAb (aOwn f a)) 0 (2) (d + 1) (by rfl) (by exact hkd) (by exact hki) (by exact hkn) (aAb_lt _ (aOwn_lt f hf7 a ha3)).1 hk7 (by decide) hfu.2 (by have := aPerf_le (k := k) (i := i) (n := n) m (aAb (aOwn f a)) 1 x (bg + 1, aPut (I 33) bg (zBodies (aOwn f a * 3 + a))); simp only at this ⊢; omega) (by omega)) ⟨rfl, rfl, by show m + 6 + 1 ≤ m + 1 + 6; omega, by show 8 + (9 + 11) + (300 + 28 * m) ≤ 300 + 28 * (m + 1); omega⟩ (Nat.le_of_ble_eq_true rfl) dX0_perform_301 (fun v_13 I_13 J_13 h_13 => ?_)
      obtain ⟨ev_13, ei_13, ej_13⟩ := h_13
      replace ev_13 := ev_13.symm; subst ev_13
      replace ei_13 := ei_13.symm; subst ei_13
      replace ej_13 := ej_13.symm; subst ej_13
      refine z_I (I' := zup (zup I 33 ((aPerf k i n m (aAb (aOwn f a)) 0 (2) ((aPerf k i n m (aAb (aOwn f a)) 1 x (bg + 1, aPut (I 33) bg (zBodies (aOwn f a * 3 + a)))).2)).2.2)) 32 (upd (I 32) 1 (nI (aPerf k i n m (aAb (aOwn f a)) 0 (2) ((aPerf k i n m (aAb (aOwn f a)) 1 x (bg + 1, aPut (I 33) bg (zBodies (aOwn f a * 3 + a)))).2)).2.1))) (by
        funext zk
        by_cases h32 : zk = 32
        · subst h32; simp [zup, upd_2]
        by_cases h33 : zk = 33
        · subst h33; simp [zup]
        · simp [zup, h32, h33]) ?_
      refine z_iadd C dX0_perform_304 ?_
      refine z_iret C hr rfl dX0_perform_305 ?_
      refine ⟨_, rfl, ?_⟩
      rw [aPerf, aBody, if_neg c54_10, if_neg c54_11, if_neg c54_12, if_neg c54_20, if_neg c54_30, if_neg c54_40, if_neg c54_50, if_neg c54_51, if_neg c54_60, if_pos c54_70]; exact ⟨rfl, by simp only [upd_2], rfl⟩
    by_cases c54_71 : zBodies ((aOwn f a) * 3 + a) = 71
    · skip
      refine z_lookup (tgt := 306) C dX0_perform_54 (by decide) (off := 252) (by rw [c54_71]; decide) (by decide) ?_
      rw [aFu, aFuB, if_neg c54_10, if_neg c54_11, if_neg c54_12, if_neg c54_20, if_neg c54_30, if_neg c54_40, if_neg c54_50, if_neg c54_51, if_neg c54_60, if_neg c54_70, if_pos c54_71] at hfu
      refine z_aload_n C dX0_perform_306 rfl 4 rfl ?_
      refine z_iload C dX0_perform_307 2 rfl ?_
      refine z_iconst C (v := 0) dX0_perform_309 (by decide) ?_
      refine z_iload_n C dX0_perform_310 rfl 7 rfl ?_
      refine z_iload C dX0_perform_311 0 rfl ?_
      refine z_callVi C hm cl_X0_28 cv_X0_perform 32 (by decide) sh32 ⟨_, _, rfl⟩ [.int (nI (aAb (aOwn f a))), .int 0, .int x, .int (nI (d + 1))] rfl (rest := []) rfl (ihm _ _ (bg + 1) (aAb (aOwn f a)) 0 x (d + 1) (by rfl) (by exact hkd) (by exact hki) (by exact hkn) (aAb_lt _ (aOwn_lt f hf7 a ha3)).1 hk7 (by decide) hfu (by omega) (by omega)) ⟨rfl, rfl, by show m + 6 + 1 ≤ m + 1 + 6; omega, by show 8 + (9 + 11) + (300 + 28 * m) ≤ 300 + 28 * (m + 1); omega⟩ (Nat.le_of_ble_eq_true rfl) dX0_perform_313 (fun v_14 I_14 J_14 h_14 => ?_)
      obtain ⟨ev_14, ei_14, ej_14⟩ := h_14
      replace ev_14 := ev_14.symm; subst ev_14
      replace ei_14 := ei_14.symm; subst ei_14
      replace ej_14 := ej_14.symm; subst ej_14
      refine z_I (I' := zup (zup I 33 ((aPerf k i n m (aAb (aOwn f a)) 0 x (bg + 1, aPut (I 33) bg (zBodies (aOwn f a * 3 + a)))).2.2)) 32 (upd (I 32) 1 (nI (aPerf k i n m (aAb (aOwn f a)) 0 x (bg + 1, aPut (I 33) bg (zBodies (aOwn f a * 3 + a)))).2.1))) (by
        funext zk
        by_cases h32 : zk = 32
        · subst h32; simp [zup, upd_2]
        by_cases h33 : zk = 33
        · subst h33; simp [zup]
        · simp [zup, h32, h33]) ?_
      refine z_aload_n C dX0_perform_316 rfl 4 rfl ?_
      refine z_geti C ff_X0_25 32 (by decide) sh32 rfl (v := n) (by first | exact hkn | (simp [zup, zupJ, upd, vp_updL]; exact hkn)) dX0_perform_317 ?_
      refine z_ixor C dX0_perform_320 ?_
      refine z_iret C hr rfl dX0_perform_321 ?_
      refine ⟨_, rfl, ?_⟩
      rw [aPerf, aBody, if_neg c54_10, if_neg c54_11, if_neg c54_12, if_neg c54_20, if_neg c54_30, if_neg c54_40, if_neg c54_50, if_neg c54_51, if_neg c54_60, if_neg c54_70, if_pos c54_71]; exact ⟨rfl, by simp only [upd_2], rfl⟩
    refine z_lookup (tgt := 322) C dX0_perform_54 (by decide) (off := 268) (by show Op.lookupswitch.offset [(10, 98), (11, 105), (12, 123), (20, 138), (30, 152), (40, 165), (50, 189), (51, 201), (60, 214), (70, 230), (71, 252)] _ _ = _; rw [lv_osw c54_10 (by decide), lv_osw c54_11 (by decide), lv_osw c54_12 (by decide), lv_osw c54_20 (by decide), lv_osw c54_30 (by decide), lv_osw c54_40 (by decide), lv_osw c54_50 (by decide), lv_osw c54_51 (by decide), lv_osw c54_60 (by decide), lv_osw c54_70 (by decide), lv_osw c54_71 (by decide)]; rfl) (by decide) ?_
    rw [aFu, aFuB, if_neg c54_10, if_neg c54_11, if_neg c54_12, if_neg c54_20, if_neg c54_30, if_neg c54_40, if_neg c54_50, if_neg c54_51, if_neg c54_60, if_neg c54_70, if_neg c54_71] at hfu
    refine z_iconst C (v := 0) dX0_perform_322 (by decide) ?_
    refine z_iret C hr rfl dX0_perform_323 ?_
    refine ⟨_, rfl, ?_⟩
    rw [aPerf, aBody, if_neg c54_10, if_neg c54_11, if_neg c54_12, if_neg c54_20, if_neg c54_30, if_neg c54_40, if_neg c54_50, if_neg c54_51, if_neg c54_60, if_neg c54_70, if_neg c54_71]; exact ⟨rfl, by simp only [upd_2], rfl⟩
  · skip
    exact absurd c4 (by omega)
