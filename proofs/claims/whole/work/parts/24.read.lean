/-! reading: numbers, signs, words -/
def zDi (x : Nat) : Prop := 48 ≤ x ∧ x ≤ 57
noncomputable def zDc (c : Nat → Nat) : Nat → Nat → Nat
  | 0, _ => 0
  | m + 1, p => cif (zDi (c p)) (zDc c m (p + 1) + 1) 0
def zDv (c : Nat → Nat) (p : Nat) : Nat → Nat
  | 0 => 0
  | k + 1 => zDv c p k * 10 + (c (p + k) - 48)
theorem zDc_le {c : Nat → Nat} : ∀ m p, zDc c m p ≤ m
  | 0, _ => Nat.le_refl _
  | m + 1, p => by
    have := zDc_le (c := c) m (p + 1)
    rw [zDc]; unfold cif; split <;> omega
theorem zDc_dig {c : Nat → Nat} : ∀ m p k, k < zDc c m p → zDi (c (p + k))
  | 0, _, _, h => absurd h (Nat.not_lt_zero _)
  | m + 1, p, k, h => by
    rw [zDc] at h
    by_cases q : zDi (c p)
    · rw [cif_t q] at h
      cases k with
      | zero => exact q
      | succ k => rw [show p + (k + 1) = p + 1 + k by omega]; exact zDc_dig m (p + 1) k (by omega)
    · rw [cif_f q] at h; omega
theorem zDv_lt {c : Nat → Nat} {p : Nat} : ∀ k, (∀ j, j < k → zDi (c (p + j))) → zDv c p k < 10 ^ k
  | 0, _ => Nat.one_pos
  | k + 1, h => by
    have h1 := zDv_lt k (fun j hj => h j (by omega))
    have h2 := h k (by omega)
    unfold zDi at h2
    rw [zDv, Nat.pow_succ]; omega
/-- a number as it is read: none without a digit -/
noncomputable def zNu (c : Nat → Nat) (m p : Nat) : Int32 := if zDc c m p = 0 then -1 else nI (zDv c p (zDc c m p))
/-- which of a text's signs comes next -/
def zSi (i k : Nat) : Nat := (zch i k).toNatClampNeg
theorem zSi_ok : ∀ i, i < 7 → ∀ k, k < zLen.getD i 0 → zch i k = nI (zSi i k) ∧ zSi i k < 128 := by decide +kernel
def zWh (i x : Nat) : Nat → Nat → Option Nat
  | 0, _ => none
  | f + 1, k => if x = zSi i k then some k else zWh i x f (k + 1)
/-- how far a word goes on -/
def zSm (c : Nat → Nat) (i p : Nat) : Nat → Nat → Nat
  | 0, _ => 0
  | f + 1, k => if c (p + k) = zSi i k then zSm c i p f (k + 1) + 1 else 0
theorem max_n {a b : Nat} (ha : a < 2 ^ 31) (hb : b < 2 ^ 31) : (if nI a < nI b then nI b else nI a) = nI (max a b) := by
  by_cases q : a < b
  · rw [if_pos ((nI_ltI ha hb).mpr q), Nat.max_eq_right (by omega)]
  · rw [if_neg (fun z => q ((nI_ltI ha hb).mp z)), Nat.max_eq_left (by omega)]
abbrev rm_X5_eats : Room := { frames := 4, cells := 0, slots := 0, locals := 200 }
set_option maxRecDepth 100000 in
set_option maxHeartbeats 4000000 in
theorem k_X5_eats (w : zW) (I : zI) (J : zJ) (c : Nat → Nat) (L p : Nat) (x : Nat) (hL : I 2 1 = nI L) (hl : L ≤ 100) (hp : I 2 2 = nI p) (hpl : p ≤ L) (hBy : ∀ q, q < L → I 3 q = nI (c q) ∧ c q < 256) (hBe : ∀ q, L ≤ q → c q = 300) (hx : x < 256) : zMet yX5_eats cX5_eats 2 (some .boolean) rm_X5_eats w [.ref (zad w 2), .int (nI x)] I J (zpi (fun v I' J' => v = bI (c p = x) ∧ I' = cif (c p = x) (zup I 2 (upd (I 2) 2 (nI (p + 1)))) I ∧ J' = J)) := by
  refine zMet_of (by decide) (Nat.le_of_ble_eq_true rfl) (fun X C hm hr => ?_)
  refine z_sub (lv' := [(0, .ref (zad w 2)), (1, .int (nI x))]) [0, 1] rfl ?_
  refine z_aload_n C dX5_eats_0 rfl 0 rfl ?_
  refine z_geti C ff_X5_24 2 (by decide) sh2 rfl (v := nI p) hp dX5_eats_1 ?_
  refine z_aload_n C dX5_eats_4 rfl 0 rfl ?_
  refine z_geti C ff_X5_15 2 (by decide) sh2 rfl (v := nI L) hL dX5_eats_5 ?_
  refine z_icmp_ge_n p L (tgt := 36) C rfl rfl (by omega) (by omega) dX5_eats_8 (by decide) (fun c8 => ?_) (fun c8 => ?_)
  · skip
    refine z_iconst C (v := 0) dX5_eats_36 (by decide) ?_
    refine z_iret C hr (by decide) dX5_eats_37 ?_
    refine ⟨_, rfl, ?_⟩
    have hce := hBe p (by omega)
    exact ⟨(bI_f (by omega)).symm, by rw [cif_f (by omega)], rfl⟩
  · skip
    refine z_aload_n C dX5_eats_11 rfl 0 rfl ?_
    refine z_getr C ff_X5_9 2 (by decide) sh2 rfl dX5_eats_12 ?_
    refine z_aload_n C dX5_eats_15 rfl 0 rfl ?_
    refine z_geti C ff_X5_24 2 (by decide) sh2 rfl (v := nI p) hp dX5_eats_16 ?_
    refine z_iald C 3 (by decide) sh3 p (by omega) (by decide) rfl (v := nI (c p)) (hBy p (by omega)).1 dX5_eats_19 ?_
    refine z_iload_n C dX5_eats_20 rfl 1 rfl ?_
    refine z_icmp_ne_n (c p) x (tgt := 36) C rfl rfl (by have := (hBy p (by omega)).2; omega) (by omega) dX5_eats_21 (by decide) (fun c21 => ?_) (fun c21 => ?_)
    · skip
      refine z_iconst C (v := 0) dX5_eats_36 (by decide) ?_
      refine z_iret C hr (by decide) dX5_eats_37 ?_
      refine ⟨_, rfl, ?_⟩
      exact ⟨(bI_f (by omega)).symm, by rw [cif_f (by omega)], rfl⟩
    · skip
      refine z_aload_n C dX5_eats_24 rfl 0 rfl ?_
      refine z_dup C dX5_eats_25 rfl ?_
      refine z_geti C ff_X5_24 2 (by decide) sh2 rfl (v := nI p) hp dX5_eats_26 ?_
      refine z_iconst C (v := 1) dX5_eats_29 (by decide) ?_
      refine z_iadd C dX5_eats_30 ?_
      refine z_ti (y := nI (p + 1)) (nI_add p 1) ?_
      refine z_puti C ff_X5_24 2 (by decide) sh2 rfl rfl rfl dX5_eats_31 ?_
      refine z_I (I' := zup I 2 (upd (I 2) 2 (nI (p + 1)))) rfl ?_
      refine z_iconst C (v := 1) dX5_eats_34 (by decide) ?_
      refine z_iret C hr (by decide) dX5_eats_35 ?_
      refine ⟨_, rfl, ?_⟩
      exact ⟨(bI_t c21).symm, by rw [cif_t c21], rfl⟩
abbrev rm_X5_readNumber : Room := { frames := 4, cells := 0, slots := 0, locals := 200 }
set_option maxRecDepth 100000 in
set_option maxHeartbeats 4000000 in
theorem k_X5_readNumber (w : zW) (I : zI) (J : zJ) (c : Nat → Nat) (L p : Nat) (m : Nat) (hL : I 2 1 = nI L) (hl : L ≤ 100) (hp : I 2 2 = nI p) (hpl : p ≤ L) (hBy : ∀ q, q < L → I 3 q = nI (c q) ∧ c q < 256) (hBe : ∀ q, L ≤ q → c q = 300) (hm3 : m ≤ 3) : zMet yX5_readNumber cX5_readNumber 4 (some .int) rm_X5_readNumber w [.ref (zad w 2), .int (nI m)] I J (zpi (fun v I' J' => v = zNu c m p ∧ I' = zup I 2 (upd (I 2) 2 (nI (p + zDc c m p))) ∧ J' = J)) := by
  refine zMet_of (by decide) (Nat.le_of_ble_eq_true rfl) (fun X C hm hr => ?_)
  refine z_sub (lv' := [(0, .ref (zad w 2)), (1, .int (nI m))]) [0, 1] rfl ?_
  refine z_iconst C (v := -1) dX5_readNumber_0 (by decide) ?_
  refine z_istore_n C hm (lv' := [(2, .int (-1)), (0, .ref (zad w 2)), (1, .int (nI m))]) dX5_readNumber_1 rfl (by decide) rfl ?_
  refine z_iconst C (v := 0) dX5_readNumber_2 (by decide) ?_
  refine z_istore_n C hm (lv' := [(3, .int 0), (2, .int (-1)), (0, .ref (zad w 2)), (1, .int (nI m))]) dX5_readNumber_3 rfl (by decide) rfl ?_
  have L4 : ∀ (d : Nat) (i : Nat) (v4_2 : Int32) (v4_3 : Int32) (I4 : zI), (m - i) < d → (i ≤ m) → (p + i ≤ L) → (zDc c (m - i) (p + i) + i = zDc c m p) → (∀ j, j < i → zDi (c (p + j))) → v4_2 = (if i = 0 then -1 else nI (zDv c p i)) → v4_3 = nI i → I4 = zup I 2 (upd (I 2) 2 (nI (p + i))) → Z X w I4 J 4 [(0, .ref (zad w 2)), (1, .int (nI m)), (2, .int v4_2), (3, .int v4_3)] [] := by
    intro d
    induction d with
    | zero => intro i v4_2 v4_3 I4 hd; exact absurd hd (Nat.not_lt_zero _)
    | succ d ih4 => 
      intro i v4_2 v4_3 I4 hd4 hi hpi hdc hdg e_v4_2 e_v4_3 e_I4
      replace e_v4_2 := e_v4_2.symm; subst e_v4_2
      replace e_v4_3 := e_v4_3.symm; subst e_v4_3
      replace e_I4 := e_I4.symm; subst e_I4
      refine z_iload_n C dX5_readNumber_4 rfl 3 rfl ?_
      refine z_iload_n C dX5_readNumber_5 rfl 1 rfl ?_
      refine z_icmp_ge_n i m (tgt := 86) C rfl rfl (by omega) (by omega) dX5_readNumber_6 (by decide) (fun c6 => ?_) (fun c6 => ?_)
      · skip
        have hke : zDc c m p = i := by
          rw [show m - i = 0 by omega, zDc] at hdc; omega
        refine z_iload_n C dX5_readNumber_86 rfl 2 rfl ?_
        refine z_iret C hr rfl dX5_readNumber_87 ?_
        refine ⟨_, rfl, ?_⟩
        exact ⟨by rw [zNu, hke], by rw [hke], rfl⟩
      · skip
        refine z_aload_n C dX5_readNumber_9 rfl 0 rfl ?_
        refine z_geti C ff_X5_24 2 (by decide) sh2 rfl (v := nI (p + i)) (by first | exact rfl | (simp [zup, zupJ, upd, vp_updL]; exact rfl)) dX5_readNumber_10 ?_
        refine z_aload_n C dX5_readNumber_13 rfl 0 rfl ?_
        refine z_geti C ff_X5_15 2 (by decide) sh2 rfl (v := nI L) (by first | exact hL | (simp [zup, zupJ, upd, vp_updL]; exact hL)) dX5_readNumber_14 ?_
        refine z_icmp_ge_n (p + i) L (tgt := 86) C rfl rfl (by omega) (by omega) dX5_readNumber_17 (by decide) (fun c17 => ?_) (fun c17 => ?_)
        · skip
          have hke : zDc c m p = i := by
            rw [show m - i = m - i - 1 + 1 by omega, zDc, cif_f (by rw [hBe (p + i) (by omega)]; unfold zDi; omega)] at hdc; omega
          refine z_iload_n C dX5_readNumber_86 rfl 2 rfl ?_
          refine z_iret C hr rfl dX5_readNumber_87 ?_
          refine ⟨_, rfl, ?_⟩
          exact ⟨by rw [zNu, hke], by rw [hke], rfl⟩
        · skip
          have hb := hBy (p + i) (by omega)
          have hvl := zDv_lt (c := c) (p := p) i hdg
          have hv3 : 10 ^ i ≤ 10 ^ 3 := Nat.pow_le_pow_right (by decide) (by omega)
          refine z_aload_n C dX5_readNumber_20 rfl 0 rfl ?_
          refine z_getr C ff_X5_9 2 (by decide) sh2 rfl dX5_readNumber_21 ?_
          refine z_aload_n C dX5_readNumber_24 rfl 0 rfl ?_
          refine z_geti C ff_X5_24 2 (by decide) sh2 rfl (v := nI (p + i)) (by first | exact rfl | (simp [zup, zupJ, upd, vp_updL]; exact rfl)) dX5_readNumber_25 ?_
          refine z_iald C 3 (by decide) sh3 (p + i) (by omega) (by decide) rfl (v := nI (c (p + i))) (by first | exact hb.1 | (simp [zup, zupJ, upd, vp_updL]; exact hb.1)) dX5_readNumber_28 ?_
          refine z_bipush C (v := 48) dX5_readNumber_29 (by decide) ?_
          refine z_icmp_lt_n (c (p + i)) 48 (tgt := 86) C rfl rfl (by omega) (by omega) dX5_readNumber_31 (by decide) (fun c31 => ?_) (fun c31 => ?_)
          · skip
            have hke : zDc c m p = i := by
              rw [show m - i = m - i - 1 + 1 by omega, zDc, cif_f (by unfold zDi; omega)] at hdc; omega
            refine z_iload_n C dX5_readNumber_86 rfl 2 rfl ?_
            refine z_iret C hr rfl dX5_readNumber_87 ?_
            refine ⟨_, rfl, ?_⟩
            exact ⟨by rw [zNu, hke], by rw [hke], rfl⟩
          · skip
            refine z_aload_n C dX5_readNumber_34 rfl 0 rfl ?_
            refine z_getr C ff_X5_9 2 (by decide) sh2 rfl dX5_readNumber_35 ?_
            refine z_aload_n C dX5_readNumber_38 rfl 0 rfl ?_
            refine z_geti C ff_X5_24 2 (by decide) sh2 rfl (v := nI (p + i)) (by first | exact rfl | (simp [zup, zupJ, upd, vp_updL]; exact rfl)) dX5_readNumber_39 ?_
            refine z_iald C 3 (by decide) sh3 (p + i) (by omega) (by decide) rfl (v := nI (c (p + i))) (by first | exact hb.1 | (simp [zup, zupJ, upd, vp_updL]; exact hb.1)) dX5_readNumber_42 ?_
            refine z_bipush C (v := 57) dX5_readNumber_43 (by decide) ?_
            refine z_icmp_gt_n (c (p + i)) 57 (tgt := 86) C rfl rfl (by omega) (by omega) dX5_readNumber_45 (by decide) (fun c45 => ?_) (fun c45 => ?_)
            · skip
              have hke : zDc c m p = i := by
                rw [show m - i = m - i - 1 + 1 by omega, zDc, cif_f (by unfold zDi; omega)] at hdc; omega
              refine z_iload_n C dX5_readNumber_86 rfl 2 rfl ?_
              refine z_iret C hr rfl dX5_readNumber_87 ?_
              refine ⟨_, rfl, ?_⟩
              exact ⟨by rw [zNu, hke], by rw [hke], rfl⟩
            · skip
              have hdi : zDi (c (p + i)) := ⟨by omega, by omega⟩
              refine z_iload_n C dX5_readNumber_48 rfl 2 rfl ?_
              refine z_iconst C (v := 0) dX5_readNumber_49 (by decide) ?_
              refine z_max C hm ml_X5_73 st_max in_math co_max (Nat.le_of_ble_eq_true rfl) (Nat.le_of_ble_eq_true rfl) dX5_readNumber_50 ?_
              refine z_ti (y := nI (zDv c p i)) (by
                  by_cases q : i = 0
                  · subst q; rfl
                  · rw [if_neg q]; exact max0 (by omega)) ?_
              refine z_bipush C (v := 10) dX5_readNumber_53 (by decide) ?_
              refine z_imul C dX5_readNumber_55 ?_
              refine z_ti (y := nI ((zDv c p i) * 10)) (pk_mul (zDv c p i) 10) ?_
              refine z_ti (y := nI (zDv c p i * 10)) rfl ?_
              refine z_aload_n C dX5_readNumber_56 rfl 0 rfl ?_
              refine z_getr C ff_X5_9 2 (by decide) sh2 rfl dX5_readNumber_57 ?_
              refine z_aload_n C dX5_readNumber_60 rfl 0 rfl ?_
              refine z_geti C ff_X5_24 2 (by decide) sh2 rfl (v := nI (p + i)) (by first | exact rfl | (simp [zup, zupJ, upd, vp_updL]; exact rfl)) dX5_readNumber_61 ?_
              refine z_iald C 3 (by decide) sh3 (p + i) (by omega) (by decide) rfl (v := nI (c (p + i))) (by first | exact hb.1 | (simp [zup, zupJ, upd, vp_updL]; exact hb.1)) dX5_readNumber_64 ?_
              refine z_iadd C dX5_readNumber_65 ?_
              refine z_ti (y := nI (zDv c p i * 10 + (c (p + i)))) (nI_add (zDv c p i * 10) (c (p + i))) ?_
              refine z_bipush C (v := 48) dX5_readNumber_66 (by decide) ?_
              refine z_isub C dX5_readNumber_68 ?_
              refine z_ti (y := nI (zDv c p i * 10 + (c (p + i) - 48))) (by
                  have e := pk_sub (a := zDv c p i * 10 + c (p + i)) (b := 48) (by omega)
                  rw [show zDv c p i * 10 + (c (p + i) - 48) = zDv c p i * 10 + c (p + i) - 48 by omega]; exact e) ?_
              refine z_istore_n C hm (lv' := [(2, .int (nI (zDv c p i * 10 + (c (p + i) - 48)))), (0, .ref (zad w 2)), (1, .int (nI m)), (3, .int (nI i))]) dX5_readNumber_69 rfl (by decide) rfl ?_
              refine z_aload_n C dX5_readNumber_70 rfl 1 rfl ?_
              refine z_dup C dX5_readNumber_71 rfl ?_
              refine z_geti C ff_X5_24 2 (by decide) sh2 rfl (v := nI (p + i)) (by first | exact rfl | (simp [zup, zupJ, upd, vp_updL]; exact rfl)) dX5_readNumber_72 ?_
              refine z_iconst C (v := 1) dX5_readNumber_75 (by decide) ?_
              refine z_iadd C dX5_readNumber_76 ?_
              refine z_ti (y := nI ((p + i) + 1)) (nI_add (p + i) 1) ?_
              refine z_puti C ff_X5_24 2 (by decide) sh2 rfl rfl rfl dX5_readNumber_77 ?_
              refine z_I (I' := zup I 2 (upd (upd (I 2) 2 (nI (p + i))) 2 (nI ((p + i) + 1)))) (by rw [zup_s, zup_up]) ?_
              refine z_iinc C hm 3 (v := nI (i + 1)) (lv' := [(3, .int (nI (i + 1))), (2, .int (nI (zDv c p i * 10 + (c (p + i) - 48)))), (0, .ref (zad w 2)), (1, .int (nI m))]) dX5_readNumber_80 rfl (nI_add i 1) (by decide) rfl ?_
              refine z_goto (tgt := 4) C dX5_readNumber_83 (by decide) ?_
              exact z_sub [2, 3, 1, 0] rfl (ih4  (i + 1) _ _ _ (by omega) (by omega) (by omega) (by rw [show m - i = m - (i + 1) + 1 by omega, zDc, cif_t hdi] at hdc; rw [show p + (i + 1) = p + i + 1 by omega]; omega) (lt_s hdg hdi) (by rw [if_neg (by omega)]; rfl) rfl (by rw [upd_2]; rfl))
  exact z_sub [2, 3, 1, 0] rfl (L4 _ 0 _ _ _ (Nat.lt_succ_self _) (by omega) (by omega) (by rw [Nat.sub_zero, Nat.add_zero, Nat.add_zero]) (fun _ h0 => absurd h0 (Nat.not_lt_zero _)) rfl rfl (by rw [Nat.add_zero, ← hp, upd_id, zup_id]))
abbrev rm_X5_readSign : Room := { frames := 8, cells := 0, slots := 0, locals := 285 }
set_option maxRecDepth 100000 in
set_option maxHeartbeats 4000000 in
theorem k_X5_readSign (w : zW) (I : zI) (J : zJ) (i : Nat) (c : Nat → Nat) (L p : Nat)  (hi : i < 7) (hL : I 2 1 = nI L) (hl : L ≤ 100) (hp : I 2 2 = nI p) (hpl : p ≤ L) (hBy : ∀ q, q < L → I 3 q = nI (c q) ∧ c q < 256) (hBe : ∀ q, L ≤ q → c q = 300) : zMet yX5_readSign cX5_readSign 3 (some .int) rm_X5_readSign w [.ref (zad w 2), .ref (w.2.2.2.1 i)] I J (zpi (fun v I' J' => v = (match zWh i (c p) (zLen.getD i 0) 0 with | none => -1 | some k => nI k) ∧ I' = (match zWh i (c p) (zLen.getD i 0) 0 with | none => I | some _ => zup I 2 (upd (I 2) 2 (nI (p + 1)))) ∧ J' = J)) := by
  refine zMet_of (by decide) (Nat.le_of_ble_eq_true rfl) (fun X C hm hr => ?_)
  refine z_sub (lv' := [(0, .ref (zad w 2)), (1, .ref (w.2.2.2.1 i))]) [0, 1] rfl ?_
  have h5 := zLen_le i hi
  refine z_iconst C (v := 0) dX5_readSign_0 (by decide) ?_
  refine z_istore_n C hm (lv' := [(2, .int 0), (0, .ref (zad w 2)), (1, .ref (w.2.2.2.1 i))]) dX5_readSign_1 rfl (by decide) rfl ?_
  have L2 : ∀ (d : Nat) (k : Nat) (v2_2 : Int32), (zLen.getD i 0 - k) < d → (k ≤ zLen.getD i 0) → (zWh i (c p) (zLen.getD i 0 - k) k = zWh i (c p) (zLen.getD i 0) 0) → v2_2 = nI k → Z X w I J 2 [(0, .ref (zad w 2)), (1, .ref (w.2.2.2.1 i)), (2, .int v2_2)] [] := by
    intro d
    induction d with
    | zero => intro k v2_2 hd; exact absurd hd (Nat.not_lt_zero _)
    | succ d ih2 => 
      intro k v2_2 hd2 hk hw e_v2_2
      replace e_v2_2 := e_v2_2.symm; subst e_v2_2
      refine z_iload_n C dX5_readSign_2 rfl 2 rfl ?_
      refine z_aload_n C dX5_readSign_3 rfl 1 rfl ?_
      refine z_callTi C hm cl_X5_65 cv_J0_length_8abf5 i hi rfl [] rfl (rest := [.int (nI k)]) rfl (k_J0_length_8abf5 w _ _ i  hi) ⟨rfl, rfl, Nat.le_of_ble_eq_true rfl, Nat.le_of_ble_eq_true rfl⟩ (Nat.le_of_ble_eq_true rfl) dX5_readSign_4 (fun v_1 I_1 J_1 h_1 => ?_)
      obtain ⟨ev_1, ei_1, ej_1⟩ := h_1
      replace ev_1 := ev_1.symm; subst ev_1
      replace ei_1 := ei_1.symm; subst ei_1
      replace ej_1 := ej_1.symm; subst ej_1
      refine z_icmp_ge_n k (zLen.getD i 0) (tgt := 56) C rfl rfl (by omega) (by omega) dX5_readSign_7 (by decide) (fun c7 => ?_) (fun c7 => ?_)
      · skip
        have hno : zWh i (c p) (zLen.getD i 0) 0 = none := by rw [← hw, show zLen.getD i 0 - k = 0 by omega, zWh]
        refine z_iconst C (v := -1) dX5_readSign_56 (by decide) ?_
        refine z_iret C hr rfl dX5_readSign_57 ?_
        refine ⟨_, rfl, ?_⟩
        rw [hno]; exact ⟨rfl, rfl, rfl⟩
      · skip
        have hkk : zLen.getD i 0 - k = zLen.getD i 0 - k - 1 + 1 := by omega
        have hsi := zSi_ok i hi k (by omega)
        refine z_aload_n C dX5_readSign_10 rfl 0 rfl ?_
        refine z_geti C ff_X5_24 2 (by decide) sh2 rfl (v := nI p) hp dX5_readSign_11 ?_
        refine z_aload_n C dX5_readSign_14 rfl 0 rfl ?_
        refine z_geti C ff_X5_15 2 (by decide) sh2 rfl (v := nI L) hL dX5_readSign_15 ?_
        refine z_icmp_ge_n p L (tgt := 56) C rfl rfl (by omega) (by omega) dX5_readSign_18 (by decide) (fun c18 => ?_) (fun c18 => ?_)
        · skip
          have hno : zWh i (c p) (zLen.getD i 0) 0 = none := by
            have hall : ∀ f k, k + f = zLen.getD i 0 → zWh i (c p) f k = none := by
              intro f; induction f with
              | zero => intro k _; rfl
              | succ f ih =>
                intro k hk2
                have h1 := zSi_ok i hi k (by omega)
                have h2 := hBe p (by omega)
                rw [zWh, if_neg (by omega), ih (k + 1) (by omega)]
            exact hall _ 0 (by omega)
          refine z_iconst C (v := -1) dX5_readSign_56 (by decide) ?_
          refine z_iret C hr rfl dX5_readSign_57 ?_
          refine ⟨_, rfl, ?_⟩
          rw [hno]; exact ⟨rfl, rfl, rfl⟩
        · skip
          refine z_aload_n C dX5_readSign_21 rfl 0 rfl ?_
          refine z_getr C ff_X5_9 2 (by decide) sh2 rfl dX5_readSign_22 ?_
          refine z_aload_n C dX5_readSign_25 rfl 0 rfl ?_
          refine z_geti C ff_X5_24 2 (by decide) sh2 rfl (v := nI p) hp dX5_readSign_26 ?_
          refine z_iald C 3 (by decide) sh3 p (by omega) (by decide) rfl (v := nI (c p)) (hBy p (by omega)).1 dX5_readSign_29 ?_
          refine z_aload_n C dX5_readSign_30 rfl 1 rfl ?_
          refine z_iload_n C dX5_readSign_31 rfl 2 rfl ?_
          refine z_callTi C hm cl_X5_69 cv_J0_charAt_5068e i hi rfl [.int (nI k)] rfl (rest := [.int (nI (c p))]) rfl (k_J0_charAt_5068e w _ _ i k hi (by omega)) ⟨rfl, rfl, Nat.le_of_ble_eq_true rfl, Nat.le_of_ble_eq_true rfl⟩ (Nat.le_of_ble_eq_true rfl) dX5_readSign_32 (fun v_2 I_2 J_2 h_2 => ?_)
          obtain ⟨ev_2, ei_2, ej_2⟩ := h_2
          replace ev_2 := ev_2.symm; subst ev_2
          replace ei_2 := ei_2.symm; subst ei_2
          replace ej_2 := ej_2.symm; subst ej_2
          refine z_ti (y := nI (zSi i k)) hsi.1 ?_
          refine z_icmp_ne_n (c p) (zSi i k) (tgt := 50) C rfl rfl (by have := (hBy p (by omega)).2; omega) (by omega) dX5_readSign_35 (by decide) (fun c35 => ?_) (fun c35 => ?_)
          · skip
            refine z_iinc C hm 2 (v := nI (k + 1)) (lv' := [(2, .int (nI (k + 1))), (0, .ref (zad w 2)), (1, .ref (w.2.2.2.1 i))]) dX5_readSign_50 rfl (nI_add k 1) (by decide) rfl ?_
            refine z_goto (tgt := 2) C dX5_readSign_53 (by decide) ?_
            exact z_sub [1, 2, 0] rfl (ih2  (k + 1) _ (by omega) (by omega) (by rw [hkk, zWh, if_neg c35] at hw; rw [show zLen.getD i 0 - (k + 1) = zLen.getD i 0 - k - 1 by omega]; exact hw) rfl)
          · skip
            have hyes : zWh i (c p) (zLen.getD i 0) 0 = some k := by rw [← hw, hkk, zWh, if_pos c35]
            refine z_aload_n C dX5_readSign_38 rfl 0 rfl ?_
            refine z_dup C dX5_readSign_39 rfl ?_
            refine z_geti C ff_X5_24 2 (by decide) sh2 rfl (v := nI p) hp dX5_readSign_40 ?_
            refine z_iconst C (v := 1) dX5_readSign_43 (by decide) ?_
            refine z_iadd C dX5_readSign_44 ?_
            refine z_ti (y := nI (p + 1)) (nI_add p 1) ?_
            refine z_puti C ff_X5_24 2 (by decide) sh2 rfl rfl rfl dX5_readSign_45 ?_
            refine z_I (I' := zup I 2 (upd (I 2) 2 (nI (p + 1)))) rfl ?_
            refine z_iload_n C dX5_readSign_48 rfl 2 rfl ?_
            refine z_iret C hr rfl dX5_readSign_49 ?_
            refine ⟨_, rfl, ?_⟩
            rw [hyes]; exact ⟨rfl, rfl, rfl⟩
  exact z_sub [1, 2, 0] rfl (L2 _ 0 _ (Nat.lt_succ_self _) (by omega) rfl rfl)
