/-! the reference: how news comes, step by step, in just so many steps -/
def mst (m : Nat) (G : Nat → Nat → Nat) (T : Nat → Nat) : Nat → Nat → Nat
  | 0, _ => zFar
  | a + 1, b => if zb m a = true ∨ zFar ≤ T a then mst m G T a b else min (mst m G T a b) (T a + G a b)
def hD (m n : Nat) (G : Nat → Nat → Nat) (T : Nat → Nat) : Nat → Nat → Nat
  | 0 => T
  | k + 1 => fun b => mst m G (hD m n G T k) n b
def eM (f : Nat → Nat) : Nat → Nat
  | 0 => zFar
  | j + 1 => min (eM f j) (f j)
theorem mst_le {m : Nat} {G : Nat → Nat → Nat} {T : Nat → Nat} {b : Nat} : ∀ a, mst m G T a b ≤ zFar
  | 0 => Nat.le_refl _
  | a + 1 => by
    rw [mst]; split
    · exact mst_le a
    · exact Nat.le_trans (Nat.min_le_left _ _) (mst_le a)
theorem hD_le {m n : Nat} {G : Nat → Nat → Nat} {T : Nat → Nat} (hT : ∀ b, T b ≤ zFar) : ∀ k b, hD m n G T k b ≤ zFar
  | 0, b => hT b
  | k + 1, b => mst_le n
theorem eM_le {f : Nat → Nat} : ∀ j, eM f j ≤ zFar
  | 0 => Nat.le_refl _
  | j + 1 => by rw [eM]; exact Nat.le_trans (Nat.min_le_left _ _) (eM_le j)
theorem stp_mst {m : Nat} {G : Nat → Nat → Nat} {T : Nat → Nat} {b : Nat} (hT : T b ≤ zFar) : ∀ a, stp m G T a b = min (T b) (mst m G T a b)
  | 0 => by rw [stp, mst, Nat.min_eq_left hT]
  | a + 1 => by
    rw [stp, mst, stp_mst hT a]
    split
    · rfl
    · rw [Nat.min_assoc]
theorem mst_min {m : Nat} {G : Nat → Nat → Nat} {T U : Nat → Nat} {b : Nat} (hT : ∀ a, T a ≤ zFar) (hU : ∀ a, U a ≤ zFar) : ∀ a, mst m G (fun x => min (T x) (U x)) a b = min (mst m G T a b) (mst m G U a b)
  | 0 => by rw [mst, mst, mst, Nat.min_self]
  | a + 1 => by
    have ih := mst_min (m := m) (G := G) (b := b) hT hU a
    have h1 := hT a
    have h2 := hU a
    have h3 := mst_le (m := m) (G := G) (T := T) (b := b) a
    have h4 := mst_le (m := m) (G := G) (T := U) (b := b) a
    rw [mst, mst, mst, ih]
    by_cases z : zb m a = true
    · rw [if_pos (Or.inl z), if_pos (Or.inl z), if_pos (Or.inl z)]
    · by_cases x : zFar ≤ T a
      · by_cases y : zFar ≤ U a
        · rw [if_pos (Or.inr (by omega)), if_pos (Or.inr x), if_pos (Or.inr y)]
        · rw [if_neg (fun q => q.elim z (by omega)), if_pos (Or.inr x), if_neg (fun q => q.elim z y)]; omega
      · by_cases y : zFar ≤ U a
        · rw [if_neg (fun q => q.elim z (by omega)), if_neg (fun q => q.elim z x), if_pos (Or.inr y)]; omega
        · rw [if_neg (fun q => q.elim z (by omega)), if_neg (fun q => q.elim z x), if_neg (fun q => q.elim z y)]; omega
theorem mst_far {m : Nat} {G : Nat → Nat → Nat} {b : Nat} : ∀ a, mst m G (fun _ => zFar) a b = zFar
  | 0 => rfl
  | a + 1 => by rw [mst, if_pos (Or.inr (Nat.le_refl _)), mst_far a]
theorem mst_e {m : Nat} {G : Nat → Nat → Nat} {T : Nat → Nat} {a b : Nat} (h : G a b = zFar) : mst m G T (a + 1) b = mst m G T a b := by
  have := mst_le (m := m) (G := G) (T := T) (b := b) a
  rw [mst]; split
  · rfl
  · rw [h, Nat.min_eq_left (by omega)]
def fD (f : Nat → Nat) : Nat → Nat
  | 0 => zFar
  | j + 1 => min (fD f j) (f (j + 1))
theorem fD_le {f : Nat → Nat} : ∀ j, fD f j ≤ zFar
  | 0 => Nat.le_refl _
  | j + 1 => by rw [fD]; exact Nat.le_trans (Nat.min_le_left _ _) (fD_le j)
theorem eM_fD {f : Nat → Nat} (h : f 0 ≤ zFar) : ∀ k, eM f (k + 1) = min (f 0) (fD f k)
  | 0 => by rw [eM, eM, fD, Nat.min_comm]
  | k + 1 => by
    rw [eM, eM_fD h k, fD, Nat.min_assoc]
theorem mst_eM {m n : Nat} {G : Nat → Nat → Nat} {T : Nat → Nat} {b : Nat} (hT : ∀ b, T b ≤ zFar) : ∀ k, mst m G (fun x => eM (fun j => hD m n G T j x) k) n b = fD (fun j => hD m n G T j b) k
  | 0 => mst_far n
  | k + 1 => by
    have := mst_min (m := m) (G := G) (b := b) (T := fun x => eM (fun j => hD m n G T j x) k) (U := hD m n G T k) (fun x => eM_le k) (hD_le hT k) n
    rw [fD, ← mst_eM hT k]
    exact this
theorem hsq_eM {m n : Nat} {G : Nat → Nat → Nat} {T : Nat → Nat} (hT : ∀ b, T b ≤ zFar) : ∀ k b, hsq m n G T k b = eM (fun j => hD m n G T j b) (k + 1)
  | 0, b => by
    show T b = min zFar (T b)
    rw [Nat.min_eq_right (hT b)]
  | k + 1, b => by
    have ih := fun b => hsq_eM (m := m) (n := n) (G := G) hT k b
    have hf : hsq m n G T k = fun x => eM (fun j => hD m n G T j x) (k + 1) := funext ih
    rw [hsq]
    show stp m G (hsq m n G T k) n b = _
    rw [stp_mst (by rw [ih b]; exact eM_le _) n, hf]
    show min (eM (fun j => hD m n G T j b) (k + 1)) (mst m G (fun x => eM (fun j => hD m n G T j x) (k + 1)) n b) = _
    rw [mst_eM hT (k + 1), eM_fD (f := fun j => hD m n G T j b) (hT b) k, eM_fD (f := fun j => hD m n G T j b) (hT b) (k + 1), fD]
    omega
theorem eM_ern {m n : Nat} {jn : Nat → Int32} {A : List zCla} {hd : Nat → Option Nat} {a : Nat} (h : ∀ a k, hd a = some k → k ≤ 99) : eM (fun k => hD m n (zGt jn A) (zT0 hd) k a) (aSteps A + 1) = ern m n jn A hd a := (hsq_eM (fun b => zT0_le h b) (aSteps A) a).symm
/-- the hours are laid -/
def zLh (I' I : zI) (n : Nat) (A : List zCla) (jn : Nat → Int32) : Prop := I' 82 = upd (I 82) 25 (nI (aSteps A)) ∧ (∀ k, k ≠ 82 → k ≠ 94 → k ≠ 95 → k ≠ 96 → I' k = I k) ∧ ∀ x y, x < n → y < n → I' 96 (8 * x + y) = oI (aGo jn A x y)
theorem aLast_9s {A : List zCla} (h : aOk A) : aLast 4 A 9 ≤ 999 := aLast_le (fun q hq => (h.2 q hq).2.1) (by decide)
abbrev rm_X8_layHours : Room := { frames := 6, cells := 0, slots := 0, locals := 250 }
set_option maxRecDepth 100000 in
set_option maxHeartbeats 4000000 in
theorem k_X8_layHours (w : zW) (I : zI) (J : zJ) (n h : Nat) (A : List zCla) (jn : Nat → Int32)  (hN : I 82 0 = nI n) (hn : n ≤ 8) (hh : h < 7) (hM : mHeld I h A) (hJn : ∀ k, k < 64 → I 84 k = jn k) (hDg : ∀ a, a < 8 → jn (a * 8 + a) = 0) : zMet yX8_layHours cX8_layHours 3 none rm_X8_layHours w [.ref (zad w 82)] I J (zpv (fun I' J' => zLh I' I n A jn ∧ J' = J)) := by
  refine zMet_of (by decide) (Nat.le_of_ble_eq_true rfl) (fun X C hm hr => ?_)
  refine z_sub (lv' := [(0, .ref (zad w 82))]) [0] rfl ?_
  have hA10 := (mHeld_ok hM).1
  refine z_aload_n C dX8_layHours_0 rfl 0 rfl ?_
  refine z_aload_n C dX8_layHours_1 rfl 0 rfl ?_
  refine z_iconst C (v := 4) dX8_layHours_2 (by decide) ?_
  refine z_bipush C (v := 9) dX8_layHours_3 (by decide) ?_
  refine z_callVi C hm cl_X8_271 cv_X8_last 82 (by decide) sh82 ⟨_, _, rfl⟩ [.int 4, .int 9] rfl (rest := [.ref (zad w 82)]) rfl (k_X8_last w _ _ h A 4 9 hh hM (by decide) (by decide)) ⟨rfl, rfl, Nat.le_of_ble_eq_true rfl, Nat.le_of_ble_eq_true rfl⟩ (Nat.le_of_ble_eq_true rfl) dX8_layHours_5 (fun v_1 I_1 J_1 h_1 => ?_)
  obtain ⟨ev_1, ei_1, ej_1⟩ := h_1
  replace ev_1 := ev_1.symm; subst ev_1
  replace ei_1 := ei_1.symm; subst ei_1
  replace ej_1 := ej_1.symm; subst ej_1
  refine z_bipush C (v := 9) dX8_layHours_8 (by decide) ?_
  refine z_icmp_le_n (aLast 4 A 9) 9 (tgt := 18) C rfl rfl (by have := aLast_9s (mHeld_ok hM); omega) (by omega) dX8_layHours_10 (by decide) (fun c10 => ?_) (fun c10 => ?_)
  · skip
    refine z_aload_n C dX8_layHours_18 rfl 0 rfl ?_
    refine z_iconst C (v := 4) dX8_layHours_19 (by decide) ?_
    refine z_bipush C (v := 9) dX8_layHours_20 (by decide) ?_
    refine z_callVi C hm cl_X8_271 cv_X8_last 82 (by decide) sh82 ⟨_, _, rfl⟩ [.int 4, .int 9] rfl (rest := [.ref (zad w 82)]) rfl (k_X8_last w _ _ h A 4 9 hh hM (by decide) (by decide)) ⟨rfl, rfl, Nat.le_of_ble_eq_true rfl, Nat.le_of_ble_eq_true rfl⟩ (Nat.le_of_ble_eq_true rfl) dX8_layHours_22 (fun v_2 I_2 J_2 h_2 => ?_)
    obtain ⟨ev_2, ei_2, ej_2⟩ := h_2
    replace ev_2 := ev_2.symm; subst ev_2
    replace ei_2 := ei_2.symm; subst ei_2
    replace ej_2 := ej_2.symm; subst ej_2
    refine z_ti (y := nI (aSteps A)) (by rw [aSteps, Nat.min_eq_left (by omega)]) ?_
    refine z_puti C ff_X8_87 82 (by decide) sh82 rfl rfl rfl dX8_layHours_25 ?_
    refine z_I (I' := zup I 82 (upd (I 82) 25 (nI (aSteps A)))) rfl ?_
    refine z_iconst C (v := 0) dX8_layHours_28 (by decide) ?_
    refine z_istore_n C hm (lv' := [(1, .int 0), (0, .ref (zad w 82))]) dX8_layHours_29 rfl (by decide) rfl ?_
    have L30 : ∀ (d : Nat) (a : Nat) (K : zI) (v30_1 : Int32) (I30 : zI), (n - a) < d → (a ≤ n) → (K 82 = upd (I 82) 25 (nI (aSteps A))) → (∀ k, k ≠ 82 → k ≠ 94 → k ≠ 95 → k ≠ 96 → K k = I k) → (∀ x y, x < a → y < n → K 96 (8 * x + y) = oI (aGo jn A x y)) → v30_1 = nI a → I30 = K → Z X w I30 J 30 [(0, .ref (zad w 82)), (1, .int v30_1)] [] := by
      intro d
      induction d with
      | zero => intro a K v30_1 I30 hd; exact absurd hd (Nat.not_lt_zero _)
      | succ d ih30 => 
        intro a K v30_1 I30 hd30 ha hK82 hKf hKr e_v30_1 e_I30
        replace e_v30_1 := e_v30_1.symm; subst e_v30_1
        replace e_I30 := e_I30.symm; subst e_I30
        have hKn : K 82 0 = nI n := by rw [hK82, upd_n (by decide)]; exact hN
        have hKM : mHeld K h A := mHeld_f (by rw [hK82, upd_n (by decide)]) (fun k h1 h2 => hKf k (by omega) (by omega) (by omega) (by omega)) hM
        have hKJ : ∀ k, k < 64 → K 84 k = jn k := fun k hk => by rw [hKf 84 (by decide) (by decide) (by decide) (by decide)]; exact hJn k hk
        refine z_iload_n C dX8_layHours_30 rfl 1 rfl ?_
        refine z_aload_n C dX8_layHours_31 rfl 0 rfl ?_
        refine z_geti C ff_X8_7 82 (by decide) sh82 rfl (v := nI n) hKn dX8_layHours_32 ?_
        refine z_icmp_ge_n a n (tgt := 77) C rfl rfl (by omega) (by omega) dX8_layHours_35 (by decide) (fun c35 => ?_) (fun c35 => ?_)
        · skip
          have han : a = n := by omega
          refine z_vret C hr dX8_layHours_77 ?_
          refine ⟨rfl, ?_⟩
          exact ⟨⟨hK82, hKf, fun x y h1 h2 => hKr x y (by omega) h2⟩, rfl⟩
        · skip
          refine z_iconst C (v := 0) dX8_layHours_38 (by decide) ?_
          refine z_istore_n C hm (lv' := [(2, .int 0), (0, .ref (zad w 82)), (1, .int (nI a))]) dX8_layHours_39 rfl (by decide) rfl ?_
          have L40 : ∀ (d : Nat) (b : Nat) (Q : zI) (v40_2 : Int32) (I40 : zI), (n - b) < d → (b ≤ n) → (Q 82 = upd (I 82) 25 (nI (aSteps A))) → (∀ k, k ≠ 82 → k ≠ 94 → k ≠ 95 → k ≠ 96 → Q k = I k) → (∀ x y, (x < a ∧ y < n) ∨ (x = a ∧ y < b) → Q 96 (8 * x + y) = oI (aGo jn A x y)) → v40_2 = nI b → I40 = Q → Z X w I40 J 40 [(0, .ref (zad w 82)), (1, .int (nI a)), (2, .int v40_2)] [] := by
            intro d
            induction d with
            | zero => intro b Q v40_2 I40 hd; exact absurd hd (Nat.not_lt_zero _)
            | succ d ih40 => 
              intro b Q v40_2 I40 hd40 hb hQ82 hQf hQr e_v40_2 e_I40
              replace e_v40_2 := e_v40_2.symm; subst e_v40_2
              replace e_I40 := e_I40.symm; subst e_I40
              have hQn : Q 82 0 = nI n := by rw [hQ82, upd_n (by decide)]; exact hN
              have hQM : mHeld Q h A := mHeld_f (by rw [hQ82, upd_n (by decide)]) (fun k h1 h2 => hQf k (by omega) (by omega) (by omega) (by omega)) hM
              have hQJ : ∀ k, k < 64 → Q 84 k = jn k := fun k hk => by rw [hQf 84 (by decide) (by decide) (by decide) (by decide)]; exact hJn k hk
              refine z_iload_n C dX8_layHours_40 rfl 2 rfl ?_
              refine z_aload_n C dX8_layHours_41 rfl 0 rfl ?_
              refine z_geti C ff_X8_7 82 (by decide) sh82 rfl (v := nI n) hQn dX8_layHours_42 ?_
              refine z_icmp_ge_n b n (tgt := 71) C rfl rfl (by omega) (by omega) dX8_layHours_45 (by decide) (fun c45 => ?_) (fun c45 => ?_)
              · skip
                refine z_iinc C hm 1 (v := nI (a + 1)) (lv' := [(1, .int (nI (a + 1))), (0, .ref (zad w 82)), (2, .int (nI b))]) dX8_layHours_71 rfl (nI_add a 1) (by decide) rfl ?_
                refine z_goto (tgt := 30) C dX8_layHours_74 (by decide) ?_
                exact z_sub [1, 0] rfl (ih30  (a + 1) Q _ _ (by omega) (by omega) hQ82 hQf (fun x y h1 h2 => hQr x y (by omega)) rfl rfl)
              · skip
                refine z_aload_n C dX8_layHours_48 rfl 0 rfl ?_
                refine z_getr C ff_X8_78 82 (by decide) sh82 rfl dX8_layHours_49 ?_
                refine z_bipush C (v := 8) dX8_layHours_52 (by decide) ?_
                refine z_iload_n C dX8_layHours_54 rfl 1 rfl ?_
                refine z_imul C dX8_layHours_55 ?_
                refine z_ti (y := nI (8 * a)) (pk_mul 8 a) ?_
                refine z_iload_n C dX8_layHours_56 rfl 2 rfl ?_
                refine z_iadd C dX8_layHours_57 ?_
                refine z_ti (y := nI (8 * a + b)) (nI_add (8 * a) b) ?_
                refine z_aload_n C dX8_layHours_58 rfl 0 rfl ?_
                refine z_iload_n C dX8_layHours_59 rfl 1 rfl ?_
                refine z_iload_n C dX8_layHours_60 rfl 2 rfl ?_
                refine z_callVi C hm cl_X8_264 cv_X8_goesIn 82 (by decide) sh82 ⟨_, _, rfl⟩ [.int (nI a), .int (nI b)] rfl (rest := [.int (nI (8 * a + b)), .ref (zad w 96)]) rfl (k_X8_goesIn w _ _ h A jn a b (by omega) (by omega) hh hQM hQJ hDg) ⟨rfl, rfl, Nat.le_of_ble_eq_true rfl, Nat.le_of_ble_eq_true rfl⟩ (Nat.le_of_ble_eq_true rfl) dX8_layHours_61 (fun v_3 I_3 J_3 h_3 => ?_)
                obtain ⟨ev_3, hf_3, eJ_3⟩ := h_3
                replace ev_3 := ev_3.symm; subst ev_3
                replace eJ_3 := eJ_3.symm; subst eJ_3
                refine z_iast C 96 (by decide) sh96 (8 * a + b) (by omega) (by decide) rfl dX8_layHours_64 ?_
                refine z_I (I' := zup I_3 96 (upd (I_3 96) (8 * a + b) (oI (aGo jn A a b)))) rfl ?_
                refine z_iinc C hm 2 (v := nI (b + 1)) (lv' := [(2, .int (nI (b + 1))), (0, .ref (zad w 82)), (1, .int (nI a))]) dX8_layHours_65 rfl (nI_add b 1) (by decide) rfl ?_
                refine z_goto (tgt := 40) C dX8_layHours_68 (by decide) ?_
                exact z_sub [1, 2, 0] rfl (ih40  (b + 1) _ _ _ (by omega) (by omega) (by rw [zup_n (by decide), hf_3 82 (by decide) (by decide), hQ82]) (fun k h1 h2 h3 h4 => by rw [zup_n h4, hf_3 k h2 h3, hQf k h1 h2 h3 h4]) (fun x y hxy => by
                    rw [zup_s]
                    by_cases z : x = a ∧ y = b
                    · rw [z.1, z.2]; exact upd_s
                    · rw [upd_n (by omega), hf_3 96 (by decide) (by decide)]; exact hQr x y (by omega)) rfl rfl)
          exact z_sub [1, 2, 0] rfl (L40 _ 0 K _ _ (Nat.lt_succ_self _) (Nat.zero_le _) hK82 hKf (fun x y h1 => hKr x y (by omega) (by omega)) rfl rfl)
    exact z_sub [1, 0] rfl (L30 _ 0 _ _ _ (Nat.lt_succ_self _) (Nat.zero_le _) zup_s (fun k h1 _ _ _ => zup_n h1) (fun _ _ h0 => absurd h0 (Nat.not_lt_zero _)) rfl rfl)
  · skip
    refine z_bipush C (v := 9) dX8_layHours_13 (by decide) ?_
    refine z_ti (y := nI (aSteps A)) (by rw [aSteps, Nat.min_eq_right (by omega)]; rfl) ?_
    refine z_goto (tgt := 25) C dX8_layHours_15 (by decide) ?_
    refine z_puti C ff_X8_87 82 (by decide) sh82 rfl rfl rfl dX8_layHours_25 ?_
    refine z_I (I' := zup I 82 (upd (I 82) 25 (nI (aSteps A)))) rfl ?_
    refine z_iconst C (v := 0) dX8_layHours_28 (by decide) ?_
    refine z_istore_n C hm (lv' := [(1, .int 0), (0, .ref (zad w 82))]) dX8_layHours_29 rfl (by decide) rfl ?_
    have L30 : ∀ (d : Nat) (a : Nat) (K : zI) (v30_1 : Int32) (I30 : zI), (n - a) < d → (a ≤ n) → (K 82 = upd (I 82) 25 (nI (aSteps A))) → (∀ k, k ≠ 82 → k ≠ 94 → k ≠ 95 → k ≠ 96 → K k = I k) → (∀ x y, x < a → y < n → K 96 (8 * x + y) = oI (aGo jn A x y)) → v30_1 = nI a → I30 = K → Z X w I30 J 30 [(0, .ref (zad w 82)), (1, .int v30_1)] [] := by
      intro d
      induction d with
      | zero => intro a K v30_1 I30 hd; exact absurd hd (Nat.not_lt_zero _)
      | succ d ih30 => 
        intro a K v30_1 I30 hd30 ha hK82 hKf hKr e_v30_1 e_I30
        replace e_v30_1 := e_v30_1.symm; subst e_v30_1
        replace e_I30 := e_I30.symm; subst e_I30
        have hKn : K 82 0 = nI n := by rw [hK82, upd_n (by decide)]; exact hN
        have hKM : mHeld K h A := mHeld_f (by rw [hK82, upd_n (by decide)]) (fun k h1 h2 => hKf k (by omega) (by omega) (by omega) (by omega)) hM
        have hKJ : ∀ k, k < 64 → K 84 k = jn k := fun k hk => by rw [hKf 84 (by decide) (by decide) (by decide) (by decide)]; exact hJn k hk
        refine z_iload_n C dX8_layHours_30 rfl 1 rfl ?_
        refine z_aload_n C dX8_layHours_31 rfl 0 rfl ?_
        refine z_geti C ff_X8_7 82 (by decide) sh82 rfl (v := nI n) hKn dX8_layHours_32 ?_
        refine z_icmp_ge_n a n (tgt := 77) C rfl rfl (by omega) (by omega) dX8_layHours_35 (by decide) (fun c35 => ?_) (fun c35 => ?_)
        · skip
          have han : a = n := by omega
          refine z_vret C hr dX8_layHours_77 ?_
          refine ⟨rfl, ?_⟩
          exact ⟨⟨hK82, hKf, fun x y h1 h2 => hKr x y (by omega) h2⟩, rfl⟩
        · skip
          refine z_iconst C (v := 0) dX8_layHours_38 (by decide) ?_
          refine z_istore_n C hm (lv' := [(2, .int 0), (0, .ref (zad w 82)), (1, .int (nI a))]) dX8_layHours_39 rfl (by decide) rfl ?_
          have L40 : ∀ (d : Nat) (b : Nat) (Q : zI) (v40_2 : Int32) (I40 : zI), (n - b) < d → (b ≤ n) → (Q 82 = upd (I 82) 25 (nI (aSteps A))) → (∀ k, k ≠ 82 → k ≠ 94 → k ≠ 95 → k ≠ 96 → Q k = I k) → (∀ x y, (x < a ∧ y < n) ∨ (x = a ∧ y < b) → Q 96 (8 * x + y) = oI (aGo jn A x y)) → v40_2 = nI b → I40 = Q → Z X w I40 J 40 [(0, .ref (zad w 82)), (1, .int (nI a)), (2, .int v40_2)] [] := by
            intro d
            induction d with
            | zero => intro b Q v40_2 I40 hd; exact absurd hd (Nat.not_lt_zero _)
            | succ d ih40 => 
              intro b Q v40_2 I40 hd40 hb hQ82 hQf hQr e_v40_2 e_I40
              replace e_v40_2 := e_v40_2.symm; subst e_v40_2
              replace e_I40 := e_I40.symm; subst e_I40
              have hQn : Q 82 0 = nI n := by rw [hQ82, upd_n (by decide)]; exact hN
              have hQM : mHeld Q h A := mHeld_f (by rw [hQ82, upd_n (by decide)]) (fun k h1 h2 => hQf k (by omega) (by omega) (by omega) (by omega)) hM
              have hQJ : ∀ k, k < 64 → Q 84 k = jn k := fun k hk => by rw [hQf 84 (by decide) (by decide) (by decide) (by decide)]; exact hJn k hk
              refine z_iload_n C dX8_layHours_40 rfl 2 rfl ?_
              refine z_aload_n C dX8_layHours_41 rfl 0 rfl ?_
              refine z_geti C ff_X8_7 82 (by decide) sh82 rfl (v := nI n) hQn dX8_layHours_42 ?_
              refine z_icmp_ge_n b n (tgt := 71) C rfl rfl (by omega) (by omega) dX8_layHours_45 (by decide) (fun c45 => ?_) (fun c45 => ?_)
              · skip
                refine z_iinc C hm 1 (v := nI (a + 1)) (lv' := [(1, .int (nI (a + 1))), (0, .ref (zad w 82)), (2, .int (nI b))]) dX8_layHours_71 rfl (nI_add a 1) (by decide) rfl ?_
                refine z_goto (tgt := 30) C dX8_layHours_74 (by decide) ?_
                exact z_sub [1, 0] rfl (ih30  (a + 1) Q _ _ (by omega) (by omega) hQ82 hQf (fun x y h1 h2 => hQr x y (by omega)) rfl rfl)
              · skip
                refine z_aload_n C dX8_layHours_48 rfl 0 rfl ?_
                refine z_getr C ff_X8_78 82 (by decide) sh82 rfl dX8_layHours_49 ?_
                refine z_bipush C (v := 8) dX8_layHours_52 (by decide) ?_
                refine z_iload_n C dX8_layHours_54 rfl 1 rfl ?_
                refine z_imul C dX8_layHours_55 ?_
                refine z_ti (y := nI (8 * a)) (pk_mul 8 a) ?_
                refine z_iload_n C dX8_layHours_56 rfl 2 rfl ?_
                refine z_iadd C dX8_layHours_57 ?_
                refine z_ti (y := nI (8 * a + b)) (nI_add (8 * a) b) ?_
                refine z_aload_n C dX8_layHours_58 rfl 0 rfl ?_
                refine z_iload_n C dX8_layHours_59 rfl 1 rfl ?_
                refine z_iload_n C dX8_layHours_60 rfl 2 rfl ?_
                refine z_callVi C hm cl_X8_264 cv_X8_goesIn 82 (by decide) sh82 ⟨_, _, rfl⟩ [.int (nI a), .int (nI b)] rfl (rest := [.int (nI (8 * a + b)), .ref (zad w 96)]) rfl (k_X8_goesIn w _ _ h A jn a b (by omega) (by omega) hh hQM hQJ hDg) ⟨rfl, rfl, Nat.le_of_ble_eq_true rfl, Nat.le_of_ble_eq_true rfl⟩ (Nat.le_of_ble_eq_true rfl) dX8_layHours_61 (fun v_4 I_4 J_4 h_4 => ?_)
                obtain ⟨ev_4, hf_4, eJ_4⟩ := h_4
                replace ev_4 := ev_4.symm; subst ev_4
                replace eJ_4 := eJ_4.symm; subst eJ_4
                refine z_iast C 96 (by decide) sh96 (8 * a + b) (by omega) (by decide) rfl dX8_layHours_64 ?_
                refine z_I (I' := zup I_4 96 (upd (I_4 96) (8 * a + b) (oI (aGo jn A a b)))) rfl ?_
                refine z_iinc C hm 2 (v := nI (b + 1)) (lv' := [(2, .int (nI (b + 1))), (0, .ref (zad w 82)), (1, .int (nI a))]) dX8_layHours_65 rfl (nI_add b 1) (by decide) rfl ?_
                refine z_goto (tgt := 40) C dX8_layHours_68 (by decide) ?_
                exact z_sub [1, 2, 0] rfl (ih40  (b + 1) _ _ _ (by omega) (by omega) (by rw [zup_n (by decide), hf_4 82 (by decide) (by decide), hQ82]) (fun k h1 h2 h3 h4 => by rw [zup_n h4, hf_4 k h2 h3, hQf k h1 h2 h3 h4]) (fun x y hxy => by
                    rw [zup_s]
                    by_cases z : x = a ∧ y = b
                    · rw [z.1, z.2]; exact upd_s
                    · rw [upd_n (by omega), hf_4 96 (by decide) (by decide)]; exact hQr x y (by omega)) rfl rfl)
          exact z_sub [1, 2, 0] rfl (L40 _ 0 K _ _ (Nat.lt_succ_self _) (Nat.zero_le _) hK82 hKf (fun x y h1 => hKr x y (by omega) (by omega)) rfl rfl)
    exact z_sub [1, 0] rfl (L30 _ 0 _ _ _ (Nat.lt_succ_self _) (Nat.zero_le _) zup_s (fun k h1 _ _ _ => zup_n h1) (fun _ _ h0 => absurd h0 (Nat.not_lt_zero _)) rfl rfl)
theorem lt_u {R : Nat → Int32} {a : Nat} {x : Int32} {f : Nat → Nat} (h : ∀ x, x < a → R x = nI (f x)) (hx : x = nI (f a)) : ∀ y, y < a + 1 → upd R a x y = nI (f y) := fun y hy => by
  by_cases z : y = a
  · rw [z, hx]; exact upd_s
  · rw [upd_n z]; exact h y (by omega)
theorem oM_pos {o : Option Nat} (h : (0 : Int32) ≤ oM o) : oM o = nI (oF o) := by
  cases o with
  | none => exact absurd h (by decide)
  | some k => rfl
abbrev rm_X8_spread : Room := { frames := 5, cells := 0, slots := 0, locals := 222 }
set_option maxRecDepth 100000 in
set_option maxHeartbeats 4000000 in
theorem k_X8_spread (w : zW) (I : zI) (J : zJ) (n st : Nat) (A : List zCla) (jn : Nat → Int32) (hd : Nat → Option Nat) (m : Nat) (hm2 : m < 2 ^ 31) (hN : I 82 0 = nI n) (hn : n ≤ 8) (hSt : I 82 25 = nI st) (hst9 : st ≤ 9) (hHr : ∀ x y, x < n → y < n → I 96 (8 * x + y) = oI (aGo jn A x y)) (hA : aOk A) (hHd : ∀ a, a < n → I 85 a = oM (hd a)) (hd99 : ∀ a k, hd a = some k → k ≤ 99) : zMet yX8_spread cX8_spread 7 none rm_X8_spread w [.ref (zad w 82), .int (nI m)] I J (zpv (fun I' J' => (∃ R, I' = zup I 97 R ∧ ∀ k, k ≤ st → ∀ b, b < n → R (8 * k + b) = nI (hD m n (zGt jn A) (zT0 hd) k b)) ∧ J' = J)) := by
  refine zMet_of (by decide) (Nat.le_of_ble_eq_true rfl) (fun X C hm hr => ?_)
  refine z_sub (lv' := [(0, .ref (zad w 82)), (1, .int (nI m))]) [0, 1] rfl ?_
  have hzf : zFar = 1000000 := rfl
  have hHle := fun k b => hD_le (m := m) (n := n) (G := zGt jn A) (fun b => zT0_le hd99 b) k b
  have hMle := fun k a b => mst_le (m := m) (G := zGt jn A) (T := hD m n (zGt jn A) (zT0 hd) k) (b := b) a
  refine z_iconst C (v := 0) dX8_spread_0 (by decide) ?_
  refine z_istore_n C hm (lv' := [(2, .int 0), (0, .ref (zad w 82)), (1, .int (nI m))]) dX8_spread_1 rfl (by decide) rfl ?_
  have L2 : ∀ (d : Nat) (a : Nat) (R : Nat → Int32) (v2_2 : Int32) (I2 : zI), (n - a) < d → (a ≤ n) → (∀ x, x < a → R x = nI (zT0 hd x)) → v2_2 = nI a → I2 = zup I 97 R → Z X w I2 J 2 [(0, .ref (zad w 82)), (1, .int (nI m)), (2, .int v2_2)] [] := by
    intro d
    induction d with
    | zero => intro a R v2_2 I2 hd; exact absurd hd (Nat.not_lt_zero _)
    | succ d ih2 => 
      intro a R v2_2 I2 hd2 ha hR e_v2_2 e_I2
      replace e_v2_2 := e_v2_2.symm; subst e_v2_2
      replace e_I2 := e_I2.symm; subst e_I2
      refine z_iload_n C dX8_spread_2 rfl 2 rfl ?_
      refine z_aload_n C dX8_spread_3 rfl 0 rfl ?_
      refine z_geti C ff_X8_7 82 (by decide) sh82 rfl (v := nI n) (by first | exact hN | (simp [zup, zupJ, upd, vp_updL]; exact hN)) dX8_spread_4 ?_
      refine z_icmp_ge_n a n (tgt := 43) C rfl rfl (by omega) (by omega) dX8_spread_7 (by decide) (fun c7 => ?_) (fun c7 => ?_)
      · skip
        refine z_iconst C (v := 1) dX8_spread_43 (by decide) ?_
        refine z_istore_n C hm (lv' := [(2, .int 1), (0, .ref (zad w 82)), (1, .int (nI m))]) dX8_spread_44 rfl (by decide) rfl ?_
        have L45 : ∀ (d : Nat) (k : Nat) (R : Nat → Int32) (v45_2 : Int32) (I45 : zI), (st - k) < d → (k ≤ st) → (∀ j, j ≤ k → ∀ x, x < n → R (8 * j + x) = nI (hD m n (zGt jn A) (zT0 hd) j x)) → v45_2 = nI (k + 1) → I45 = zup I 97 R → Z X w I45 J 45 [(0, .ref (zad w 82)), (1, .int (nI m)), (2, .int v45_2)] [] := by
          intro d
          induction d with
          | zero => intro k R v45_2 I45 hd; exact absurd hd (Nat.not_lt_zero _)
          | succ d ih45 => 
            intro k R v45_2 I45 hd45 hk hR e_v45_2 e_I45
            replace e_v45_2 := e_v45_2.symm; subst e_v45_2
            replace e_I45 := e_I45.symm; subst e_I45
            refine z_iload_n C dX8_spread_45 rfl 2 rfl ?_
            refine z_aload_n C dX8_spread_46 rfl 0 rfl ?_
            refine z_geti C ff_X8_87 82 (by decide) sh82 rfl (v := nI st) (by first | exact hSt | (simp [zup, zupJ, upd, vp_updL]; exact hSt)) dX8_spread_47 ?_
            refine z_icmp_gt_n (k + 1) st (tgt := 204) C rfl rfl (by omega) (by omega) dX8_spread_50 (by decide) (fun c50 => ?_) (fun c50 => ?_)
            · skip
              have hke : k = st := by omega
              subst hke
              refine z_vret C hr dX8_spread_204 ?_
              refine ⟨rfl, ?_⟩
              exact ⟨⟨R, rfl, fun k2 h1 b2 h2 => hR k2 h1 b2 h2⟩, rfl⟩
            · skip
              refine z_iconst C (v := 0) dX8_spread_53 (by decide) ?_
              refine z_istore_n C hm (lv' := [(3, .int 0), (0, .ref (zad w 82)), (1, .int (nI m)), (2, .int (nI (k + 1)))]) dX8_spread_54 rfl (by decide) rfl ?_
              have L55 : ∀ (d : Nat) (b : Nat) (R2 : Nat → Int32) (v55_3 : Int32) (I55 : zI), (n - b) < d → (b ≤ n) → (∀ j, j ≤ k → ∀ x, x < n → R2 (8 * j + x) = nI (hD m n (zGt jn A) (zT0 hd) j x)) → (∀ x, x < b → R2 (8 * (k + 1) + x) = nI (hD m n (zGt jn A) (zT0 hd) (k + 1) x)) → v55_3 = nI b → I55 = zup I 97 R2 → Z X w I55 J 55 [(0, .ref (zad w 82)), (1, .int (nI m)), (2, .int (nI (k + 1))), (3, .int v55_3)] [] := by
                intro d
                induction d with
                | zero => intro b R2 v55_3 I55 hd; exact absurd hd (Nat.not_lt_zero _)
                | succ d ih55 => 
                  intro b R2 v55_3 I55 hd55 hb hR2 hR3 e_v55_3 e_I55
                  replace e_v55_3 := e_v55_3.symm; subst e_v55_3
                  replace e_I55 := e_I55.symm; subst e_I55
                  refine z_iload_n C dX8_spread_55 rfl 3 rfl ?_
                  refine z_aload_n C dX8_spread_56 rfl 0 rfl ?_
                  refine z_geti C ff_X8_7 82 (by decide) sh82 rfl (v := nI n) (by first | exact hN | (simp [zup, zupJ, upd, vp_updL]; exact hN)) dX8_spread_57 ?_
                  refine z_icmp_ge_n b n (tgt := 198) C rfl rfl (by omega) (by omega) dX8_spread_60 (by decide) (fun c60 => ?_) (fun c60 => ?_)
                  · skip
                    refine z_iinc C hm 2 (v := nI (k + 1 + 1)) (lv' := [(2, .int (nI (k + 1 + 1))), (0, .ref (zad w 82)), (1, .int (nI m)), (3, .int (nI b))]) dX8_spread_198 rfl (nI_add (k + 1) 1) (by decide) rfl ?_
                    refine z_goto (tgt := 45) C dX8_spread_201 (by decide) ?_
                    exact z_sub [1, 2, 0] rfl (ih45  (k + 1) R2 _ _ (by omega) (by omega) (fun j h1 x h2 => by
                        by_cases z : j ≤ k
                        · exact hR2 j z x h2
                        · rw [show j = k + 1 by omega]; exact hR3 x (by omega)) rfl rfl)
                  · skip
                    refine z_ldcw C (v := 1000000) kc_X8_274 dX8_spread_63 ?_
                    refine z_istore C hm (lv' := [(4, .int 1000000), (0, .ref (zad w 82)), (1, .int (nI m)), (2, .int (nI (k + 1))), (3, .int (nI b))]) dX8_spread_66 (by decide) rfl ?_
                    refine z_iconst C (v := 0) dX8_spread_68 (by decide) ?_
                    refine z_istore C hm (lv' := [(5, .int 0), (4, .int 1000000), (0, .ref (zad w 82)), (1, .int (nI m)), (2, .int (nI (k + 1))), (3, .int (nI b))]) dX8_spread_69 (by decide) rfl ?_
                    have L71 : ∀ (d : Nat) (a : Nat) (v71_4 : Int32) (v71_5 : Int32), (n - a) < d → (a ≤ n) → v71_4 = nI (mst m (zGt jn A) (hD m n (zGt jn A) (zT0 hd) k) a b) → v71_5 = nI a → Z X w (zup I 97 R2) J 71 [(0, .ref (zad w 82)), (1, .int (nI m)), (2, .int (nI (k + 1))), (3, .int (nI b)), (4, .int v71_4), (5, .int v71_5)] [] := by
                      intro d
                      induction d with
                      | zero => intro a v71_4 v71_5 hd; exact absurd hd (Nat.not_lt_zero _)
                      | succ d ih71 => 
                        intro a v71_4 v71_5 hd71 ha2 e_v71_4 e_v71_5
                        replace e_v71_4 := e_v71_4.symm; subst e_v71_4
                        replace e_v71_5 := e_v71_5.symm; subst e_v71_5
                        refine z_iload C dX8_spread_71 5 rfl ?_
                        refine z_aload_n C dX8_spread_73 rfl 0 rfl ?_
                        refine z_geti C ff_X8_7 82 (by decide) sh82 rfl (v := nI n) (by first | exact hN | (simp [zup, zupJ, upd, vp_updL]; exact hN)) dX8_spread_74 ?_
                        refine z_icmp_ge_n a n (tgt := 179) C rfl rfl (by omega) (by omega) dX8_spread_77 (by decide) (fun c77 => ?_) (fun c77 => ?_)
                        · skip
                          refine z_aload_n C dX8_spread_179 rfl 0 rfl ?_
                          refine z_getr C ff_X8_81 82 (by decide) sh82 rfl dX8_spread_180 ?_
                          refine z_bipush C (v := 8) dX8_spread_183 (by decide) ?_
                          refine z_iload_n C dX8_spread_185 rfl 2 rfl ?_
                          refine z_imul C dX8_spread_186 ?_
                          refine z_ti (y := nI (8 * (k + 1))) (pk_mul 8 (k + 1)) ?_
                          refine z_iload_n C dX8_spread_187 rfl 3 rfl ?_
                          refine z_iadd C dX8_spread_188 ?_
                          refine z_ti (y := nI (8 * (k + 1) + b)) (nI_add (8 * (k + 1)) b) ?_
                          refine z_iload C dX8_spread_189 4 rfl ?_
                          refine z_iast C 97 (by decide) sh97 (8 * (k + 1) + b) (by omega) (by decide) rfl dX8_spread_191 ?_
                          refine z_I (I' := zup I 97 (upd R2 (8 * (k + 1) + b) (nI (mst m (zGt jn A) (hD m n (zGt jn A) (zT0 hd) k) a b)))) (by rw [zup_s, zup_up]) ?_
                          refine z_iinc C hm 3 (v := nI (b + 1)) (lv' := [(3, .int (nI (b + 1))), (0, .ref (zad w 82)), (1, .int (nI m)), (2, .int (nI (k + 1))), (4, .int (nI (mst m (zGt jn A) (hD m n (zGt jn A) (zT0 hd) k) a b))), (5, .int (nI a))]) dX8_spread_192 rfl (nI_add b 1) (by decide) rfl ?_
                          refine z_goto (tgt := 55) C dX8_spread_195 (by decide) ?_
                          exact z_sub [1, 2, 3, 0] rfl (ih55  (b + 1) (upd R2 (8 * (k + 1) + b) (nI (hD m n (zGt jn A) (zT0 hd) (k + 1) b))) _ _ (by omega) (by omega) (fun j h1 x h2 => by rw [upd_n (by omega)]; exact hR2 j h1 x h2) (fun x hx => by
                              by_cases z : x = b
                              · rw [z]; exact upd_s
                              · rw [upd_n (by omega)]; exact hR3 x (by omega)) rfl (by rw [show a = n by omega]; rfl))
                        · skip
                          refine z_aload_n C dX8_spread_80 rfl 0 rfl ?_
                          refine z_iload_n C dX8_spread_81 rfl 1 rfl ?_
                          refine z_iload C dX8_spread_82 5 rfl ?_
                          refine z_callVi C hm cl_X8_275 cv_X8_has 82 (by decide) sh82 ⟨_, _, rfl⟩ [.int (nI m), .int (nI a)] rfl (rest := []) rfl (k_X8_has w _ _  m a hm2 (by omega)) ⟨rfl, rfl, Nat.le_of_ble_eq_true rfl, Nat.le_of_ble_eq_true rfl⟩ (Nat.le_of_ble_eq_true rfl) dX8_spread_84 (fun v_1 I_1 J_1 h_1 => ?_)
                          obtain ⟨ev_1, ei_1, ej_1⟩ := h_1
                          replace ev_1 := ev_1.symm; subst ev_1
                          replace ei_1 := ei_1.symm; subst ei_1
                          replace ej_1 := ej_1.symm; subst ej_1
                          refine z_ifne_b (tgt := 173) C dX8_spread_87 (by decide) (fun c87 => ?_) (fun c87 => ?_)
                          · skip
                            refine z_iinc C hm 5 (v := nI (a + 1)) (lv' := [(5, .int (nI (a + 1))), (0, .ref (zad w 82)), (1, .int (nI m)), (2, .int (nI (k + 1))), (3, .int (nI b)), (4, .int (nI (mst m (zGt jn A) (hD m n (zGt jn A) (zT0 hd) k) a b)))]) dX8_spread_173 rfl (nI_add a 1) (by decide) rfl ?_
                            refine z_goto (tgt := 71) C dX8_spread_176 (by decide) ?_
                            exact z_sub [1, 2, 3, 4, 5, 0] rfl (ih71  (a + 1) _ _ (by omega) (by omega) (by rw [mst, if_pos (Or.inl c87)]) rfl)
                          · skip
                            refine z_aload_n C dX8_spread_90 rfl 0 rfl ?_
                            refine z_getr C ff_X8_78 82 (by decide) sh82 rfl dX8_spread_91 ?_
                            refine z_bipush C (v := 8) dX8_spread_94 (by decide) ?_
                            refine z_iload C dX8_spread_96 5 rfl ?_
                            refine z_imul C dX8_spread_98 ?_
                            refine z_ti (y := nI (8 * a)) (pk_mul 8 a) ?_
                            refine z_iload_n C dX8_spread_99 rfl 3 rfl ?_
                            refine z_iadd C dX8_spread_100 ?_
                            refine z_ti (y := nI (8 * a + b)) (nI_add (8 * a) b) ?_
                            refine z_iald C 96 (by decide) sh96 (8 * a + b) (by omega) (by decide) rfl (v := oI (aGo jn A a b)) (by first | exact (hHr a b (by omega) (by omega)) | (simp [zup, zupJ, upd, vp_updL]; exact (hHr a b (by omega) (by omega)))) dX8_spread_101 ?_
                            refine z_if_lt (tgt := 173) C dX8_spread_102 (by decide) (fun c102 => ?_) (fun c102 => ?_)
                            · skip
                              have hgn : aGo jn A a b = none := oI_f (fun k q => aGo_le hA k q) (Int32.not_le.mpr c102)
                              refine z_iinc C hm 5 (v := nI (a + 1)) (lv' := [(5, .int (nI (a + 1))), (0, .ref (zad w 82)), (1, .int (nI m)), (2, .int (nI (k + 1))), (3, .int (nI b)), (4, .int (nI (mst m (zGt jn A) (hD m n (zGt jn A) (zT0 hd) k) a b)))]) dX8_spread_173 rfl (nI_add a 1) (by decide) rfl ?_
                              refine z_goto (tgt := 71) C dX8_spread_176 (by decide) ?_
                              exact z_sub [1, 2, 3, 4, 5, 0] rfl (ih71  (a + 1) _ _ (by omega) (by omega) (by rw [mst_e (by unfold zGt; rw [hgn]; rfl)]) rfl)
                            · skip
                              obtain ⟨ww, hgs⟩ := oI_t (Int32.not_lt.mp c102)
                              have hw9 := aGo_le hA ww hgs
                              refine z_aload_n C dX8_spread_105 rfl 0 rfl ?_
                              refine z_getr C ff_X8_81 82 (by decide) sh82 rfl dX8_spread_106 ?_
                              refine z_bipush C (v := 8) dX8_spread_109 (by decide) ?_
                              refine z_iload_n C dX8_spread_111 rfl 2 rfl ?_
                              refine z_iconst C (v := 1) dX8_spread_112 (by decide) ?_
                              refine z_isub C dX8_spread_113 ?_
                              refine z_ti (y := nI k) (nI_pred _) ?_
                              refine z_imul C dX8_spread_114 ?_
                              refine z_ti (y := nI (8 * k)) (pk_mul 8 k) ?_
                              refine z_iload C dX8_spread_115 5 rfl ?_
                              refine z_iadd C dX8_spread_117 ?_
                              refine z_ti (y := nI (8 * k + a)) (nI_add (8 * k) a) ?_
                              refine z_iald C 97 (by decide) sh97 (8 * k + a) (by omega) (by decide) rfl (v := nI (hD m n (zGt jn A) (zT0 hd) k a)) (by first | exact (hR2 k (Nat.le_refl _) a (by omega)) | (simp [zup, zupJ, upd, vp_updL]; exact (hR2 k (Nat.le_refl _) a (by omega)))) dX8_spread_118 ?_
                              refine z_ldcw C (v := 1000000) kc_X8_274 dX8_spread_119 ?_
                              refine z_icmp_lt_n (hD m n (zGt jn A) (zT0 hd) k a) 1000000 (tgt := 128) C rfl rfl (by have := hHle k a; omega) (by omega) dX8_spread_122 (by decide) (fun c122 => ?_) (fun c122 => ?_)
                              · skip
                                refine z_aload_n C dX8_spread_128 rfl 0 rfl ?_
                                refine z_getr C ff_X8_81 82 (by decide) sh82 rfl dX8_spread_129 ?_
                                refine z_bipush C (v := 8) dX8_spread_132 (by decide) ?_
                                refine z_iload_n C dX8_spread_134 rfl 2 rfl ?_
                                refine z_iconst C (v := 1) dX8_spread_135 (by decide) ?_
                                refine z_isub C dX8_spread_136 ?_
                                refine z_ti (y := nI k) (nI_pred _) ?_
                                refine z_imul C dX8_spread_137 ?_
                                refine z_ti (y := nI (8 * k)) (pk_mul 8 k) ?_
                                refine z_iload C dX8_spread_138 5 rfl ?_
                                refine z_iadd C dX8_spread_140 ?_
                                refine z_ti (y := nI (8 * k + a)) (nI_add (8 * k) a) ?_
                                refine z_iald C 97 (by decide) sh97 (8 * k + a) (by omega) (by decide) rfl (v := nI (hD m n (zGt jn A) (zT0 hd) k a)) (by first | exact (hR2 k (Nat.le_refl _) a (by omega)) | (simp [zup, zupJ, upd, vp_updL]; exact (hR2 k (Nat.le_refl _) a (by omega)))) dX8_spread_141 ?_
                                refine z_aload_n C dX8_spread_142 rfl 0 rfl ?_
                                refine z_getr C ff_X8_78 82 (by decide) sh82 rfl dX8_spread_143 ?_
                                refine z_bipush C (v := 8) dX8_spread_146 (by decide) ?_
                                refine z_iload C dX8_spread_148 5 rfl ?_
                                refine z_imul C dX8_spread_150 ?_
                                refine z_ti (y := nI (8 * a)) (pk_mul 8 a) ?_
                                refine z_iload_n C dX8_spread_151 rfl 3 rfl ?_
                                refine z_iadd C dX8_spread_152 ?_
                                refine z_ti (y := nI (8 * a + b)) (nI_add (8 * a) b) ?_
                                refine z_iald C 96 (by decide) sh96 (8 * a + b) (by omega) (by decide) rfl (v := nI ww) (by first | exact (by rw [show I 96 (8 * a + b) = oI (aGo jn A a b) from hHr a b (by omega) (by omega), hgs]; rfl) | (simp [zup, zupJ, upd, vp_updL]; exact (by rw [show I 96 (8 * a + b) = oI (aGo jn A a b) from hHr a b (by omega) (by omega), hgs]; rfl))) dX8_spread_153 ?_
                                refine z_iadd C dX8_spread_154 ?_
                                refine z_ti (y := nI ((hD m n (zGt jn A) (zT0 hd) k a) + ww)) (nI_add (hD m n (zGt jn A) (zT0 hd) k a) ww) ?_
                                refine z_istore C hm (lv' := [(6, .int (nI ((hD m n (zGt jn A) (zT0 hd) k a) + ww))), (0, .ref (zad w 82)), (1, .int (nI m)), (2, .int (nI (k + 1))), (3, .int (nI b)), (4, .int (nI (mst m (zGt jn A) (hD m n (zGt jn A) (zT0 hd) k) a b))), (5, .int (nI a))]) dX8_spread_155 (by decide) rfl ?_
                                refine z_iload C dX8_spread_157 0 rfl ?_
                                refine z_iload C dX8_spread_159 5 rfl ?_
                                refine z_icmp_ge_n ((hD m n (zGt jn A) (zT0 hd) k a) + ww) (mst m (zGt jn A) (hD m n (zGt jn A) (zT0 hd) k) a b) (tgt := 169) C rfl rfl (by have := hHle k a; omega) (by have := hMle k a b; omega) dX8_spread_161 (by decide) (fun c161 => ?_) (fun c161 => ?_)
                                · skip
                                  refine z_iload C dX8_spread_169 5 rfl ?_
                                  refine z_istore C hm (lv' := [(4, .int (nI (mst m (zGt jn A) (hD m n (zGt jn A) (zT0 hd) k) a b))), (6, .int (nI ((hD m n (zGt jn A) (zT0 hd) k a) + ww))), (0, .ref (zad w 82)), (1, .int (nI m)), (2, .int (nI (k + 1))), (3, .int (nI b)), (5, .int (nI a))]) dX8_spread_171 (by decide) rfl ?_
                                  refine z_iinc C hm 6 (v := nI (a + 1)) (lv' := [(5, .int (nI (a + 1))), (4, .int (nI (mst m (zGt jn A) (hD m n (zGt jn A) (zT0 hd) k) a b))), (6, .int (nI ((hD m n (zGt jn A) (zT0 hd) k a) + ww))), (0, .ref (zad w 82)), (1, .int (nI m)), (2, .int (nI (k + 1))), (3, .int (nI b))]) dX8_spread_173 rfl (nI_add a 1) (by decide) rfl ?_
                                  refine z_goto (tgt := 71) C dX8_spread_176 (by decide) ?_
                                  exact z_sub [3, 4, 5, 6, 1, 0] rfl (ih71  (a + 1) _ _ (by omega) (by omega) (by rw [mst, if_neg (fun q => q.elim c87 (by omega)), show zGt jn A a b = ww from by unfold zGt; rw [hgs]; rfl, Nat.min_eq_left (by omega)]) rfl)
                                · skip
                                  refine z_iload C dX8_spread_164 0 rfl ?_
                                  refine z_goto (tgt := 171) C dX8_spread_166 (by decide) ?_
                                  refine z_istore C hm (lv' := [(4, .int (nI ((hD m n (zGt jn A) (zT0 hd) k a) + ww))), (6, .int (nI ((hD m n (zGt jn A) (zT0 hd) k a) + ww))), (0, .ref (zad w 82)), (1, .int (nI m)), (2, .int (nI (k + 1))), (3, .int (nI b)), (5, .int (nI a))]) dX8_spread_171 (by decide) rfl ?_
                                  refine z_iinc C hm 6 (v := nI (a + 1)) (lv' := [(5, .int (nI (a + 1))), (4, .int (nI ((hD m n (zGt jn A) (zT0 hd) k a) + ww))), (6, .int (nI ((hD m n (zGt jn A) (zT0 hd) k a) + ww))), (0, .ref (zad w 82)), (1, .int (nI m)), (2, .int (nI (k + 1))), (3, .int (nI b))]) dX8_spread_173 rfl (nI_add a 1) (by decide) rfl ?_
                                  refine z_goto (tgt := 71) C dX8_spread_176 (by decide) ?_
                                  exact z_sub [3, 4, 5, 6, 1, 0] rfl (ih71  (a + 1) _ _ (by omega) (by omega) (by rw [mst, if_neg (fun q => q.elim c87 (by omega)), show zGt jn A a b = ww from by unfold zGt; rw [hgs]; rfl, Nat.min_eq_right (by omega)]) rfl)
                              · skip
                                refine z_goto (tgt := 173) C dX8_spread_125 (by decide) ?_
                                refine z_iinc C hm 5 (v := nI (a + 1)) (lv' := [(5, .int (nI (a + 1))), (0, .ref (zad w 82)), (1, .int (nI m)), (2, .int (nI (k + 1))), (3, .int (nI b)), (4, .int (nI (mst m (zGt jn A) (hD m n (zGt jn A) (zT0 hd) k) a b)))]) dX8_spread_173 rfl (nI_add a 1) (by decide) rfl ?_
                                refine z_goto (tgt := 71) C dX8_spread_176 (by decide) ?_
                                exact z_sub [1, 2, 3, 4, 5, 0] rfl (ih71  (a + 1) _ _ (by omega) (by omega) (by rw [mst, if_pos (Or.inr (by omega))]) rfl)
                    exact z_sub [2, 3, 4, 5, 1, 0] rfl (L71 _ 0 _ _ (Nat.lt_succ_self _) (Nat.zero_le _) rfl rfl)
              exact z_sub [1, 2, 3, 0] rfl (L55 _ 0 R _ _ (Nat.lt_succ_self _) (by omega) hR (fun _ h0 => absurd h0 (Nat.not_lt_zero _)) rfl rfl)
        exact z_sub [1, 2, 0] rfl (L45 _ 0 R _ _ (Nat.lt_succ_self _) (Nat.zero_le _) (fun j h1 x h2 => by
            rw [show j = 0 by omega, Nat.mul_zero, Nat.zero_add]; exact hR x (by omega)) rfl rfl)
      · skip
        refine z_aload_n C dX8_spread_10 rfl 0 rfl ?_
        refine z_getr C ff_X8_81 82 (by decide) sh82 rfl dX8_spread_11 ?_
        refine z_iload_n C dX8_spread_14 rfl 2 rfl ?_
        refine z_aload_n C dX8_spread_15 rfl 0 rfl ?_
        refine z_getr C ff_X8_20 82 (by decide) sh82 rfl dX8_spread_16 ?_
        refine z_iload_n C dX8_spread_19 rfl 2 rfl ?_
        refine z_iald C 85 (by decide) sh85 a (by omega) (by decide) rfl (v := oM (hd a)) (by first | exact (hHd a (by omega)) | (simp [zup, zupJ, upd, vp_updL]; exact (hHd a (by omega)))) dX8_spread_20 ?_
        refine z_if_ge (tgt := 30) C dX8_spread_21 (by decide) (fun c21 => ?_) (fun c21 => ?_)
        · skip
          refine z_aload_n C dX8_spread_30 rfl 0 rfl ?_
          refine z_getr C ff_X8_20 82 (by decide) sh82 rfl dX8_spread_31 ?_
          refine z_iload_n C dX8_spread_34 rfl 2 rfl ?_
          refine z_iald C 85 (by decide) sh85 a (by omega) (by decide) rfl (v := oM (hd a)) (by first | exact (hHd a (by omega)) | (simp [zup, zupJ, upd, vp_updL]; exact (hHd a (by omega)))) dX8_spread_35 ?_
          refine z_iast C 97 (by decide) sh97 a (by omega) (by decide) rfl dX8_spread_36 ?_
          refine z_I (I' := zup I 97 (upd R a (oM (hd a)))) (by rw [zup_s, zup_up]) ?_
          refine z_iinc C hm 2 (v := nI (a + 1)) (lv' := [(2, .int (nI (a + 1))), (0, .ref (zad w 82)), (1, .int (nI m))]) dX8_spread_37 rfl (nI_add a 1) (by decide) rfl ?_
          refine z_goto (tgt := 2) C dX8_spread_40 (by decide) ?_
          exact z_sub [1, 2, 0] rfl (ih2  (a + 1) (upd R a (oM (hd a))) _ _ (by omega) (by omega) (lt_u hR (oM_pos c21)) rfl rfl)
        · skip
          refine z_ldcw C (v := 1000000) kc_X8_274 dX8_spread_24 ?_
          refine z_goto (tgt := 36) C dX8_spread_27 (by decide) ?_
          refine z_iast C 97 (by decide) sh97 a (by omega) (by decide) rfl dX8_spread_36 ?_
          refine z_I (I' := zup I 97 (upd R a 1000000)) (by rw [zup_s, zup_up]) ?_
          refine z_iinc C hm 2 (v := nI (a + 1)) (lv' := [(2, .int (nI (a + 1))), (0, .ref (zad w 82)), (1, .int (nI m))]) dX8_spread_37 rfl (nI_add a 1) (by decide) rfl ?_
          refine z_goto (tgt := 2) C dX8_spread_40 (by decide) ?_
          exact z_sub [1, 2, 0] rfl (ih2  (a + 1) (upd R a 1000000) _ _ (by omega) (by omega) (lt_u hR (by unfold zT0; rw [(oM_neg (fun k q => hd99 a k q)).mp (Int32.not_le.mp c21)]; rfl)) rfl rfl)
  exact z_sub [1, 2, 0] rfl (L2 _ 0 (I 97) _ _ (Nat.lt_succ_self _) (by omega) (fun _ h0 => absurd h0 (Nat.not_lt_zero _)) rfl (zup_id).symm)
abbrev rm_X8_earliest : Room := { frames := 4, cells := 0, slots := 0, locals := 200 }
set_option maxRecDepth 100000 in
set_option maxHeartbeats 4000000 in
theorem k_X8_earliest (w : zW) (I : zI) (J : zJ) (m n : Nat) (A : List zCla) (jn : Nat → Int32) (hd : Nat → Option Nat) (a : Nat) (ha8 : a < 8) (hSt : I 82 25 = nI (aSteps A)) (hR : ∀ k, k ≤ aSteps A → I 97 (8 * k + a) = nI (hD m n (zGt jn A) (zT0 hd) k a)) (hd99 : ∀ a k, hd a = some k → k ≤ 99) : zMet yX8_earliest cX8_earliest 4 (some .int) rm_X8_earliest w [.ref (zad w 82), .int (nI a)] I J (zpi (fun v I' J' => v = nI (ern m n jn A hd a) ∧ I' = I ∧ J' = J)) := by
  refine zMet_of (by decide) (Nat.le_of_ble_eq_true rfl) (fun X C hm hr => ?_)
  refine z_sub (lv' := [(0, .ref (zad w 82)), (1, .int (nI a))]) [0, 1] rfl ?_
  have hzf : zFar = 1000000 := rfl
  have hHle := fun k => hD_le (m := m) (n := n) (G := zGt jn A) (fun b => zT0_le hd99 b) k a
  have hst9 := aSteps_le A
  refine z_ldcw C (v := 1000000) kc_X8_274 dX8_earliest_0 ?_
  refine z_istore_n C hm (lv' := [(2, .int 1000000), (0, .ref (zad w 82)), (1, .int (nI a))]) dX8_earliest_3 rfl (by decide) rfl ?_
  refine z_iconst C (v := 0) dX8_earliest_4 (by decide) ?_
  refine z_istore_n C hm (lv' := [(3, .int 0), (2, .int 1000000), (0, .ref (zad w 82)), (1, .int (nI a))]) dX8_earliest_5 rfl (by decide) rfl ?_
  have L6 : ∀ (d : Nat) (j : Nat) (v6_2 : Int32) (v6_3 : Int32), (aSteps A + 1 - j) < d → (j ≤ aSteps A + 1) → v6_2 = nI (eM (fun k => hD m n (zGt jn A) (zT0 hd) k a) j) → v6_3 = nI j → Z X w I J 6 [(0, .ref (zad w 82)), (1, .int (nI a)), (2, .int v6_2), (3, .int v6_3)] [] := by
    intro d
    induction d with
    | zero => intro j v6_2 v6_3 hd; exact absurd hd (Nat.not_lt_zero _)
    | succ d ih6 => 
      intro j v6_2 v6_3 hd6 hj e_v6_2 e_v6_3
      replace e_v6_2 := e_v6_2.symm; subst e_v6_2
      replace e_v6_3 := e_v6_3.symm; subst e_v6_3
      refine z_iload_n C dX8_earliest_6 rfl 3 rfl ?_
      refine z_aload_n C dX8_earliest_7 rfl 0 rfl ?_
      refine z_geti C ff_X8_87 82 (by decide) sh82 rfl (v := nI (aSteps A)) hSt dX8_earliest_8 ?_
      refine z_icmp_gt_n j (aSteps A) (tgt := 51) C rfl rfl (by omega) (by omega) dX8_earliest_11 (by decide) (fun c11 => ?_) (fun c11 => ?_)
      · skip
        have hje : j = aSteps A + 1 := by omega
        subst hje
        refine z_iload_n C dX8_earliest_51 rfl 2 rfl ?_
        refine z_iret C hr rfl dX8_earliest_52 ?_
        refine ⟨_, rfl, ?_⟩
        exact ⟨by rw [eM_ern hd99], rfl, rfl⟩
      · skip
        refine z_aload_n C dX8_earliest_14 rfl 0 rfl ?_
        refine z_getr C ff_X8_81 82 (by decide) sh82 rfl dX8_earliest_15 ?_
        refine z_bipush C (v := 8) dX8_earliest_18 (by decide) ?_
        refine z_iload_n C dX8_earliest_20 rfl 3 rfl ?_
        refine z_imul C dX8_earliest_21 ?_
        refine z_ti (y := nI (8 * j)) (pk_mul 8 j) ?_
        refine z_iload_n C dX8_earliest_22 rfl 1 rfl ?_
        refine z_iadd C dX8_earliest_23 ?_
        refine z_ti (y := nI (8 * j + a)) (nI_add (8 * j) a) ?_
        refine z_iald C 97 (by decide) sh97 (8 * j + a) (by omega) (by decide) rfl (v := nI (hD m n (zGt jn A) (zT0 hd) j a)) (hR j (by omega)) dX8_earliest_24 ?_
        refine z_iload_n C dX8_earliest_25 rfl 2 rfl ?_
        refine z_icmp_ge_n (hD m n (zGt jn A) (zT0 hd) j a) (eM (fun k => hD m n (zGt jn A) (zT0 hd) k a) j) (tgt := 43) C rfl rfl (by have := hHle j; omega) (by have := eM_le (f := fun k => hD m n (zGt jn A) (zT0 hd) k a) j; omega) dX8_earliest_26 (by decide) (fun c26 => ?_) (fun c26 => ?_)
        · skip
          refine z_iload_n C dX8_earliest_43 rfl 2 rfl ?_
          refine z_istore_n C hm (lv' := [(2, .int (nI (eM (fun k => hD m n (zGt jn A) (zT0 hd) k a) j))), (0, .ref (zad w 82)), (1, .int (nI a)), (3, .int (nI j))]) dX8_earliest_44 rfl (by decide) rfl ?_
          refine z_iinc C hm 3 (v := nI (j + 1)) (lv' := [(3, .int (nI (j + 1))), (2, .int (nI (eM (fun k => hD m n (zGt jn A) (zT0 hd) k a) j))), (0, .ref (zad w 82)), (1, .int (nI a))]) dX8_earliest_45 rfl (nI_add j 1) (by decide) rfl ?_
          refine z_goto (tgt := 6) C dX8_earliest_48 (by decide) ?_
          exact z_sub [2, 3, 1, 0] rfl (ih6  (j + 1) _ _ (by omega) (by omega) (by rw [eM, Nat.min_eq_left (by omega)]) rfl)
        · skip
          refine z_aload_n C dX8_earliest_29 rfl 0 rfl ?_
          refine z_getr C ff_X8_81 82 (by decide) sh82 rfl dX8_earliest_30 ?_
          refine z_bipush C (v := 8) dX8_earliest_33 (by decide) ?_
          refine z_iload_n C dX8_earliest_35 rfl 3 rfl ?_
          refine z_imul C dX8_earliest_36 ?_
          refine z_ti (y := nI (8 * j)) (pk_mul 8 j) ?_
          refine z_iload_n C dX8_earliest_37 rfl 1 rfl ?_
          refine z_iadd C dX8_earliest_38 ?_
          refine z_ti (y := nI (8 * j + a)) (nI_add (8 * j) a) ?_
          refine z_iald C 97 (by decide) sh97 (8 * j + a) (by omega) (by decide) rfl (v := nI (hD m n (zGt jn A) (zT0 hd) j a)) (hR j (by omega)) dX8_earliest_39 ?_
          refine z_goto (tgt := 44) C dX8_earliest_40 (by decide) ?_
          refine z_istore_n C hm (lv' := [(2, .int (nI (hD m n (zGt jn A) (zT0 hd) j a))), (0, .ref (zad w 82)), (1, .int (nI a)), (3, .int (nI j))]) dX8_earliest_44 rfl (by decide) rfl ?_
          refine z_iinc C hm 3 (v := nI (j + 1)) (lv' := [(3, .int (nI (j + 1))), (2, .int (nI (hD m n (zGt jn A) (zT0 hd) j a))), (0, .ref (zad w 82)), (1, .int (nI a))]) dX8_earliest_45 rfl (nI_add j 1) (by decide) rfl ?_
          refine z_goto (tgt := 6) C dX8_earliest_48 (by decide) ?_
          exact z_sub [2, 3, 1, 0] rfl (ih6  (j + 1) _ _ (by omega) (by omega) (by rw [eM, Nat.min_eq_right (by omega)]) rfl)
  exact z_sub [2, 3, 1, 0] rfl (L6 _ 0 _ _ (Nat.lt_succ_self _) (by omega) rfl rfl)
