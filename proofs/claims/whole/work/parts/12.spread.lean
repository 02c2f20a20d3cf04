/-! how news comes -/
def zFar : Nat := 1000000
def zb (m a : Nat) : Bool := decide (m / 2 ^ a % 2 = 1)
def oF : Option Nat → Nat
  | none => zFar
  | some k => k
theorem oI_t {o : Option Nat} (h : (0 : Int32) ≤ oI o) : ∃ k, o = some k := by
  cases o with
  | none => exact absurd h (by decide)
  | some k => exact ⟨k, rfl⟩
theorem oI_f {o : Option Nat} (hb : ∀ k, o = some k → k ≤ 999) (h : ¬ (0 : Int32) ≤ oI o) : o = none := by
  cases o with
  | none => rfl
  | some k => exact absurd (nI_pos' (n := k) (by have := hb k rfl; omega)) h
theorem aWay_le {a b s : Int32} {m : Nat} : ∀ {A : List zCla}, (∀ q ∈ A, q.2.1 ≤ m) → ∀ k, aWay a b s A = some k → k ≤ m
  | [], _, k, h => by simp [aWay] at h
  | q :: A, hA, k, h => by
    rw [aWay] at h
    split at h
    · cases h; exact hA q List.mem_cons_self
    · exact aWay_le (fun q hq => hA q (List.mem_cons_of_mem _ hq)) k h
theorem aGo_le {jn : Nat → Int32} {A : List zCla} {a b : Nat} (hA : aOk A) : ∀ k, aGo jn A a b = some k → k ≤ 999 := by
  intro k h
  unfold aGo at h
  by_cases q : jn (a * 8 + b) = 0
  · rw [cif_t q] at h; cases h
  · rw [cif_f q] at h; exact aWay_le (fun q hq => (hA.2 q hq).2.1) k h
theorem oF_le {o : Option Nat} (h : ∀ k, o = some k → k ≤ 999) : oF o ≤ zFar := by
  cases o with
  | none => exact Nat.le_refl _
  | some k => have := h k rfl; show k ≤ 1000000; omega
theorem cLaw_z {I : zI} {p i : Nat} {g : Nat → Int32} {A : List zCla} (hp : p < 47 ∨ 82 ≤ p) (hi : i < 7) (h : cLaw I i A) : cLaw (zup I p g) i A := by
  unfold cLaw at h ⊢
  rw [zup_n (show 47 + 5 * i ≠ p by omega), zup_n (show 47 + 5 * i + 1 ≠ p by omega), zup_n (show 47 + 5 * i + 2 ≠ p by omega), zup_n (show 47 + 5 * i + 3 ≠ p by omega), zup_n (show 47 + 5 * i + 4 ≠ p by omega)]
  exact h
theorem upd_s {f : Nat → Int32} {k : Nat} {x : Int32} : upd f k x k = x := if_pos rfl
theorem upd_n {f : Nat → Int32} {k j : Nat} {x : Int32} (h : j ≠ k) : upd f k x j = f j := if_neg h
def stp (m : Nat) (G : Nat → Nat → Nat) (T : Nat → Nat) : Nat → Nat → Nat
  | 0, b => T b
  | a + 1, b => if zb m a = true ∨ zFar ≤ T a then stp m G T a b else min (stp m G T a b) (T a + G a b)
def hsq (m n : Nat) (G : Nat → Nat → Nat) (T : Nat → Nat) : Nat → Nat → Nat
  | 0 => T
  | k + 1 => fun b => stp m G (hsq m n G T k) n b
theorem stp_le {m : Nat} {G : Nat → Nat → Nat} {T : Nat → Nat} {b : Nat} : ∀ a, stp m G T a b ≤ T b
  | 0 => Nat.le_refl _
  | a + 1 => by
    rw [stp]; split
    · exact stp_le a
    · exact Nat.le_trans (Nat.min_le_left _ _) (stp_le a)
theorem stp_congr {m N : Nat} {G : Nat → Nat → Nat} {T T' : Nat → Nat} {b : Nat} (h : ∀ a, a < N → T a = T' a) (hb : T b = T' b) : ∀ a, a ≤ N → stp m G T a b = stp m G T' a b
  | 0, _ => hb
  | a + 1, ha => by rw [stp, stp, stp_congr h hb a (by omega), h a (by omega)]
theorem hsq_le {m n : Nat} {G : Nat → Nat → Nat} {T : Nat → Nat} {b : Nat} : ∀ k, hsq m n G T k b ≤ T b
  | 0 => Nat.le_refl _
  | k + 1 => Nat.le_trans (stp_le n) (hsq_le k)
theorem hsq_fix {m n : Nat} {G : Nat → Nat → Nat} {T : Nat → Nat} {k : Nat} (h : ∀ b, b < n → hsq m n G T (k + 1) b = hsq m n G T k b) : ∀ j b, b < n → hsq m n G T (k + j) b = hsq m n G T k b
  | 0, _, _ => rfl
  | j + 1, b, hb => by
    show stp m G (hsq m n G T (k + j)) n b = _
    rw [stp_congr (T' := hsq m n G T k) (fun a ha => hsq_fix h j a ha) (hsq_fix h j b hb) n (Nat.le_refl _)]
    exact h b hb
def stpI (m : Nat) (G : Nat → Nat → Nat) (T : Nat → Nat) (a b c : Nat) : Nat := if c < b then stp m G T (a + 1) c else stp m G T a c
theorem shr_b {m a : Nat} (hm : m < 2 ^ 31) (ha : a < 32) : ((nI m >>> (nI a &&& 31)) &&& 1) = nI (m / 2 ^ a % 2) := by
  rw [pk_shrN hm _ a (s_l a ha)]
  have h := pk_andN (n := m / 2 ^ a) (Nat.lt_of_le_of_lt (Nat.div_le_self _ _) (by omega)) (m := 1) 1 (by decide)
  exact h
theorem zb_0 {m a : Nat} (hm : m < 2 ^ 31) (ha : a < 32) (h : ((nI m >>> (nI a &&& 31)) &&& 1) = 0) : zb m a = false := by
  rw [shr_b hm ha] at h
  have h2 := (nI_eq (b := 0) (by omega) (by decide)).mp h
  unfold zb; rw [h2]; rfl
theorem zb_1 {m a : Nat} (hm : m < 2 ^ 31) (ha : a < 32) (h : ¬ ((nI m >>> (nI a &&& 31)) &&& 1) = 0) : zb m a = true := by
  rw [shr_b hm ha] at h
  have h2 : m / 2 ^ a % 2 ≠ 0 := fun q => h (by rw [q]; rfl)
  unfold zb
  exact decide_eq_true (by omega)
/-- a set of the first n, as bits -/
def zset (P : Nat → Bool) : Nat → Nat
  | 0 => 0
  | a + 1 => zset P a + if P a = true then 2 ^ a else 0
theorem zset_lt {P : Nat → Bool} : ∀ n, zset P n < 2 ^ n
  | 0 => Nat.zero_lt_one
  | n + 1 => by
    have := zset_lt (P := P) n
    rw [zset, Nat.pow_succ]; split <;> omega
theorem or_bit {x a : Nat} (hx : x < 2 ^ a) (ha : a < 31) : (nI x ||| ((1 : Int32) <<< (nI a &&& 31))) = nI (x + 2 ^ a) := by
  have h1 : ((1 : Int32) <<< (nI a &&& 31)) = nI (2 ^ a) := by
    have := pk_shlN (n := 1) (nI a &&& 31) a (s_l a (by omega)) (by rw [Nat.one_mul]; exact Nat.pow_lt_pow_right (by decide) (by omega))
    rw [Nat.one_mul] at this; exact this
  rw [h1]
  refine b_ext fun i hi => ?_
  rw [b_or]
  show ((nI x).toBitVec.getLsbD i || (nI (2 ^ a)).toBitVec.getLsbD i) = (nI (x + 2 ^ a)).toBitVec.getLsbD i
  have hp : 2 ^ a < 2 ^ 31 := Nat.pow_lt_pow_right (by decide) ha
  have e : ∀ n, (nI n).toBitVec = BitVec.ofNat 32 n := fun n => rfl
  rw [e, e, e, BitVec.getLsbD_ofNat, BitVec.getLsbD_ofNat, BitVec.getLsbD_ofNat]
  have e2 := Nat.two_pow_add_eq_or_of_lt hx 1
  rw [Nat.mul_one] at e2
  rw [show x + 2 ^ a = 2 ^ a ||| x from by rw [Nat.add_comm, e2]]
  rw [Nat.testBit_or, Bool.or_comm]
  cases decide (i < 32) <;> simp
abbrev rm_X3_runStep : Room := { frames := 4, cells := 0, slots := 0, locals := 200 }
set_option maxRecDepth 100000 in
set_option maxHeartbeats 4000000 in
theorem k_X3_runStep (w : zW) (I : zI) (J : zJ) (n : Nat) (G : Nat → Nat → Nat) (T : Nat → Nat) (m : Nat) (hn : n ≤ 8) (hN : I 23 6 = nI n) (hm8 : m < 256) (hT : ∀ b, b < n → I 26 b = nI (T b)) (hTf : ∀ b, b < n → T b ≤ zFar) (hG : ∀ a b, a < n → b < n → I 24 (a * 8 + b) = nI (G a b)) (hGf : ∀ a b, a < n → b < n → G a b ≤ zFar) : zMet yX3_runStep cX3_runStep 6 (some .boolean) rm_X3_runStep w [.ref (zad w 23), .int (nI m)] I J (zpi (fun v I' J' => J' = J ∧ ∃ R Q, I' = zup (zup I 26 R) 27 Q ∧ (∀ c, c < n → R c = nI (stp m G T n c)) ∧ (v = 1 ∨ (v = 0 ∧ ∀ c, c < n → stp m G T n c = T c)))) := by
  refine zMet_of (by decide) (Nat.le_of_ble_eq_true rfl) (fun X C hm hr => ?_)
  refine z_sub (lv' := [(0, .ref (zad w 23)), (1, .int (nI m))]) [0, 1] rfl ?_
  have hzf : zFar = 1000000 := rfl
  refine z_aload_n C dX3_runStep_0 rfl 0 rfl ?_
  refine z_getr C ff_X3_18 23 (by decide) sh23 rfl dX3_runStep_1 ?_
  refine z_iconst C (v := 0) dX3_runStep_4 (by decide) ?_
  refine z_aload_n C dX3_runStep_5 rfl 0 rfl ?_
  refine z_getr C ff_X3_21 23 (by decide) sh23 rfl dX3_runStep_6 ?_
  refine z_iconst C (v := 0) dX3_runStep_9 (by decide) ?_
  refine z_bipush C (v := 8) dX3_runStep_10 (by decide) ?_
  refine z_copyi C ml_X3_55 na_copy st_copy in_sys 26 27 (by decide) (by decide) sh26 sh27 0 0 8 rfl rfl rfl (by omega) (by omega) (by decide) (by decide) (Nat.le_of_ble_eq_true rfl) (Nat.le_of_ble_eq_true rfl) dX3_runStep_12 ?_
  refine z_I (I' := zup I 27 (va_cpy (I 26) (I 27) 0 0 8)) rfl ?_
  refine z_iconst C (v := 0) dX3_runStep_15 (by decide) ?_
  refine z_istore_n C hm (lv' := [(2, .int 0), (0, .ref (zad w 23)), (1, .int (nI m))]) dX3_runStep_16 rfl (by decide) rfl ?_
  refine z_iconst C (v := 0) dX3_runStep_17 (by decide) ?_
  refine z_istore_n C hm (lv' := [(3, .int 0), (2, .int 0), (0, .ref (zad w 23)), (1, .int (nI m))]) dX3_runStep_18 rfl (by decide) rfl ?_
  have L19 : ∀ (d : Nat) (a : Nat) (R1 Q : Nat → Int32) (y : Int32) (v19_2 : Int32) (v19_3 : Int32) (I19 : zI), (n - a) < d → (a ≤ n) → (∀ c, c < n → R1 c = nI (stp m G T a c)) → (∀ c, c < n → Q c = nI (T c)) → (y = 1 ∨ (y = 0 ∧ ∀ c, c < n → stp m G T a c = T c)) → v19_2 = y → v19_3 = nI a → I19 = zup (zup I 27 Q) 26 R1 → Z X w I19 J 19 [(0, .ref (zad w 23)), (1, .int (nI m)), (2, .int v19_2), (3, .int v19_3)] [] := by
    intro d
    induction d with
    | zero => intro a R1 Q y v19_2 v19_3 I19 hd; exact absurd hd (Nat.not_lt_zero _)
    | succ d ih19 => 
      intro a R1 Q y v19_2 v19_3 I19 hd19 ha hR hQ hy e_v19_2 e_v19_3 e_I19
      replace e_v19_2 := e_v19_2.symm; subst e_v19_2
      replace e_v19_3 := e_v19_3.symm; subst e_v19_3
      replace e_I19 := e_I19.symm; subst e_I19
      refine z_iload_n C dX3_runStep_19 rfl 3 rfl ?_
      refine z_aload_n C dX3_runStep_20 rfl 0 rfl ?_
      refine z_geti C ff_X3_30 23 (by decide) sh23 rfl (v := nI n) (by first | exact hN | (simp [zup, zupJ, upd, vp_updL]; exact hN)) dX3_runStep_21 ?_
      refine z_icmp_ge_n a n (tgt := 117) C rfl rfl (by omega) (by omega) dX3_runStep_24 (by decide) (fun c24 => ?_) (fun c24 => ?_)
      · skip
        have han : a = n := by omega
        refine z_iload_n C dX3_runStep_117 rfl 2 rfl ?_
        refine z_iret C hr (by rcases hy with q | ⟨q, _⟩ <;> subst q <;> decide) dX3_runStep_118 ?_
        refine ⟨_, rfl, ?_⟩
        subst han; exact ⟨rfl, R1, Q, zup_comm (by decide), hR, hy⟩
      · skip
        refine z_iload_n C dX3_runStep_27 rfl 1 rfl ?_
        refine z_iload_n C dX3_runStep_28 rfl 3 rfl ?_
        refine z_ishr C dX3_runStep_29 ?_
        refine z_iconst C (v := 1) dX3_runStep_30 (by decide) ?_
        refine z_iand C dX3_runStep_31 ?_
        refine z_if_ne (tgt := 111) C dX3_runStep_32 (by decide) (fun c32 => ?_) (fun c32 => ?_)
        · skip
          have hskip : ∀ c, stp m G T (a + 1) c = stp m G T a c := fun c => if_pos (Or.inl (zb_1 (by omega) (by omega) c32))
          refine z_iinc C hm 3 (v := nI (a + 1)) (lv' := [(3, .int (nI (a + 1))), (0, .ref (zad w 23)), (1, .int (nI m)), (2, .int y)]) dX3_runStep_111 rfl (nI_add a 1) (by decide) rfl ?_
          refine z_goto (tgt := 19) C dX3_runStep_114 (by decide) ?_
          exact z_sub [1, 2, 3, 0] rfl (ih19  (a + 1) R1 Q y _ _ _ (by omega) (by omega) (fun c hc => by rw [hskip]; exact hR c hc) hQ (by
              rcases hy with q | ⟨q1, q2⟩
              · exact Or.inl q
              · exact Or.inr ⟨q1, fun c hc => by rw [hskip]; exact q2 c hc⟩) rfl rfl rfl)
        · skip
          have hzb := zb_0 (by omega) (by omega) c32
          refine z_aload_n C dX3_runStep_35 rfl 0 rfl ?_
          refine z_getr C ff_X3_21 23 (by decide) sh23 rfl dX3_runStep_36 ?_
          refine z_iload_n C dX3_runStep_39 rfl 3 rfl ?_
          refine z_iald C 27 (by decide) sh27 a (by omega) (by decide) rfl (v := nI (T a)) (by first | exact (hQ a (by omega)) | (simp [zup, zupJ, upd, vp_updL]; exact (hQ a (by omega)))) dX3_runStep_40 ?_
          refine z_ldc C (v := 1000000) kc_X3_50 dX3_runStep_41 ?_
          refine z_icmp_lt_n (T a) 1000000 (tgt := 49) C rfl rfl (by have := hTf a (by omega); omega) (by omega) dX3_runStep_43 (by decide) (fun c43 => ?_) (fun c43 => ?_)
          · skip
            have hdo : ∀ c, stp m G T (a + 1) c = min (stp m G T a c) (T a + G a c) := fun c => if_neg (fun q => q.elim (fun z => by rw [hzb] at z; cases z) (fun z => by omega))
            have hTa := hTf a (by omega)
            refine z_iconst C (v := 0) dX3_runStep_49 (by decide) ?_
            refine z_istore C hm (lv' := [(4, .int 0), (0, .ref (zad w 23)), (1, .int (nI m)), (2, .int y), (3, .int (nI a))]) dX3_runStep_50 (by decide) rfl ?_
            have L52 : ∀ (d : Nat) (b : Nat) (R2 : Nat → Int32) (y2 : Int32) (v52_2 : Int32) (v52_4 : Int32) (I52 : zI), (n - b) < d → (b ≤ n) → (∀ c, c < n → R2 c = nI (stpI m G T a b c)) → (y2 = 1 ∨ (y2 = 0 ∧ ∀ c, c < n → stpI m G T a b c = T c)) → v52_2 = y2 → v52_4 = nI b → I52 = zup (zup I 27 Q) 26 R2 → Z X w I52 J 52 [(0, .ref (zad w 23)), (1, .int (nI m)), (2, .int v52_2), (3, .int (nI a)), (4, .int v52_4)] [] := by
              intro d
              induction d with
              | zero => intro b R2 y2 v52_2 v52_4 I52 hd; exact absurd hd (Nat.not_lt_zero _)
              | succ d ih52 => 
                intro b R2 y2 v52_2 v52_4 I52 hd52 hb hR2 hy2 e_v52_2 e_v52_4 e_I52
                replace e_v52_2 := e_v52_2.symm; subst e_v52_2
                replace e_v52_4 := e_v52_4.symm; subst e_v52_4
                replace e_I52 := e_I52.symm; subst e_I52
                refine z_iload C dX3_runStep_52 4 rfl ?_
                refine z_aload_n C dX3_runStep_54 rfl 0 rfl ?_
                refine z_geti C ff_X3_30 23 (by decide) sh23 rfl (v := nI n) (by first | exact hN | (simp [zup, zupJ, upd, vp_updL]; exact hN)) dX3_runStep_55 ?_
                refine z_icmp_ge_n b n (tgt := 111) C rfl rfl (by omega) (by omega) dX3_runStep_58 (by decide) (fun c58 => ?_) (fun c58 => ?_)
                · skip
                  have hbn : b = n := by omega
                  refine z_iinc C hm 3 (v := nI (a + 1)) (lv' := [(3, .int (nI (a + 1))), (0, .ref (zad w 23)), (1, .int (nI m)), (2, .int y2), (4, .int (nI b))]) dX3_runStep_111 rfl (nI_add a 1) (by decide) rfl ?_
                  refine z_goto (tgt := 19) C dX3_runStep_114 (by decide) ?_
                  exact z_sub [1, 2, 3, 0] rfl (ih19  (a + 1) R2 Q y2 _ _ _ (by omega) (by omega) (fun c hc => by rw [hR2 c hc, stpI, if_pos (by omega)]) hQ (by
                      rcases hy2 with q | ⟨q1, q2⟩
                      · exact Or.inl q
                      · exact Or.inr ⟨q1, fun c hc => by have := q2 c hc; rw [stpI, if_pos (by omega)] at this; exact this⟩) rfl rfl rfl)
                · skip
                  refine z_aload_n C dX3_runStep_61 rfl 0 rfl ?_
                  refine z_getr C ff_X3_21 23 (by decide) sh23 rfl dX3_runStep_62 ?_
                  refine z_iload_n C dX3_runStep_65 rfl 3 rfl ?_
                  refine z_iald C 27 (by decide) sh27 a (by omega) (by decide) rfl (v := nI (T a)) (by first | exact (hQ a (by omega)) | (simp [zup, zupJ, upd, vp_updL]; exact (hQ a (by omega)))) dX3_runStep_66 ?_
                  refine z_aload_n C dX3_runStep_67 rfl 0 rfl ?_
                  refine z_getr C ff_X3_9 23 (by decide) sh23 rfl dX3_runStep_68 ?_
                  refine z_iload_n C dX3_runStep_71 rfl 3 rfl ?_
                  refine z_bipush C (v := 8) dX3_runStep_72 (by decide) ?_
                  refine z_imul C dX3_runStep_74 ?_
                  refine z_ti (y := nI (a * 8)) (pk_mul a 8) ?_
                  refine z_iload C dX3_runStep_75 4 rfl ?_
                  refine z_iadd C dX3_runStep_77 ?_
                  refine z_ti (y := nI (a * 8 + b)) (nI_add (a * 8) b) ?_
                  refine z_iald C 24 (by decide) sh24 (a * 8 + b) (by omega) (by decide) rfl (v := nI (G a b)) (by first | exact (hG a b (by omega) (by omega)) | (simp [zup, zupJ, upd, vp_updL]; exact (hG a b (by omega) (by omega)))) dX3_runStep_78 ?_
                  refine z_iadd C dX3_runStep_79 ?_
                  refine z_ti (y := nI ((T a) + (G a b))) (nI_add (T a) (G a b)) ?_
                  refine z_istore C hm (lv' := [(5, .int (nI ((T a) + (G a b)))), (0, .ref (zad w 23)), (1, .int (nI m)), (2, .int y2), (3, .int (nI a)), (4, .int (nI b))]) dX3_runStep_80 (by decide) rfl ?_
                  refine z_iload C dX3_runStep_82 0 rfl ?_
                  refine z_aload_n C dX3_runStep_84 rfl 1 rfl ?_
                  refine z_getr C ff_X3_18 23 (by decide) sh23 rfl dX3_runStep_85 ?_
                  refine z_iload C dX3_runStep_88 5 rfl ?_
                  refine z_iald C 26 (by decide) sh26 b (by omega) (by decide) rfl (v := nI (stp m G T a b)) (by first | exact (by rw [hR2 b (by omega), stpI, if_neg (by omega)]) | (simp [zup, zupJ, upd, vp_updL]; exact (by rw [hR2 b (by omega), stpI, if_neg (by omega)]))) dX3_runStep_90 ?_
                  refine z_icmp_ge_n ((T a) + (G a b)) (stp m G T a b) (tgt := 105) C rfl rfl (by have := hGf a b (by omega) (by omega); omega) (by have := stp_le (m := m) (G := G) (T := T) (b := b) a; have := hTf b (by omega); omega) dX3_runStep_91 (by decide) (fun c91 => ?_) (fun c91 => ?_)
                  · skip
                    have hst : ∀ c, stpI m G T a b c = stpI m G T a (b + 1) c := fun c => by
                      simp only [stpI]
                      by_cases q : c < b
                      · rw [if_pos q, if_pos (by omega)]
                      · rw [if_neg q]; by_cases z : c < b + 1
                        · rw [if_pos z, hdo c]; have : c = b := by omega
                          subst this; exact (Nat.min_eq_left c91).symm
                        · rw [if_neg z]
                    refine z_iinc C hm 5 (v := nI (b + 1)) (lv' := [(4, .int (nI (b + 1))), (5, .int (nI ((T a) + (G a b)))), (0, .ref (zad w 23)), (1, .int (nI m)), (2, .int y2), (3, .int (nI a))]) dX3_runStep_105 rfl (nI_add b 1) (by decide) rfl ?_
                    refine z_goto (tgt := 52) C dX3_runStep_108 (by decide) ?_
                    exact z_sub [2, 3, 4, 5, 0] rfl (ih52  (b + 1) R2 y2 _ _ _ (by omega) (by omega) (fun c hc => by rw [hR2 c hc, hst c]) (by
                        rcases hy2 with q | ⟨q1, q2⟩
                        · exact Or.inl q
                        · exact Or.inr ⟨q1, fun c hc => by rw [← hst c]; exact q2 c hc⟩) rfl rfl rfl)
                  · skip
                    have hst : stpI m G T a (b + 1) b = T a + G a b := by
                      rw [stpI, if_pos (by omega), hdo]; exact Nat.min_eq_right (by omega)
                    have hst2 : ∀ c, c ≠ b → stpI m G T a b c = stpI m G T a (b + 1) c := fun c q => by
                      simp only [stpI]
                      by_cases z : c < b
                      · rw [if_pos z, if_pos (by omega)]
                      · rw [if_neg z, if_neg (by omega)]
                    refine z_aload_n C dX3_runStep_94 rfl 1 rfl ?_
                    refine z_getr C ff_X3_18 23 (by decide) sh23 rfl dX3_runStep_95 ?_
                    refine z_iload C dX3_runStep_98 5 rfl ?_
                    refine z_iload C dX3_runStep_100 0 rfl ?_
                    refine z_iast C 26 (by decide) sh26 b (by omega) (by decide) rfl dX3_runStep_102 ?_
                    refine z_I (I' := zup (zup I 27 Q) 26 (upd R2 b (nI ((T a) + (G a b))))) (by rw [zup_s, zup_up]) ?_
                    refine z_iconst C (v := 1) dX3_runStep_103 (by decide) ?_
                    refine z_istore_n C hm (lv' := [(2, .int 1), (5, .int (nI ((T a) + (G a b)))), (0, .ref (zad w 23)), (1, .int (nI m)), (3, .int (nI a)), (4, .int (nI b))]) dX3_runStep_104 rfl (by decide) rfl ?_
                    refine z_iinc C hm 5 (v := nI (b + 1)) (lv' := [(4, .int (nI (b + 1))), (2, .int 1), (5, .int (nI ((T a) + (G a b)))), (0, .ref (zad w 23)), (1, .int (nI m)), (3, .int (nI a))]) dX3_runStep_105 rfl (nI_add b 1) (by decide) rfl ?_
                    refine z_goto (tgt := 52) C dX3_runStep_108 (by decide) ?_
                    exact z_sub [3, 4, 1, 5, 0] rfl (ih52  (b + 1) (upd R2 b (nI (T a + G a b))) 1 _ _ _ (by omega) (by omega) (fun c hc => by
                        by_cases q : c = b
                        · subst q; rw [upd_s, hst]
                        · rw [upd_n q, hR2 c hc, hst2 c q]) (Or.inl rfl) rfl rfl rfl)
            exact z_sub [1, 2, 3, 4, 0] rfl (L52 _ 0 R1 y _ _ _ (Nat.lt_succ_self _) (by omega) (fun c hc => by rw [stpI, if_neg (by omega)]; exact hR c hc) (by simp only [stpI, Nat.not_lt_zero, if_false]; exact hy) rfl rfl rfl)
          · skip
            have hskip : ∀ c, stp m G T (a + 1) c = stp m G T a c := fun c => if_pos (Or.inr (by omega))
            refine z_goto (tgt := 111) C dX3_runStep_46 (by decide) ?_
            refine z_iinc C hm 3 (v := nI (a + 1)) (lv' := [(3, .int (nI (a + 1))), (0, .ref (zad w 23)), (1, .int (nI m)), (2, .int y)]) dX3_runStep_111 rfl (nI_add a 1) (by decide) rfl ?_
            refine z_goto (tgt := 19) C dX3_runStep_114 (by decide) ?_
            exact z_sub [1, 2, 3, 0] rfl (ih19  (a + 1) R1 Q y _ _ _ (by omega) (by omega) (fun c hc => by rw [hskip]; exact hR c hc) hQ (by
                rcases hy with q | ⟨q1, q2⟩
                · exact Or.inl q
                · exact Or.inr ⟨q1, fun c hc => by rw [hskip]; exact q2 c hc⟩) rfl rfl rfl)
  exact z_sub [2, 3, 1, 0] rfl (L19 _ 0 (I 26) (va_cpy (I 26) (I 27) 0 0 8) 0 _ _ _ (Nat.lt_succ_self _) (by omega) hT (fun c hc => (sb_cpy0 (by omega)).trans (hT c hc)) (Or.inr ⟨rfl, fun _ _ => rfl⟩) rfl rfl (by funext zk; by_cases h26 : zk = 26 <;> simp [zup, h26]))
abbrev rm_X3_run : Room := { frames := 5, cells := 0, slots := 0, locals := 225 }
set_option maxRecDepth 100000 in
set_option maxHeartbeats 4000000 in
theorem k_X3_run (w : zW) (I : zI) (J : zJ) (n st : Nat) (G : Nat → Nat → Nat) (T : Nat → Nat) (m : Nat) (hn : n ≤ 8) (hN : I 23 6 = nI n) (hS : I 23 7 = nI st) (hst9 : st ≤ 9) (hm8 : m < 256) (hT : ∀ b, b < n → I 25 b = nI (T b)) (hTf : ∀ b, b < n → T b ≤ zFar) (hG : ∀ a b, a < n → b < n → I 24 (a * 8 + b) = nI (G a b)) (hGf : ∀ a b, a < n → b < n → G a b ≤ zFar) : zMet yX3_run cX3_run 4 none rm_X3_run w [.ref (zad w 23), .int (nI m)] I J (zpv (fun I' J' => J' = J ∧ ∃ R Q, I' = zup (zup I 26 R) 27 Q ∧ ∀ c, c < n → R c = nI (hsq m n G T st c))) := by
  refine zMet_of (by decide) (Nat.le_of_ble_eq_true rfl) (fun X C hm hr => ?_)
  refine z_sub (lv' := [(0, .ref (zad w 23)), (1, .int (nI m))]) [0, 1] rfl ?_
  refine z_aload_n C dX3_run_0 rfl 0 rfl ?_
  refine z_getr C ff_X3_15 23 (by decide) sh23 rfl dX3_run_1 ?_
  refine z_iconst C (v := 0) dX3_run_4 (by decide) ?_
  refine z_aload_n C dX3_run_5 rfl 0 rfl ?_
  refine z_getr C ff_X3_18 23 (by decide) sh23 rfl dX3_run_6 ?_
  refine z_iconst C (v := 0) dX3_run_9 (by decide) ?_
  refine z_bipush C (v := 8) dX3_run_10 (by decide) ?_
  refine z_copyi C ml_X3_55 na_copy st_copy in_sys 25 26 (by decide) (by decide) sh25 sh26 0 0 8 rfl rfl rfl (by omega) (by omega) (by decide) (by decide) (Nat.le_of_ble_eq_true rfl) (Nat.le_of_ble_eq_true rfl) dX3_run_12 ?_
  refine z_I (I' := zup I 26 (va_cpy (I 25) (I 26) 0 0 8)) rfl ?_
  refine z_iconst C (v := 1) dX3_run_15 (by decide) ?_
  refine z_istore_n C hm (lv' := [(2, .int 1), (0, .ref (zad w 23)), (1, .int (nI m))]) dX3_run_16 rfl (by decide) rfl ?_
  refine z_iconst C (v := 0) dX3_run_17 (by decide) ?_
  refine z_istore_n C hm (lv' := [(3, .int 0), (2, .int 1), (0, .ref (zad w 23)), (1, .int (nI m))]) dX3_run_18 rfl (by decide) rfl ?_
  have L19 : ∀ (d : Nat) (k : Nat) (R1 Q : Nat → Int32) (y : Int32) (v19_2 : Int32) (v19_3 : Int32) (I19 : zI), (st - k) < d → (k ≤ st) → (∀ c, c < n → R1 c = nI (hsq m n G T k c)) → (y = 1 ∨ (y = 0 ∧ ∀ c, c < n → hsq m n G T k c = hsq m n G T st c)) → v19_2 = y → v19_3 = nI k → I19 = zup (zup I 26 R1) 27 Q → Z X w I19 J 19 [(0, .ref (zad w 23)), (1, .int (nI m)), (2, .int v19_2), (3, .int v19_3)] [] := by
    intro d
    induction d with
    | zero => intro k R1 Q y v19_2 v19_3 I19 hd; exact absurd hd (Nat.not_lt_zero _)
    | succ d ih19 => 
      intro k R1 Q y v19_2 v19_3 I19 hd19 hk hR hy e_v19_2 e_v19_3 e_I19
      replace e_v19_2 := e_v19_2.symm; subst e_v19_2
      replace e_v19_3 := e_v19_3.symm; subst e_v19_3
      replace e_I19 := e_I19.symm; subst e_I19
      refine z_iload_n C dX3_run_19 rfl 3 rfl ?_
      refine z_aload_n C dX3_run_20 rfl 0 rfl ?_
      refine z_geti C ff_X3_46 23 (by decide) sh23 rfl (v := nI st) (by first | exact hS | (simp [zup, zupJ, upd, vp_updL]; exact hS)) dX3_run_21 ?_
      refine z_icmp_ge_n k st (tgt := 43) C rfl rfl (by omega) (by omega) dX3_run_24 (by decide) (fun c24 => ?_) (fun c24 => ?_)
      · skip
        have hks : k = st := by omega
        have hfin : ∀ c, c < n → R1 c = nI (hsq m n G T st c) := fun c hc => by rw [hR c hc, hks]
        refine z_vret C hr dX3_run_43 ?_
        refine ⟨rfl, ?_⟩
        exact ⟨rfl, R1, Q, rfl, hfin⟩
      · skip
        refine z_iload_n C dX3_run_27 rfl 2 rfl ?_
        refine z_if_eq (tgt := 43) C dX3_run_28 (by decide) (fun c28 => ?_) (fun c28 => ?_)
        · skip
          have hfin : ∀ c, c < n → R1 c = nI (hsq m n G T st c) := fun c hc => by
            rcases hy with q | ⟨_, q⟩
            · exact absurd (q.symm.trans c28) (by decide)
            · rw [hR c hc, q c hc]
          refine z_vret C hr dX3_run_43 ?_
          refine ⟨rfl, ?_⟩
          exact ⟨rfl, R1, Q, rfl, hfin⟩
        · skip
          refine z_aload_n C dX3_run_31 rfl 0 rfl ?_
          refine z_iload_n C dX3_run_32 rfl 1 rfl ?_
          refine z_callVi C hm cl_X3_61 cv_X3_runStep 23 (by decide) sh23 ⟨_, _, rfl⟩ [.int (nI m)] rfl (rest := []) rfl (k_X3_runStep w _ _ n G (hsq m n G T k) m hn (by exact hN) hm8 hR (fun b hb => Nat.le_trans (hsq_le k) (hTf b hb)) hG hGf) ⟨rfl, rfl, Nat.le_of_ble_eq_true rfl, Nat.le_of_ble_eq_true rfl⟩ (Nat.le_of_ble_eq_true rfl) dX3_run_33 (fun v_1 I_1 J_1 h_1 => ?_)
          obtain ⟨eJ_1, R_1, Q_1, eI_1, hR_1, hv_1⟩ := h_1
          replace eJ_1 := eJ_1.symm; subst eJ_1
          subst eI_1
          refine z_I (I' := zup (zup I 26 R_1) 27 Q_1) (by funext zk; simp only [zup]; split <;> simp_all [zup]) ?_
          refine z_istore_n C hm (lv' := [(2, .int v_1), (0, .ref (zad w 23)), (1, .int (nI m)), (3, .int (nI k))]) dX3_run_36 rfl (by decide) rfl ?_
          refine z_iinc C hm 3 (v := nI (k + 1)) (lv' := [(3, .int (nI (k + 1))), (2, .int v_1), (0, .ref (zad w 23)), (1, .int (nI m))]) dX3_run_37 rfl (nI_add k 1) (by decide) rfl ?_
          refine z_goto (tgt := 19) C dX3_run_40 (by decide) ?_
          exact z_sub [2, 3, 1, 0] rfl (ih19  (k + 1) R_1 Q_1 _ _ _ _ (by omega) (by omega) hR_1 (by
              rcases hv_1 with q | ⟨q1, q2⟩
              · exact Or.inl q
              · refine Or.inr ⟨q1, fun c hc => ?_⟩
                have hf := hsq_fix (m := m) (n := n) (G := G) (T := T) (k := k) q2
                have e1 := hf (st - k) c hc
                rw [show k + (st - k) = st by omega] at e1
                rw [e1]; exact q2 c hc) rfl rfl rfl)
  exact z_sub [2, 3, 1, 0] rfl (L19 _ 0 (va_cpy (I 25) (I 26) 0 0 8) (I 27) 1 _ _ _ (Nat.lt_succ_self _) (by omega) (fun c hc => (sb_cpy0 (by omega)).trans (hT c hc)) (Or.inl rfl) rfl rfl (by funext zk; by_cases h27 : zk = 27 <;> simp [zup, h27]))
abbrev rm_X3_hourOf : Room := { frames := 4, cells := 0, slots := 0, locals := 200 }
set_option maxRecDepth 100000 in
set_option maxHeartbeats 4000000 in
theorem k_X3_hourOf (w : zW) (I : zI) (J : zJ) (v0 : Nat) (a : Nat) (ha : a < 8) (hv : I 26 a = nI v0) (hvf : v0 ≤ zFar) : zMet yX3_hourOf cX3_hourOf 2 (some .int) rm_X3_hourOf w [.ref (zad w 23), .int (nI a)] I J (zpi (fun v I' J' => v = cif (v0 < zFar) (nI v0) (-5) ∧ I' = I ∧ J' = J)) := by
  refine zMet_of (by decide) (Nat.le_of_ble_eq_true rfl) (fun X C hm hr => ?_)
  refine z_sub (lv' := [(0, .ref (zad w 23)), (1, .int (nI a))]) [0, 1] rfl ?_
  have hzf : zFar = 1000000 := rfl
  refine z_aload_n C dX3_hourOf_0 rfl 0 rfl ?_
  refine z_getr C ff_X3_18 23 (by decide) sh23 rfl dX3_hourOf_1 ?_
  refine z_iload_n C dX3_hourOf_4 rfl 1 rfl ?_
  refine z_iald C 26 (by decide) sh26 a (by omega) (by decide) rfl (v := nI v0) hv dX3_hourOf_5 ?_
  refine z_ldc C (v := 1000000) kc_X3_50 dX3_hourOf_6 ?_
  refine z_icmp_ge_n v0 1000000 (tgt := 20) C rfl rfl (by omega) (by omega) dX3_hourOf_8 (by decide) (fun c8 => ?_) (fun c8 => ?_)
  · skip
    refine z_bipush C (v := -5) dX3_hourOf_20 (by decide) ?_
    refine z_iret C hr rfl dX3_hourOf_22 ?_
    refine ⟨_, rfl, ?_⟩
    exact ⟨(cif_f (by omega)).symm, rfl, rfl⟩
  · skip
    refine z_aload_n C dX3_hourOf_11 rfl 0 rfl ?_
    refine z_getr C ff_X3_18 23 (by decide) sh23 rfl dX3_hourOf_12 ?_
    refine z_iload_n C dX3_hourOf_15 rfl 1 rfl ?_
    refine z_iald C 26 (by decide) sh26 a (by omega) (by decide) rfl (v := nI v0) hv dX3_hourOf_16 ?_
    refine z_goto (tgt := 22) C dX3_hourOf_17 (by decide) ?_
    refine z_iret C hr rfl dX3_hourOf_22 ?_
    refine ⟨_, rfl, ?_⟩
    exact ⟨(cif_t (by omega)).symm, rfl, rfl⟩
abbrev rm_X3_knownBy : Room := { frames := 4, cells := 0, slots := 0, locals := 200 }
set_option maxRecDepth 100000 in
set_option maxHeartbeats 4000000 in
theorem k_X3_knownBy (w : zW) (I : zI) (J : zJ) (v0 : Nat) (a : Nat) (hh : Nat) (ha : a < 8) (hv : I 26 a = nI v0) (hvf : v0 ≤ zFar) (hh9 : hh ≤ 99) : zMet yX3_knownBy cX3_knownBy 3 (some .boolean) rm_X3_knownBy w [.ref (zad w 23), .int (nI a), .int (nI hh)] I J (zpi (fun v I' J' => v = bI (v0 ≤ hh) ∧ I' = I ∧ J' = J)) := by
  refine zMet_of (by decide) (Nat.le_of_ble_eq_true rfl) (fun X C hm hr => ?_)
  refine z_sub (lv' := [(0, .ref (zad w 23)), (1, .int (nI a)), (2, .int (nI hh))]) [0, 1, 2] rfl ?_
  have hzf : zFar = 1000000 := rfl
  refine z_aload_n C dX3_knownBy_0 rfl 0 rfl ?_
  refine z_getr C ff_X3_18 23 (by decide) sh23 rfl dX3_knownBy_1 ?_
  refine z_iload_n C dX3_knownBy_4 rfl 1 rfl ?_
  refine z_iald C 26 (by decide) sh26 a (by omega) (by decide) rfl (v := nI v0) hv dX3_knownBy_5 ?_
  refine z_iload_n C dX3_knownBy_6 rfl 2 rfl ?_
  refine z_icmp_gt_n v0 hh (tgt := 14) C rfl rfl (by omega) (by omega) dX3_knownBy_7 (by decide) (fun c7 => ?_) (fun c7 => ?_)
  · skip
    refine z_iconst C (v := 0) dX3_knownBy_14 (by decide) ?_
    refine z_iret C hr (by decide) dX3_knownBy_15 ?_
    refine ⟨_, rfl, ?_⟩
    exact ⟨(bI_f (by omega)).symm, rfl, rfl⟩
  · skip
    refine z_iconst C (v := 1) dX3_knownBy_10 (by decide) ?_
    refine z_goto (tgt := 15) C dX3_knownBy_11 (by decide) ?_
    refine z_iret C hr (by decide) dX3_knownBy_15 ?_
    refine ⟨_, rfl, ?_⟩
    exact ⟨(bI_t (by omega)).symm, rfl, rfl⟩
abbrev rm_X3_knownByAll : Room := { frames := 5, cells := 0, slots := 0, locals := 222 }
set_option maxRecDepth 100000 in
set_option maxHeartbeats 4000000 in
theorem k_X3_knownByAll (w : zW) (I : zI) (J : zJ) (n : Nat) (T : Nat → Nat) (hh : Nat) (hn : n ≤ 8) (hN : I 23 6 = nI n) (hT : ∀ b, b < n → I 26 b = nI (T b)) (hTf : ∀ b, b < n → T b ≤ zFar) (hh9 : hh ≤ 99) : zMet yX3_knownByAll cX3_knownByAll 4 (some .int) rm_X3_knownByAll w [.ref (zad w 23), .int (nI hh)] I J (zpi (fun v I' J' => v = nI (zset (fun a => decide (T a ≤ hh)) n) ∧ I' = I ∧ J' = J)) := by
  refine zMet_of (by decide) (Nat.le_of_ble_eq_true rfl) (fun X C hm hr => ?_)
  refine z_sub (lv' := [(0, .ref (zad w 23)), (1, .int (nI hh))]) [0, 1] rfl ?_
  refine z_iconst C (v := 0) dX3_knownByAll_0 (by decide) ?_
  refine z_istore_n C hm (lv' := [(2, .int 0), (0, .ref (zad w 23)), (1, .int (nI hh))]) dX3_knownByAll_1 rfl (by decide) rfl ?_
  refine z_iconst C (v := 0) dX3_knownByAll_2 (by decide) ?_
  refine z_istore_n C hm (lv' := [(3, .int 0), (2, .int 0), (0, .ref (zad w 23)), (1, .int (nI hh))]) dX3_knownByAll_3 rfl (by decide) rfl ?_
  have L4 : ∀ (d : Nat) (a : Nat) (v4_2 : Int32) (v4_3 : Int32), (n - a) < d → (a ≤ n) → v4_2 = nI (zset (fun a => decide (T a ≤ hh)) a) → v4_3 = nI a → Z X w I J 4 [(0, .ref (zad w 23)), (1, .int (nI hh)), (2, .int v4_2), (3, .int v4_3)] [] := by
    intro d
    induction d with
    | zero => intro a v4_2 v4_3 hd; exact absurd hd (Nat.not_lt_zero _)
    | succ d ih4 => 
      intro a v4_2 v4_3 hd4 ha e_v4_2 e_v4_3
      replace e_v4_2 := e_v4_2.symm; subst e_v4_2
      replace e_v4_3 := e_v4_3.symm; subst e_v4_3
      refine z_iload_n C dX3_knownByAll_4 rfl 3 rfl ?_
      refine z_aload_n C dX3_knownByAll_5 rfl 0 rfl ?_
      refine z_geti C ff_X3_30 23 (by decide) sh23 rfl (v := nI n) hN dX3_knownByAll_6 ?_
      refine z_icmp_ge_n a n (tgt := 33) C rfl rfl (by omega) (by omega) dX3_knownByAll_9 (by decide) (fun c9 => ?_) (fun c9 => ?_)
      · skip
        have han : a = n := by omega
        refine z_iload_n C dX3_knownByAll_33 rfl 2 rfl ?_
        refine z_iret C hr rfl dX3_knownByAll_34 ?_
        refine ⟨_, rfl, ?_⟩
        exact ⟨by rw [han], rfl, rfl⟩
      · skip
        refine z_aload_n C dX3_knownByAll_12 rfl 0 rfl ?_
        refine z_iload_n C dX3_knownByAll_13 rfl 3 rfl ?_
        refine z_iload_n C dX3_knownByAll_14 rfl 1 rfl ?_
        refine z_callVi C hm cl_X3_65 cv_X3_knownBy 23 (by decide) sh23 ⟨_, _, rfl⟩ [.int (nI a), .int (nI hh)] rfl (rest := []) rfl (k_X3_knownBy w _ _ (T a) a hh (by omega) (hT a (by omega)) (hTf a (by omega)) hh9) ⟨rfl, rfl, Nat.le_of_ble_eq_true rfl, Nat.le_of_ble_eq_true rfl⟩ (Nat.le_of_ble_eq_true rfl) dX3_knownByAll_15 (fun v_1 I_1 J_1 h_1 => ?_)
        obtain ⟨ev_1, ei_1, ej_1⟩ := h_1
        replace ev_1 := ev_1.symm; subst ev_1
        replace ei_1 := ei_1.symm; subst ei_1
        replace ej_1 := ej_1.symm; subst ej_1
        refine z_ifeq_b (tgt := 27) C dX3_knownByAll_18 (by decide) (fun c18 => ?_) (fun c18 => ?_)
        · skip
          refine z_iinc C hm 3 (v := nI (a + 1)) (lv' := [(3, .int (nI (a + 1))), (0, .ref (zad w 23)), (1, .int (nI hh)), (2, .int (nI (zset (fun a => decide (T a ≤ hh)) a)))]) dX3_knownByAll_27 rfl (nI_add a 1) (by decide) rfl ?_
          refine z_goto (tgt := 4) C dX3_knownByAll_30 (by decide) ?_
          exact z_sub [1, 2, 3, 0] rfl (ih4  (a + 1) _ _ (by omega) (by omega) (by rw [zset, if_neg (by simpa using c18), Nat.add_zero]) rfl)
        · skip
          refine z_iload_n C dX3_knownByAll_21 rfl 2 rfl ?_
          refine z_iconst C (v := 1) dX3_knownByAll_22 (by decide) ?_
          refine z_iload_n C dX3_knownByAll_23 rfl 3 rfl ?_
          refine z_ishl C dX3_knownByAll_24 ?_
          refine z_ior C dX3_knownByAll_25 ?_
          refine z_istore_n C hm (lv' := [(2, .int ((nI (zset (fun a => decide (T a ≤ hh)) a)) ||| (1 <<< ((nI a) &&& 31)))), (0, .ref (zad w 23)), (1, .int (nI hh)), (3, .int (nI a))]) dX3_knownByAll_26 rfl (by decide) rfl ?_
          refine z_iinc C hm 3 (v := nI (a + 1)) (lv' := [(3, .int (nI (a + 1))), (2, .int ((nI (zset (fun a => decide (T a ≤ hh)) a)) ||| (1 <<< ((nI a) &&& 31)))), (0, .ref (zad w 23)), (1, .int (nI hh))]) dX3_knownByAll_27 rfl (nI_add a 1) (by decide) rfl ?_
          refine z_goto (tgt := 4) C dX3_knownByAll_30 (by decide) ?_
          exact z_sub [2, 3, 1, 0] rfl (ih4  (a + 1) _ _ (by omega) (by omega) (by rw [zset, if_pos (by simpa using c18)]; exact or_bit (zset_lt a) (by omega)) rfl)
  exact z_sub [2, 3, 1, 0] rfl (L4 _ 0 _ _ (Nat.lt_succ_self _) (by omega) rfl rfl)
