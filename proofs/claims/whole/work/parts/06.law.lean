/-! bits: a family of the kit's starting texts -/
def bt (x : Int32) (i : Nat) : Bool := x.toBitVec.getLsbD i
theorem b_ext {x y : Int32} (h : ∀ i, i < 32 → bt x i = bt y i) : x = y := Int32.toBitVec_inj.mp (BitVec.eq_of_getLsbD_eq (fun i hi => h i hi))
theorem b_or (x y : Int32) (i : Nat) : bt (x ||| y) i = (bt x i || bt y i) := by unfold bt; rw [Int32.toBitVec_or, BitVec.getLsbD_or]
theorem b_and (x y : Int32) (i : Nat) : bt (x &&& y) i = (bt x i && bt y i) := by unfold bt; rw [Int32.toBitVec_and, BitVec.getLsbD_and]
theorem b_xor (x y : Int32) (i : Nat) : bt (x ^^^ y) i = (bt x i ^^ bt y i) := by unfold bt; rw [Int32.toBitVec_xor, BitVec.getLsbD_xor]
theorem b_big {x : Int32} {i : Nat} (h : 32 ≤ i) : bt x i = false := BitVec.getLsbD_of_ge _ _ h
theorem b_0 (i : Nat) : bt 0 i = false := BitVec.getLsbD_zero
theorem s_l : ∀ n, n < 32 → ((nI n &&& 31).toBitVec.smod 32).toNat = n := by decide +kernel
theorem s_u : ∀ n, n < 32 → (((nI n).toUInt32 &&& Int32.toUInt32 31).toBitVec % 32).toNat = n := by decide +kernel
theorem b_shl (n : Nat) (hn : n < 32) (x : Int32) {i : Nat} (hi : i < 32) : bt (x <<< (nI n &&& 31)) i = (decide (n ≤ i) && bt x (i - n)) := by
  unfold bt
  rw [Int32.toBitVec_shiftLeft]
  show (x.toBitVec <<< ((nI n &&& 31).toBitVec.smod 32).toNat).getLsbD i = _
  rw [s_l n hn, BitVec.getLsbD_shiftLeft]
  rcases Nat.lt_or_ge i n with h | h
  · simp [h, Nat.not_le.mpr h]
  · simp [hi, h, Nat.not_lt.mpr h]
theorem b_ushr (n : Nat) (hn : n < 32) (x : Int32) (i : Nat) : bt ((x.toUInt32 >>> ((nI n).toUInt32 &&& Int32.toUInt32 31)).toInt32) i = bt x (n + i) := by
  show (x.toUInt32 >>> ((nI n).toUInt32 &&& Int32.toUInt32 31)).toBitVec.getLsbD i = x.toUInt32.toBitVec.getLsbD (n + i)
  rw [UInt32.toBitVec_shiftRight]
  show (x.toUInt32.toBitVec >>> (((nI n).toUInt32 &&& Int32.toUInt32 31).toBitVec % 32).toNat).getLsbD i = _
  rw [s_u n hn, BitVec.getLsbD_ushiftRight]
theorem b_sshr (n : Nat) (hn : n < 32) (x : Int32) {i : Nat} (hi : i < 32) : bt (x >>> (nI n &&& 31)) i = if n + i < 32 then bt x (n + i) else bt x 31 := by
  unfold bt
  rw [Int32.toBitVec_shiftRight]
  show (x.toBitVec.sshiftRight ((nI n &&& 31).toBitVec.smod 32).toNat).getLsbD i = _
  rw [s_l n hn, BitVec.getLsbD_sshiftRight, BitVec.msb_eq_getLsbD_last]
  simp [hi]
/-! a law as a value: clauses (word, number, tokens) -/
abbrev zTok : Type := Nat ⊕ (Nat × Nat × Nat)
abbrev zCla : Type := Nat × Nat × List zTok
def tkOk : zTok → Prop
  | .inl k => k < 3
  | .inr (l, r, n) => l < 5 ∧ r < 3 ∧ n < 100
def zenv (a b s l f : Int32) (k : Nat) : Int32 := match k with
  | 0 => a
  | 1 => b
  | 2 => s
  | 3 => l
  | _ => f
def zrel (r : Nat) (x y : Int32) : Prop := match r with
  | 0 => x < y
  | 1 => x = y
  | _ => y < x
noncomputable def tkB (env : Nat → Int32) (l r n : Nat) : Bool := @decide (zrel r (env l) (nI n)) (Classical.propDecidable _)
noncomputable def aEv (env : Nat → Int32) : List zTok → List Bool → Option (List Bool)
  | [], st => some st
  | .inl 0 :: ts, b :: st => aEv env ts ((!b) :: st)
  | .inl 1 :: ts, b :: c :: st => aEv env ts ((c && b) :: st)
  | .inl 2 :: ts, b :: c :: st => aEv env ts ((c || b) :: st)
  | .inr (l, r, n) :: ts, st => if st.length < 30 then aEv env ts (tkB env l r n :: st) else none
  | _, _ => none
def cTok : zTok → Int32
  | .inl 0 => -3
  | .inl 1 => -1
  | .inl _ => -2
  | .inr (l, r, n) => nI ((3 * l + r) * 100 + n)
theorem cTok_pos {l r n : Nat} (h : l < 5 ∧ r < 3 ∧ n < 100) : ¬ nI ((3 * l + r) * 100 + n) < 0 := nI_pos (by omega)
theorem cTok_not {t : zTok} (h : tkOk t) (e : cTok t = -3) : t = .inl 0 := by
  rcases t with k | ⟨l, r, n⟩
  · match k, h with
    | 0, _ => rfl
    | 1, _ => exact absurd e (by decide)
    | 2, _ => exact absurd e (by decide)
  · exact absurd (show nI ((3 * l + r) * 100 + n) < 0 from by rw [show nI ((3 * l + r) * 100 + n) = -3 from e]; decide) (cTok_pos h)
theorem cTok_and {t : zTok} (h : tkOk t) (e : cTok t = -1) : t = .inl 1 := by
  rcases t with k | ⟨l, r, n⟩
  · match k, h with
    | 0, _ => exact absurd e (by decide)
    | 1, _ => rfl
    | 2, _ => exact absurd e (by decide)
  · exact absurd (show nI ((3 * l + r) * 100 + n) < 0 from by rw [show nI ((3 * l + r) * 100 + n) = -1 from e]; decide) (cTok_pos h)
theorem cTok_or {t : zTok} (h : tkOk t) (e : cTok t = -2) : t = .inl 2 := by
  rcases t with k | ⟨l, r, n⟩
  · match k, h with
    | 0, _ => exact absurd e (by decide)
    | 1, _ => exact absurd e (by decide)
    | 2, _ => rfl
  · exact absurd (show nI ((3 * l + r) * 100 + n) < 0 from by rw [show nI ((3 * l + r) * 100 + n) = -2 from e]; decide) (cTok_pos h)
theorem cTok_test {t : zTok} (h : tkOk t) (e1 : cTok t ≠ -3) (e2 : cTok t ≠ -1) (e3 : cTok t ≠ -2) : ∃ l r n, t = .inr (l, r, n) ∧ l < 5 ∧ r < 3 ∧ n < 100 ∧ cTok t = nI ((3 * l + r) * 100 + n) := by
  rcases t with k | ⟨l, r, n⟩
  · match k, h with
    | 0, _ => exact absurd rfl e1
    | 1, _ => exact absurd rfl e2
    | 2, _ => exact absurd rfl e3
  · exact ⟨l, r, n, rfl, h.1, h.2.1, h.2.2, rfl⟩
theorem aEv_0 {env : Nat → Int32} {ts : List zTok} {st r : List Bool} (h : aEv env (.inl 0 :: ts) st = some r) : ∃ b st', st = b :: st' ∧ aEv env ts ((!b) :: st') = some r := by
  match st, h with
  | b :: st', h => exact ⟨b, st', rfl, by rwa [aEv] at h⟩
theorem aEv_1 {env : Nat → Int32} {ts : List zTok} {st r : List Bool} (h : aEv env (.inl 1 :: ts) st = some r) : ∃ b c st', st = b :: c :: st' ∧ aEv env ts ((c && b) :: st') = some r := by
  match st, h with
  | b :: c :: st', h => exact ⟨b, c, st', rfl, by rwa [aEv] at h⟩
theorem aEv_2 {env : Nat → Int32} {ts : List zTok} {st r : List Bool} (h : aEv env (.inl 2 :: ts) st = some r) : ∃ b c st', st = b :: c :: st' ∧ aEv env ts ((c || b) :: st') = some r := by
  match st, h with
  | b :: c :: st', h => exact ⟨b, c, st', rfl, by rwa [aEv] at h⟩
theorem aEv_t {env : Nat → Int32} {ts : List zTok} {l r n : Nat} {st q : List Bool} (h : aEv env (.inr (l, r, n) :: ts) st = some q) : st.length < 30 ∧ aEv env ts (tkB env l r n :: st) = some q := by
  rw [aEv] at h
  by_cases hl : st.length < 30
  · rw [if_pos hl] at h; exact ⟨hl, h⟩
  · rw [if_neg hl] at h; exact absurd h (by simp)
theorem drop_at {α : Type} {A : List α} {k : Nat} (d : α) (h : k < A.length) : A.drop k = A.getD k d :: A.drop (k + 1) := by
  rw [List.drop_eq_getElem_cons h, List.getD_eq_getElem?_getD, List.getElem?_eq_getElem h]; rfl
theorem getD_mem {α : Type} {A : List α} {k : Nat} (d : α) (h : k < A.length) : A.getD k d ∈ A := by
  rw [List.getD_eq_getElem?_getD, List.getElem?_eq_getElem h]; exact List.getElem_mem h
/-- the truths at hand as the low bits of a number -/
def zEnc (v : Int32) (st : List Bool) : Prop := ∀ j, j < st.length → bt v j = st.getD j false
theorem zEnc_0 {v : Int32} : zEnc v [] := fun j h => absurd h (Nat.not_lt_zero _)
theorem bt1 (j : Nat) : bt 1 j = decide (j = 0) := by
  rcases Nat.lt_or_ge j 32 with h | h
  · exact (by decide +kernel : ∀ i, i < 32 → bt 1 i = decide (i = 0)) j h
  · rw [b_big h, decide_eq_false (by omega)]
theorem btm2 : ∀ j, j < 32 → bt (-2) j = decide (j ≠ 0) := by decide +kernel
theorem b_sh1 (x : Int32) {i : Nat} (hi : i < 31) : bt (x >>> ((1 : Int32) &&& 31)) i = bt x (i + 1) := by
  have := b_sshr 1 (by omega) x (i := i) (by omega)
  rw [if_pos (by omega), Nat.add_comm] at this
  exact this
theorem b_sl1 (x : Int32) {i : Nat} (hi : i < 32) : bt (x <<< ((1 : Int32) &&& 31)) i = (decide (1 ≤ i) && bt x (i - 1)) := b_shl 1 (by omega) x hi
theorem zEnc_not {v : Int32} {b : Bool} {st : List Bool} (h : zEnc v (b :: st)) : zEnc (v ^^^ 1) ((!b) :: st) := by
  intro j hj
  rw [b_xor, bt1]
  have := h j hj
  rw [this]
  cases j with
  | zero => simp
  | succ j => simp
theorem zEnc_and {v : Int32} {b c : Bool} {st : List Bool} (h : zEnc v (b :: c :: st)) (hl : st.length < 29) : zEnc ((v >>> ((1 : Int32) &&& 31)) &&& ((v &&& 1) ||| (-2))) ((c && b) :: st) := by
  intro j hj
  have hj' : j < st.length + 1 := by simpa using hj
  rw [b_and, b_or, b_and, b_sh1 v (by omega), bt1, btm2 j (by omega), h (j + 1) (by simp; omega)]
  cases j with
  | zero => have := h 0 (by simp); rw [this]; simp
  | succ j => simp
theorem zEnc_or {v : Int32} {b c : Bool} {st : List Bool} (h : zEnc v (b :: c :: st)) (hl : st.length < 29) : zEnc ((v >>> ((1 : Int32) &&& 31)) ||| (v &&& 1)) ((c || b) :: st) := by
  intro j hj
  have hj' : j < st.length + 1 := by simpa using hj
  rw [b_or, b_and, b_sh1 v (by omega), bt1, h (j + 1) (by simp; omega)]
  cases j with
  | zero => have := h 0 (by simp); rw [this]; simp
  | succ j => simp
theorem zEnc_t {v : Int32} {st : List Bool} (h : zEnc v st) (hl : st.length < 30) : zEnc ((v <<< ((1 : Int32) &&& 31)) ||| 1) (true :: st) := by
  intro j hj
  have hj' : j < st.length + 1 := by simpa using hj
  rw [b_or, b_sl1 v (by omega), bt1]
  cases j with
  | zero => simp
  | succ j => have := h j (by omega); simp [this]
theorem zEnc_f {v : Int32} {st : List Bool} (h : zEnc v st) (hl : st.length < 30) : zEnc ((v <<< ((1 : Int32) &&& 31)) ||| 0) (false :: st) := by
  intro j hj
  have hj' : j < st.length + 1 := by simpa using hj
  rw [b_or, b_sl1 v (by omega), b_0]
  cases j with
  | zero => simp
  | succ j => have := h j (by omega); simp [this]
theorem and1_0 {v : Int32} : (v &&& 1) = 0 ↔ bt v 0 = false := by
  constructor
  · intro h
    have : bt (v &&& 1) 0 = bt 0 0 := by rw [h]
    rw [b_and, bt1, b_0] at this
    simpa using this
  · intro h
    refine b_ext fun i hi => ?_
    rw [b_and, bt1, b_0]
    by_cases q : i = 0
    · subst q; simp [h]
    · simp [q]
theorem dv300 {v : Nat} (h : v < 2 ^ 31) : nI v / 300 = nI (v / 300) := pk_div (d := 300) h (by decide) (by decide)
theorem dv100 {v : Nat} (h : v < 2 ^ 31) : nI v / 100 = nI (v / 100) := pk_div (d := 100) h (by decide) (by decide)
theorem md100 {v : Nat} (h : v < 2 ^ 31) : nI v - nI v / 100 * 100 = nI (v % 100) := pk_rem (d := 100) h (by decide) (by decide)
theorem md3 {v : Nat} (h : v < 2 ^ 31) : nI v - nI v / 3 * 3 = nI (v % 3) := pk_rem (d := 3) h (by decide) (by decide)
noncomputable def aHolds (env : Nat → Int32) (ts : List zTok) : Bool := match aEv env ts [] with
  | some [b] => b
  | _ => false
theorem aHolds_of {env : Nat → Int32} {ts : List zTok} {b : Bool} (h : aEv env ts [] = some [b]) : aHolds env ts = b := by simp [aHolds, h]
noncomputable def aWay (a b s : Int32) : List zCla → Option Nat
  | [] => none
  | q :: A => if q.1 = 0 ∧ aHolds (zenv a b s 0 0) q.2.2 = true then some q.2.1 else aWay a b s A
noncomputable def aSum (a l f : Int32) : List zCla → Nat
  | [] => 0
  | q :: A => (if q.1 = 1 ∧ aHolds (zenv a 0 0 l f) q.2.2 = true then q.2.1 else 0) + aSum a l f A
def aLast (w : Nat) : List zCla → Nat → Nat
  | [], u => u
  | q :: A, u => aLast w A (if q.1 = w then q.2.1 else u)
noncomputable def aHab (a l f : Int32) (A : List zCla) : Nat := min (aSum a l f A) 100
def aSteps (A : List zCla) : Nat := min (aLast 4 A 9) 9
def oI : Option Nat → Int32
  | none => -5
  | some k => nI k
/-- a law's own well-formedness -/
def aOk (A : List zCla) : Prop := A.length ≤ 10 ∧ ∀ q ∈ A, q.1 < 5 ∧ q.2.1 ≤ 999 ∧ (q.1 < 2 → (∀ t ∈ q.2.2, tkOk t) ∧ ∀ env, ∃ b, aEv env q.2.2 [] = some [b])
def dCl : zCla := (0, 0, [])
def dTk : zTok := .inl 0
/-- law i of the component holds A -/
def cLaw (I : zI) (i : Nat) (A : List zCla) : Prop := aOk A ∧ I (47 + 5 * i) 3 = nI A.length ∧ ∃ e : Nat → Nat, e 0 = 0 ∧ (∀ j, j ≤ A.length → e j ≤ 100) ∧ ∀ j, j < A.length →
  I (47 + 5 * i + 1) j = nI (A.getD j dCl).1 ∧ I (47 + 5 * i + 2) j = nI (A.getD j dCl).2.1 ∧ I (47 + 5 * i + 3) j = nI (e (j + 1)) ∧ ((A.getD j dCl).1 < 2 → e j + (A.getD j dCl).2.2.length = e (j + 1) ∧ ∀ k, k < (A.getD j dCl).2.2.length → I (47 + 5 * i + 4) (e j + k) = cTok ((A.getD j dCl).2.2.getD k dTk))
theorem zenv_at {k n : Nat} {lt a b s l f : Int32} (hk : k < 5) (h : lt = nI k) (c : lt = OfNat.ofNat n) (hn : n < 5) : zenv a b s l f n = zenv a b s l f k := by
  rw [h] at c
  have : k = n := (nI_eq (by omega) (by omega)).mp c
  rw [this]
theorem zenv_d {k : Nat} {lt a b s l f : Int32} (hk : k < 5) (h : lt = nI k) (c0 : ¬ lt = 0) (c1 : ¬ lt = 1) (c2 : ¬ lt = 2) (c3 : ¬ lt = 3) : f = zenv a b s l f k := by
  subst h
  match k, hk with
  | 0, _ => exact absurd rfl c0
  | 1, _ => exact absurd rfl c1
  | 2, _ => exact absurd rfl c2
  | 3, _ => exact absurd rfl c3
  | 4, _ => rfl
abbrev rm_X1_valueOf : Room := { frames := 4, cells := 0, slots := 0, locals := 200 }
set_option maxRecDepth 100000 in
set_option maxHeartbeats 4000000 in
theorem k_X1_valueOf (w : zW) (I : zI) (J : zJ) (k : Nat) (lt : Int32) (a : Int32) (b : Int32) (s : Int32) (l : Int32) (f : Int32) (hk : k < 5) (hlt : lt = nI k) : zMet yX1_valueOf cX1_valueOf 6 (some .int) rm_X1_valueOf w [.int lt, .int a, .int b, .int s, .int l, .int f] I J (zpi (fun v I' J' => v = zenv a b s l f k ∧ I' = I ∧ J' = J)) := by
  refine zMet_of (by decide) (Nat.le_of_ble_eq_true rfl) (fun X C hm hr => ?_)
  refine z_sub (lv' := [(0, .int lt), (1, .int a), (2, .int b), (3, .int s), (4, .int l), (5, .int f)]) [0, 1, 2, 3, 4, 5] rfl ?_
  refine z_iload_n C dX1_valueOf_0 rfl 0 rfl ?_
  by_cases c1_0 : lt = 0
  · skip
    refine z_tableIn (tgt := 32) C dX1_valueOf_1 (by rw [c1_0]; decide) (by rw [c1_0]; decide) (off := 31) (by rw [c1_0]; decide) (by decide) ?_
    refine z_iload_n C dX1_valueOf_32 rfl 1 rfl ?_
    refine z_iret C hr rfl dX1_valueOf_33 ?_
    refine ⟨_, rfl, ?_⟩
    exact ⟨zenv_at (n := 0) hk hlt c1_0 (by decide), rfl, rfl⟩
  by_cases c1_1 : lt = 1
  · skip
    refine z_tableIn (tgt := 34) C dX1_valueOf_1 (by rw [c1_1]; decide) (by rw [c1_1]; decide) (off := 33) (by rw [c1_1]; decide) (by decide) ?_
    refine z_iload_n C dX1_valueOf_34 rfl 2 rfl ?_
    refine z_iret C hr rfl dX1_valueOf_35 ?_
    refine ⟨_, rfl, ?_⟩
    exact ⟨zenv_at (n := 1) hk hlt c1_1 (by decide), rfl, rfl⟩
  by_cases c1_2 : lt = 2
  · skip
    refine z_tableIn (tgt := 36) C dX1_valueOf_1 (by rw [c1_2]; decide) (by rw [c1_2]; decide) (off := 35) (by rw [c1_2]; decide) (by decide) ?_
    refine z_iload_n C dX1_valueOf_36 rfl 3 rfl ?_
    refine z_iret C hr rfl dX1_valueOf_37 ?_
    refine ⟨_, rfl, ?_⟩
    exact ⟨zenv_at (n := 2) hk hlt c1_2 (by decide), rfl, rfl⟩
  by_cases c1_3 : lt = 3
  · skip
    refine z_tableIn (tgt := 38) C dX1_valueOf_1 (by rw [c1_3]; decide) (by rw [c1_3]; decide) (off := 37) (by rw [c1_3]; decide) (by decide) ?_
    refine z_iload C dX1_valueOf_38 4 rfl ?_
    refine z_iret C hr rfl dX1_valueOf_40 ?_
    refine ⟨_, rfl, ?_⟩
    exact ⟨zenv_at (n := 3) hk hlt c1_3 (by decide), rfl, rfl⟩
  refine z_tableOut (tgt := 41) C dX1_valueOf_1 (by have h0 := lv_neT c1_0 (a := 0) (by decide); have h1 := lv_neT c1_1 (a := 1) (by decide); have h2 := lv_neT c1_2 (a := 2) (by decide); have h3 := lv_neT c1_3 (a := 3) (by decide); omega) (by decide) ?_
  refine z_iload C dX1_valueOf_41 5 rfl ?_
  refine z_iret C hr rfl dX1_valueOf_43 ?_
  refine ⟨_, rfl, ?_⟩
  exact ⟨zenv_d hk hlt c1_0 c1_1 c1_2 c1_3, rfl, rfl⟩
abbrev rm_X1_passes : Room := { frames := 4, cells := 0, slots := 0, locals := 200 }
set_option maxRecDepth 100000 in
set_option maxHeartbeats 4000000 in
theorem k_X1_passes (w : zW) (I : zI) (J : zJ) (r : Nat) (x : Int32) (rl : Int32) (y : Int32) (hr3 : r < 3) (hrl : rl = nI r) : zMet yX1_passes cX1_passes 3 (some .boolean) rm_X1_passes w [.int x, .int rl, .int y] I J (zpi (fun v I' J' => v = bI (zrel r x y) ∧ I' = I ∧ J' = J)) := by
  refine zMet_of (by decide) (Nat.le_of_ble_eq_true rfl) (fun X C hm hr => ?_)
  refine z_sub (lv' := [(0, .int x), (1, .int rl), (2, .int y)]) [0, 1, 2] rfl ?_
  refine z_iload_n C dX1_passes_0 rfl 1 rfl ?_
  by_cases c1_0 : rl = 0
  · skip
    refine z_lookup (tgt := 28) C dX1_passes_1 (by decide) (off := 27) (by rw [c1_0]; decide) (by decide) ?_
    obtain rfl : r = 0 := (nI_eq (b := 0) (by omega) (by decide)).mp (hrl.symm.trans c1_0)
    refine z_iload_n C dX1_passes_28 rfl 0 rfl ?_
    refine z_iload_n C dX1_passes_29 rfl 2 rfl ?_
    refine z_icmp_ge (tgt := 37) C dX1_passes_30 (by decide) (fun c30 => ?_) (fun c30 => ?_)
    · skip
      refine z_iconst C (v := 0) dX1_passes_37 (by decide) ?_
      refine z_iret C hr (by decide) dX1_passes_38 ?_
      refine ⟨_, rfl, ?_⟩
      exact ⟨(bI_f (Int32.not_lt.mpr c30)).symm, rfl, rfl⟩
    · skip
      refine z_iconst C (v := 1) dX1_passes_33 (by decide) ?_
      refine z_goto (tgt := 38) C dX1_passes_34 (by decide) ?_
      refine z_iret C hr (by decide) dX1_passes_38 ?_
      refine ⟨_, rfl, ?_⟩
      exact ⟨(bI_t (Int32.not_le.mp c30)).symm, rfl, rfl⟩
  by_cases c1_1 : rl = 1
  · skip
    refine z_lookup (tgt := 39) C dX1_passes_1 (by decide) (off := 38) (by rw [c1_1]; decide) (by decide) ?_
    obtain rfl : r = 1 := (nI_eq (b := 1) (by omega) (by decide)).mp (hrl.symm.trans c1_1)
    refine z_iload_n C dX1_passes_39 rfl 0 rfl ?_
    refine z_iload_n C dX1_passes_40 rfl 2 rfl ?_
    refine z_icmp_ne (tgt := 48) C dX1_passes_41 (by decide) (fun c41 => ?_) (fun c41 => ?_)
    · skip
      refine z_iconst C (v := 0) dX1_passes_48 (by decide) ?_
      refine z_iret C hr (by decide) dX1_passes_49 ?_
      refine ⟨_, rfl, ?_⟩
      exact ⟨(bI_f c41).symm, rfl, rfl⟩
    · skip
      refine z_iconst C (v := 1) dX1_passes_44 (by decide) ?_
      refine z_goto (tgt := 49) C dX1_passes_45 (by decide) ?_
      refine z_iret C hr (by decide) dX1_passes_49 ?_
      refine ⟨_, rfl, ?_⟩
      exact ⟨(bI_t c41).symm, rfl, rfl⟩
  refine z_lookup (tgt := 50) C dX1_passes_1 (by decide) (off := 49) (by show Op.lookupswitch.offset [(0, 27), (1, 38)] _ _ = _; rw [lv_osw c1_0 (by decide), lv_osw c1_1 (by decide)]; rfl) (by decide) ?_
  obtain rfl : r = 2 := by
    subst hrl
    match r, hr3 with
    | 0, _ => exact absurd rfl c1_0
    | 1, _ => exact absurd rfl c1_1
    | 2, _ => rfl
  refine z_iload_n C dX1_passes_50 rfl 0 rfl ?_
  refine z_iload_n C dX1_passes_51 rfl 2 rfl ?_
  refine z_icmp_le (tgt := 59) C dX1_passes_52 (by decide) (fun c52 => ?_) (fun c52 => ?_)
  · skip
    refine z_iconst C (v := 0) dX1_passes_59 (by decide) ?_
    refine z_iret C hr (by decide) dX1_passes_60 ?_
    refine ⟨_, rfl, ?_⟩
    exact ⟨(bI_f (Int32.not_lt.mpr c52)).symm, rfl, rfl⟩
  · skip
    refine z_iconst C (v := 1) dX1_passes_55 (by decide) ?_
    refine z_goto (tgt := 60) C dX1_passes_56 (by decide) ?_
    refine z_iret C hr (by decide) dX1_passes_60 ?_
    refine ⟨_, rfl, ?_⟩
    exact ⟨(bI_t (Int32.not_le.mp c52)).symm, rfl, rfl⟩
