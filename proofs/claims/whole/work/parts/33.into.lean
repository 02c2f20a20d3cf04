/-! readInto, law -/
abbrev zRl : Type := Nat × Option (List zCla)
noncomputable def zLw (c : Nat → Nat) (L : Nat) : Nat → Nat → List zCla → zRl
  | 0, p, _ => (p, none)
  | f + 1, p, A => match zKl c p with
    | (q, none) => (q, none)
    | (q, some k) => if L ≤ q then (q, some (A ++ [k])) else if f = 0 then (q, none) else if c q = 59 then zLw c L f (q + 1) (A ++ [k]) else (q, none)
def zKlOk (q : zCla) : Prop := q.1 < 5 ∧ q.2.1 ≤ 999 ∧ (q.1 < 2 → (∀ t ∈ q.2.2, tkOk t) ∧ ∀ env, ∃ b, aEv env q.2.2 [] = some [b])
/-- a law as far as it is read -/
def zPl (I : zI) (i : Nat) (A : List zCla) (u : Nat) : Prop := aOk A ∧ I (47 + 5 * i) 3 = nI A.length ∧ I (47 + 5 * i) 5 = nI u ∧ ∃ e : Nat → Nat, e 0 = 0 ∧ e A.length = u ∧ (∀ j, j ≤ A.length → e j ≤ u) ∧ ∀ j, j < A.length →
  I (47 + 5 * i + 1) j = nI (A.getD j dCl).1 ∧ I (47 + 5 * i + 2) j = nI (A.getD j dCl).2.1 ∧ I (47 + 5 * i + 3) j = nI (e (j + 1)) ∧ ((A.getD j dCl).1 < 2 → e j + (A.getD j dCl).2.2.length = e (j + 1) ∧ ∀ k, k < (A.getD j dCl).2.2.length → I (47 + 5 * i + 4) (e j + k) = cTok ((A.getD j dCl).2.2.getD k dTk))
theorem zPl_law {I : zI} {i u : Nat} {A : List zCla} (h : zPl I i A u) (hu : u ≤ 100) : cLaw I i A := by
  obtain ⟨h1, h2, _, e, e0, _, e2, e3⟩ := h
  exact ⟨h1, h2, e, e0, fun j hj => Nat.le_trans (e2 j hj) hu, e3⟩
theorem zPl_0 {I : zI} {i : Nat} : zPl (zup I (47 + 5 * i) (upd (upd (I (47 + 5 * i)) 3 0) 5 0)) i [] 0 :=
  ⟨⟨Nat.zero_le _, fun q h => absurd h (List.not_mem_nil)⟩, by rw [zup_s]; rfl, by rw [zup_s]; rfl, fun _ => 0, rfl, rfl, fun _ _ => Nat.le_refl _, fun j h => absurd h (Nat.not_lt_zero _)⟩
theorem zPl_c {I K : zI} {i u : Nat} {A : List zCla} (h : zPl I i A u) (hc : ∀ k, 47 + 5 * i ≤ k → k ≤ 47 + 5 * i + 4 → K k = I k) : zPl K i A u := by
  unfold zPl at h ⊢
  rw [hc (47 + 5 * i) (by omega) (by omega), hc (47 + 5 * i + 1) (by omega) (by omega), hc (47 + 5 * i + 2) (by omega) (by omega), hc (47 + 5 * i + 3) (by omega) (by omega), hc (47 + 5 * i + 4) (by omega) (by omega)]
  exact h
theorem zPl_s {I K : zI} {i u p q : Nat} {A : List zCla} {k : zCla} (h : zPl I i A u) (hp : zPc I K i u A.length (q, some k) 1) (hA : A.length < 10) (hk : zKlOk k) : zPl K i (A ++ [k]) (u + k.2.2.length) := by
  obtain ⟨⟨_, h1⟩, h2, h3, e, e0, e1, e2, e4⟩ := h
  obtain ⟨_, _, _, b0, b1, b2, b3, b4, b5⟩ := hp
  have hlen : (A ++ [k]).length = A.length + 1 := by rw [List.length_append]; rfl
  have gl : ∀ j, j < A.length → (A ++ [k]).getD j dCl = A.getD j dCl := fun j hj => by
    rw [List.getD_eq_getElem?_getD, List.getD_eq_getElem?_getD, List.getElem?_append_left hj]
  have gr : (A ++ [k]).getD A.length dCl = k := by
    rw [List.getD_eq_getElem?_getD, List.getElem?_append_right (Nat.le_refl _), Nat.sub_self]; rfl
  obtain ⟨E, hE1, hE2⟩ : ∃ E : Nat → Nat, (∀ j, j ≤ A.length → E j = e j) ∧ E (A.length + 1) = u + k.2.2.length := ⟨fun j => if j ≤ A.length then e j else u + k.2.2.length, fun j hj => if_pos hj, if_neg (by omega)⟩
  refine ⟨⟨by rw [hlen]; omega, fun x hx => ?_⟩, ?_, ?_, E, ?_, ?_, ?_, ?_⟩
  · rcases List.mem_append.mp hx with z | z
    · exact h1 x z
    · have : x = k := by simpa using z
      subst this; exact hk
  · rw [b0, hlen]; exact upd_s
  · rw [b0, upd_n (by decide)]; exact upd_s
  · rw [hE1 0 (Nat.zero_le _)]; exact e0
  · rw [hlen]; exact hE2
  · intro j hj
    rw [hlen] at hj
    by_cases z : j ≤ A.length
    · rw [hE1 j z]; have := e2 j z; omega
    · rw [show j = A.length + 1 by omega, hE2]; exact Nat.le_refl _
  · intro j hj
    rw [hlen] at hj
    by_cases z : j < A.length
    · rw [gl j z, hE1 j (by omega), hE1 (j + 1) (by omega)]
      obtain ⟨g1, g2, g3, g4⟩ := e4 j z
      refine ⟨by rw [b1, upd_n (by omega)]; exact g1, by rw [b2, upd_n (by omega)]; exact g2, by rw [b3, upd_n (by omega)]; exact g3, fun hw => ?_⟩
      obtain ⟨g5, g6⟩ := g4 hw
      refine ⟨g5, fun x hx => ?_⟩
      have := e2 (j + 1) (by omega)
      rw [b4 _ (by omega)]; exact g6 x hx
    · have hj2 : j = A.length := by omega
      subst hj2
      rw [gr, hE1 _ (Nat.le_refl _), hE2, e1]
      exact ⟨by rw [b1]; exact upd_s, by rw [b2]; exact upd_s, by rw [b3]; exact upd_s, fun _ => ⟨rfl, b5⟩⟩
/-- what is read evaluates: a reader's tokens put one truth on the pile -/
def zVal (d : Nat) (S : Nat → zR) : Prop := ∀ p q ts, S p = (q, some ts) → ∀ (env : Nat → Int32) (st : List Bool) (rest : List zTok), st.length + d ≤ 30 → ∃ b, aEv env (ts ++ rest) st = aEv env rest (b :: st)
theorem zTest_val {c : Nat → Nat} : zVal 1 (zTest c) := by
  intro p q ts h env st rest hd
  unfold zTest at h
  cases h1 : zWh 5 (c p) (zLen.getD 5 0) 0 with
  | none => rw [h1] at h; simp at h
  | some l =>
    rw [h1] at h; simp only at h
    cases h2 : zWh 6 (c (p + 1)) (zLen.getD 6 0) 0 with
    | none => rw [h2] at h; simp at h
    | some r =>
      rw [h2] at h; simp only at h
      by_cases hz : zDc c 2 (p + 1 + 1) = 0
      · rw [if_pos hz] at h; simp at h
      · rw [if_neg hz] at h
        have e := (Prod.mk.inj h).2
        have e2 := Option.some.inj e
        subst e2
        exact ⟨_, by show aEv env (.inr (l, r, _) :: rest) st = _; rw [aEv, if_pos (by omega)]⟩
theorem zLp_val {c : Nat → Nat} {S : Nat → zR} {d ch tk : Nat} (hS : zVal d S) (htk : tk = 1 ∨ tk = 2) : ∀ (f p : Nat) (ts : List zTok) (q : Nat) (us : List zTok), zLp c S ch tk f p ts = (q, some us) → ∀ (env : Nat → Int32) (st : List Bool), st.length + (d + 1) ≤ 30 → (∀ rest, ∃ b, aEv env (ts ++ rest) st = aEv env rest (b :: st)) → ∀ rest, ∃ b, aEv env (us ++ rest) st = aEv env rest (b :: st)
  | 0, p, ts, q, us, h, env, st, hd, ht => by
    rw [zLp] at h
    have e := Option.some.inj (Prod.mk.inj h).2
    subst e; exact ht
  | f + 1, p, ts, q, us, h, env, st, hd, ht => by
    rw [zLp] at h
    by_cases e : c p = ch
    · rw [if_pos e] at h
      rcases hq : S (p + 1) with ⟨q1, _ | us1⟩
      · rw [hq] at h; simp at h
      · rw [hq] at h; simp only at h
        refine zLp_val hS htk f q1 (ts ++ us1 ++ [.inl tk]) q us h env st hd (fun rest => ?_)
        obtain ⟨b, hb⟩ := ht (us1 ++ ([.inl tk] ++ rest))
        obtain ⟨b2, hb2⟩ := hS (p + 1) q1 us1 hq env (b :: st) ([.inl tk] ++ rest) (by simp only [List.length_cons]; omega)
        rw [List.append_assoc, List.append_assoc, hb, hb2]
        rcases htk with z | z
        · subst z; exact ⟨b && b2, by show aEv env (.inl 1 :: rest) _ = _; rw [aEv]⟩
        · subst z; exact ⟨b || b2, by show aEv env (.inl 2 :: rest) _ = _; rw [aEv]⟩
    · rw [if_neg e] at h
      have e2 := Option.some.inj (Prod.mk.inj h).2
      subst e2; exact ht
theorem zTp_val {c : Nat → Nat} {F : Nat → zR} {d : Nat} (hF : zVal d F) : zVal (d + 1) (zTp c F) := by
  intro p q ts h env st rest hd
  unfold zTp at h
  rcases hq : F p with ⟨q1, _ | us1⟩
  · rw [hq] at h; simp at h
  · rw [hq] at h; simp only at h
    exact zLp_val hF (Or.inl rfl) 100 q1 us1 q ts h env st hd (fun r => hF p q1 us1 hq env st r (by omega)) rest
theorem zEp_val {c : Nat → Nat} {F : Nat → zR} {d : Nat} (hF : zVal d F) : zVal (d + 2) (zEp c F) := by
  intro p q ts h env st rest hd
  unfold zEp at h
  have hT := zTp_val (c := c) hF
  rcases hq : zTp c F p with ⟨q1, _ | us1⟩
  · rw [hq] at h; simp at h
  · rw [hq] at h; simp only at h
    exact zLp_val hT (Or.inr rfl) 100 q1 us1 q ts h env st hd (fun r => hT p q1 us1 hq env st r (by omega)) rest
theorem zFp_val {c : Nat → Nat} : ∀ r, zVal (1 + 2 * r) (zFp c r)
  | 0 => by
    intro p q ts h env st rest hd
    rw [zFp] at h
    by_cases e : c p = 33 ∨ c p = 40
    · rw [if_pos e] at h; simp at h
    · rw [if_neg e] at h; exact zTest_val p q ts h env st rest (by omega)
  | r + 1 => by
    intro p q ts h env st rest hd
    have ih := zFp_val (c := c) r
    rw [zFp] at h
    by_cases e : c p = 33
    · rw [if_pos e] at h
      rcases hq : zFp c r (p + 1) with ⟨q1, _ | us1⟩
      · rw [hq] at h; simp at h
      · rw [hq] at h; simp only at h
        have e2 := Option.some.inj (Prod.mk.inj h).2
        subst e2
        obtain ⟨b, hb⟩ := ih (p + 1) q1 us1 hq env st ([.inl 0] ++ rest) (by omega)
        exact ⟨!b, by rw [List.append_assoc, hb]; show aEv env (.inl 0 :: rest) _ = _; rw [aEv]⟩
    · rw [if_neg e] at h
      by_cases e2 : c p = 40
      · rw [if_pos e2] at h
        rcases hq : zEp c (zFp c r) (p + 1) with ⟨q1, _ | us1⟩
        · rw [hq] at h; simp at h
        · rw [hq] at h; simp only at h
          by_cases e3 : c q1 = 41
          · rw [if_pos e3] at h
            have e4 := Option.some.inj (Prod.mk.inj h).2
            subst e4
            exact zEp_val ih (p + 1) q1 us1 hq env st rest (by omega)
          · rw [if_neg e3] at h; simp at h
      · rw [if_neg e2] at h; exact zTest_val p q ts h env st rest (by omega)
/-- a clause that is read: sound, and as long as the text -/
theorem zKl_ok {c : Nat → Nat} {L p q : Nat} {k : zCla} (hBe : ∀ q, L ≤ q → c q = 300) (hp : p ≤ L) (h : zKl c p = (q, some k)) : zKlOk k ∧ q ≤ L ∧ p < q ∧ k.2.2.length ≤ q - p := by
  unfold zKl at h
  cases hw : zWd c p 5 0 with
  | none => rw [hw] at h; simp at h
  | some u0 =>
    obtain ⟨hst, _, hu5⟩ := zWd_some 5 0 hw
    have hp1 := zSt_L (c := c) (p := p) (u := u0) (by omega) hBe hp
    rw [hst] at hp1
    rw [hw] at h; simp only at h
    by_cases e1 : c (p + zLen.getD u0 0) = 32
    · rw [if_pos e1] at h
      have e1L : p + zLen.getD u0 0 < L := Nat.lt_of_not_le (fun z => by have := hBe _ z; omega)
      generalize hP : p + zLen.getD u0 0 + 1 = P at h
      have hd3 := zDc_L hBe 3 P (by omega)
      by_cases e2 : zDc c 3 P = 0
      · rw [if_pos e2] at h; simp at h
      · rw [if_neg e2] at h
        have hv := zDv_lt (c := c) (p := P) (zDc c 3 P) (fun j hj => zDc_dig 3 P j hj)
        have hv2 : 10 ^ zDc c 3 P ≤ 10 ^ 3 := Nat.pow_le_pow_right (by decide) (zDc_le 3 P)
        by_cases e3 : u0 < 2
        · rw [if_pos e3] at h
          by_cases e4 : c (P + zDc c 3 P) = 32
          · rw [if_pos e4] at h
            have e4L : P + zDc c 3 P < L := Nat.lt_of_not_le (fun z => by have := hBe _ z; omega)
            rcases hq : zEp c (zFp c 4) (P + zDc c 3 P + 1) with ⟨q1, _ | ts⟩
            · rw [hq] at h; simp at h
            · rw [hq] at h; simp only at h
              have e5 := Option.some.inj (Prod.mk.inj h).2
              have e6 := (Prod.mk.inj h).1
              subst e5; subst e6
              obtain ⟨g1, g2, g3, g4⟩ := zGd_a (zEp_gd hBe (zFp_gd hBe 4)) (show P + zDc c 3 P + 1 ≤ L by omega) hq
              refine ⟨⟨hu5, by show zDv c P (zDc c 3 P) ≤ 999; omega, fun _ => ⟨g4, fun env => ?_⟩⟩, g1, by omega, by show ts.length ≤ q1 - p; omega⟩
              obtain ⟨b, hb⟩ := zEp_val (zFp_val 4) _ q1 ts hq env [] [] (by decide)
              rw [List.append_nil] at hb
              exact ⟨b, by rw [hb]; rfl⟩
          · rw [if_neg e4] at h; simp at h
        · rw [if_neg e3] at h
          have e5 := Option.some.inj (Prod.mk.inj h).2
          have e6 := (Prod.mk.inj h).1
          subst e5; subst e6
          exact ⟨⟨hu5, by show zDv c P (zDc c 3 P) ≤ 999; omega, fun z => absurd z e3⟩, hd3, by omega, Nat.zero_le _⟩
    · rw [if_neg e1] at h; simp at h
theorem zPc_at {I K : zI} {i u cn : Nat} {r : zRc} {v : Int32} (h : zPc I K i u cn r v) : K 2 = upd (I 2) 2 (nI r.1) := h.1
theorem zPc_f {I K : zI} {i u cn q : Nat} {k : zCla} (h : zPc I K i u cn (q, some k) 1) : K (47 + 5 * i) 3 = nI (cn + 1) ∧ K (47 + 5 * i) 5 = nI (u + k.2.2.length) := by
  obtain ⟨_, _, _, b0, _⟩ := h
  exact ⟨by rw [b0]; exact upd_s, by rw [b0, upd_n (by decide)]; exact upd_s⟩
theorem zKl_no {c : Nat → Nat} {L p q : Nat} (hBe : ∀ q, L ≤ q → c q = 300) (hp : p ≤ L) (h : zKl c p = (q, none)) : q ≤ L ∧ p ≤ q := by
  unfold zKl at h
  cases hw : zWd c p 5 0 with
  | none =>
    rw [hw] at h
    have e := (Prod.mk.inj h).1
    have := zFt_L (c := c) hBe hp 5 (by decide)
    omega
  | some u0 =>
    obtain ⟨hst, _, hu5⟩ := zWd_some 5 0 hw
    have hp1 := zSt_L (c := c) (p := p) (u := u0) (by omega) hBe hp
    rw [hst] at hp1
    rw [hw] at h; simp only at h
    by_cases e1 : c (p + zLen.getD u0 0) = 32
    · rw [if_pos e1] at h
      have e1L : p + zLen.getD u0 0 < L := Nat.lt_of_not_le (fun z => by have := hBe _ z; omega)
      generalize hP : p + zLen.getD u0 0 + 1 = P at h
      have hd3 := zDc_L hBe 3 P (by omega)
      by_cases e2 : zDc c 3 P = 0
      · rw [if_pos e2] at h
        have e := (Prod.mk.inj h).1
        omega
      · rw [if_neg e2] at h
        by_cases e3 : u0 < 2
        · rw [if_pos e3] at h
          by_cases e4 : c (P + zDc c 3 P) = 32
          · rw [if_pos e4] at h
            have e4L : P + zDc c 3 P < L := Nat.lt_of_not_le (fun z => by have := hBe _ z; omega)
            rcases hq : zEp c (zFp c 4) (P + zDc c 3 P + 1) with ⟨q1, _ | ts⟩
            · rw [hq] at h
              have e := (Prod.mk.inj h).1
              have := zGd_n (zEp_gd hBe (zFp_gd hBe 4)) (show P + zDc c 3 P + 1 ≤ L by omega) hq
              omega
            · rw [hq] at h; simp at h
          · rw [if_neg e4] at h
            have e := (Prod.mk.inj h).1
            omega
        · rw [if_neg e3] at h; simp at h
    · rw [if_neg e1] at h
      have e := (Prod.mk.inj h).1
      omega
abbrev rm_X5_readInto : Room := { frames := 36, cells := 0, slots := 0, locals := 1886 }
set_option maxRecDepth 100000 in
set_option maxHeartbeats 4000000 in
theorem k_X5_readInto (w : zW) (I : zI) (J : zJ) (i : Nat) (c : Nat → Nat) (L : Nat)  (hi7 : i < 7) (hL : I 2 1 = nI L) (hl : L ≤ 100) (hBy : ∀ q, q < L → I 3 q = nI (c q) ∧ c q < 256) (hBe : ∀ q, L ≤ q → c q = 300) : zMet yX5_readInto cX5_readInto 3 (some .int) rm_X5_readInto w [.ref (zad w 2), .ref (zad w (47 + 5 * i))] I J (zpi (fun v I' J' => (∃ r : zRl, r = zLw c L 10 0 [] ∧ (∃ x, I' 2 = upd (I 2) 2 x) ∧ (∀ k, k ≠ 2 → (k < 47 + 5 * i ∨ 47 + 5 * i + 4 < k) → I' k = I k) ∧ match r.2 with | none => v = nI r.1 ∧ r.1 ≤ L | some A => v = -1 ∧ A ≠ [] ∧ ∃ u, u ≤ 100 ∧ zPl I' i A u) ∧ J' = J)) := by
  refine zMet_of (by decide) (Nat.le_of_ble_eq_true rfl) (fun X C hm hr => ?_)
  refine z_sub (lv' := [(0, .ref (zad w 2)), (1, .ref (zad w (47 + 5 * i)))]) [0, 1] rfl ?_
  refine z_aload_n C dX5_readInto_0 rfl 1 rfl ?_
  refine z_callVv C hm cl_X5_19 cv_X1_clear (47 + 5 * i) (shLn0 hi7) (shL0 hi7) ⟨_, _, rfl⟩ [] rfl (rest := []) rfl (k_X1_clear w _ _ i hi7) ⟨rfl, rfl, Nat.le_of_ble_eq_true rfl, Nat.le_of_ble_eq_true rfl⟩ (Nat.le_of_ble_eq_true rfl) dX5_readInto_1 (fun I_1 J_1 h_1 => ?_)
  obtain ⟨ei_1, ej_1⟩ := h_1
  replace ei_1 := ei_1.symm; subst ei_1
  replace ej_1 := ej_1.symm; subst ej_1
  refine z_aload_n C dX5_readInto_4 rfl 0 rfl ?_
  refine z_iconst C (v := 0) dX5_readInto_5 (by decide) ?_
  refine z_puti C ff_X5_24 2 (by decide) sh2 rfl rfl rfl dX5_readInto_6 ?_
  refine z_I (I' := zup (zup I (47 + 5 * i) (upd (upd (I (47 + 5 * i)) 3 0) 5 0)) 2 (upd (I 2) 2 0)) (by first | rfl | (rw [zup_n] <;> omega)) ?_
  refine z_iconst C (v := 1) dX5_readInto_9 (by decide) ?_
  refine z_istore_n C hm (lv' := [(2, .int 1), (0, .ref (zad w 2)), (1, .ref (zad w (47 + 5 * i)))]) dX5_readInto_10 rfl (by decide) rfl ?_
  have L11 : ∀ (d : Nat) (p u : Nat) (A : List zCla) (K : zI) (v11_2 : Int32) (I11 : zI), (10 - A.length) < d → (A.length < 10) → (p ≤ L) → (u ≤ p) → (zPl K i A u) → (K 2 = upd (I 2) 2 (nI p)) → (∀ k, k ≠ 2 → (k < 47 + 5 * i ∨ 47 + 5 * i + 4 < k) → K k = I k) → (zLw c L (10 - A.length) p A = zLw c L 10 0 []) → v11_2 = nI (A.length + 1) → I11 = K → Z X w I11 J 11 [(0, .ref (zad w 2)), (1, .ref (zad w (47 + 5 * i))), (2, .int v11_2)] [] := by
    intro d
    induction d with
    | zero => intro p u A K v11_2 I11 hd; exact absurd hd (Nat.not_lt_zero _)
    | succ d ih11 => 
      intro p u A K v11_2 I11 hd11 hAl hpl hup hPl hK2 hKf hE e_v11_2 e_I11
      replace e_v11_2 := e_v11_2.symm; subst e_v11_2
      replace e_I11 := e_I11.symm; subst e_I11
      have hKp : K 2 2 = nI p := by rw [hK2]; exact upd_s
      have hK1 : K 2 1 = I 2 1 := by rw [hK2]; exact upd_n (by decide)
      have hK3 : K 3 = I 3 := hKf 3 (by decide) (by omega)
      refine z_iload_n C dX5_readInto_11 rfl 2 rfl ?_
      refine z_bipush C (v := 10) dX5_readInto_12 (by decide) ?_
      refine z_icmp_gt_n (A.length + 1) 10 (tgt := 69) C rfl rfl (by omega) (by omega) dX5_readInto_14 (by decide) (fun c14 => ?_) (fun c14 => ?_)
      · skip
        exact absurd hAl (by omega)
      · skip
        refine z_aload_n C dX5_readInto_17 rfl 0 rfl ?_
        refine z_aload_n C dX5_readInto_18 rfl 1 rfl ?_
        refine z_callVi C hm cl_X5_27 cv_X5_readClause 2 (by decide) sh2 ⟨_, _, rfl⟩ [.ref (zad w (47 + 5 * i))] rfl (rest := []) rfl (k_X5_readClause w _ _ i u A.length c L p hi7 hPl.2.1 hAl hPl.2.2.1 hup (hK1.trans hL) hl hKp hpl (by rw [hK3]; exact hBy) hBe) ⟨rfl, rfl, Nat.le_of_ble_eq_true rfl, Nat.le_of_ble_eq_true rfl⟩ (Nat.le_of_ble_eq_true rfl) dX5_readInto_19 (fun v_2 I_2 J_2 h_2 => ?_)
        obtain ⟨hz_2, ej_2⟩ := h_2
        replace ej_2 := ej_2.symm; subst ej_2
        have hq2 := zPc_at hz_2
        rcases hq : zKl c p with ⟨q, _ | k⟩
        · skip
          rw [hq] at hz_2 hq2
          have hv_2 : v_2 = 0 := hz_2.2.2; subst hv_2
          have hgp : I_2 2 2 = nI q := by rw [hq2]; exact upd_s
          refine z_if_ne (tgt := 30) C dX5_readInto_22 (by decide) (fun c22 => ?_) (fun c22 => ?_)
          · skip
            exact absurd rfl c22
          · skip
            refine z_aload_n C dX5_readInto_25 rfl 0 rfl ?_
            refine z_geti C ff_X5_24 2 (by decide) sh2 rfl (v := nI q) hgp dX5_readInto_26 ?_
            refine z_iret C hr rfl dX5_readInto_29 ?_
            refine ⟨_, rfl, ?_⟩
            refine ⟨⟨_, rfl, ⟨_, (by rw [hq2, hK2, upd_2])⟩, (fun k h1 h2 => by rw [hz_2.2.1 k h1 h2, hKf k h1 h2]), ?_⟩, rfl⟩
            rw [← hE, show 10 - A.length = 10 - A.length - 1 + 1 by omega, zLw, hq]; simp only
            exact ⟨by first | rfl | trivial, (zKl_no hBe hpl hq).1⟩
        · skip
          rw [hq] at hz_2 hq2
          have hv_2 : v_2 = 1 := hz_2.2.2.1; subst hv_2
          have hgp : I_2 2 2 = nI q := by rw [hq2]; exact upd_s
          have hgl : I_2 2 1 = nI L := by rw [hq2, upd_n (by decide)]; exact hK1.trans hL
          obtain ⟨hok, hqL, hpq, hkl⟩ := zKl_ok hBe hpl hq
          have hPl2 := zPl_s (p := p) hPl hz_2 hAl hok
          refine z_if_ne (tgt := 30) C dX5_readInto_22 (by decide) (fun c22 => ?_) (fun c22 => ?_)
          · skip
            refine z_aload_n C dX5_readInto_30 rfl 0 rfl ?_
            refine z_geti C ff_X5_24 2 (by decide) sh2 rfl (v := nI q) hgp dX5_readInto_31 ?_
            refine z_aload_n C dX5_readInto_34 rfl 0 rfl ?_
            refine z_geti C ff_X5_15 2 (by decide) sh2 rfl (v := nI L) hgl dX5_readInto_35 ?_
            refine z_icmp_lt_n q L (tgt := 43) C rfl rfl (by omega) (by omega) dX5_readInto_38 (by decide) (fun c38 => ?_) (fun c38 => ?_)
            · skip
              refine z_iload_n C dX5_readInto_43 rfl 2 rfl ?_
              refine z_bipush C (v := 10) dX5_readInto_44 (by decide) ?_
              refine z_icmp_eq_n (A.length + 1) 10 (tgt := 58) C rfl rfl (by omega) (by omega) dX5_readInto_46 (by decide) (fun c46 => ?_) (fun c46 => ?_)
              · skip
                refine z_aload_n C dX5_readInto_58 rfl 0 rfl ?_
                refine z_geti C ff_X5_24 2 (by decide) sh2 rfl (v := nI q) hgp dX5_readInto_59 ?_
                refine z_iret C hr rfl dX5_readInto_62 ?_
                refine ⟨_, rfl, ?_⟩
                refine ⟨⟨_, rfl, ⟨_, (by rw [hq2, hK2, upd_2])⟩, (fun k h1 h2 => by rw [hz_2.2.1 k h1 h2, hKf k h1 h2]), ?_⟩, rfl⟩
                rw [← hE, show 10 - A.length = 10 - A.length - 1 + 1 by omega, zLw, hq]; simp only
                rw [if_neg (by omega), if_pos (by omega)]
                exact ⟨by first | rfl | trivial, hqL⟩
              · skip
                refine z_aload_n C dX5_readInto_49 rfl 0 rfl ?_
                refine z_bipush C (v := 59) dX5_readInto_50 (by decide) ?_
                refine z_callVi C hm cl_X5_31 cv_X5_eats 2 (by decide) sh2 ⟨_, _, rfl⟩ [.int 59] rfl (rest := []) rfl (k_X5_eats w _ _ c L q 59 hgl hl hgp hqL (by rw [hz_2.2.1 3 (by decide) (by omega), hK3]; exact hBy) hBe (by decide)) ⟨rfl, rfl, Nat.le_of_ble_eq_true rfl, Nat.le_of_ble_eq_true rfl⟩ (Nat.le_of_ble_eq_true rfl) dX5_readInto_52 (fun v_3 I_3 J_3 h_3 => ?_)
                obtain ⟨ev_3, ei_3, ej_3⟩ := h_3
                replace ej_3 := ej_3.symm; subst ej_3
                by_cases ce : c q = 59
                · skip
                  rw [bI_t ce] at ev_3; rw [cif_t ce] at ei_3; subst ev_3; subst ei_3
                  refine z_if_ne (tgt := 63) C dX5_readInto_55 (by decide) (fun c55 => ?_) (fun c55 => ?_)
                  · skip
                    refine z_iinc C hm 2 (v := nI (A.length + 1 + 1)) (lv' := [(2, .int (nI (A.length + 1 + 1))), (0, .ref (zad w 2)), (1, .ref (zad w (47 + 5 * i)))]) dX5_readInto_63 rfl (nI_add (A.length + 1) 1) (by decide) rfl ?_
                    refine z_goto (tgt := 11) C dX5_readInto_66 (by decide) ?_
                    exact z_sub [1, 2, 0] rfl (ih11  (q + 1) (u + k.2.2.length) (A ++ [k]) _ _ _ (by rw [List.length_append]; show 10 - (A.length + 1) < d; omega) (by rw [List.length_append]; show A.length + 1 < 10; omega) (by omega) (by omega) (zPl_c hPl2 (fun k h1 h2 => by rw [zup_n (by omega)])) (by rw [zup_s, hq2, hK2, upd_2, upd_2]) (fun k h1 h2 => by rw [zup_n h1, hz_2.2.1 k h1 h2, hKf k h1 h2]) (by rw [← hE, show 10 - A.length = 10 - A.length - 1 + 1 by omega, zLw, hq]; simp only; rw [if_neg (by omega), if_neg (by omega), if_pos ce, List.length_append]; rfl) (by rw [List.length_append]; rfl) rfl)
                  · skip
                    exact absurd c55 (by decide)
                · skip
                  rw [bI_f ce] at ev_3; rw [cif_f ce] at ei_3; subst ev_3; subst ei_3
                  refine z_if_ne (tgt := 63) C dX5_readInto_55 (by decide) (fun c55 => ?_) (fun c55 => ?_)
                  · skip
                    exact absurd rfl c55
                  · skip
                    refine z_aload_n C dX5_readInto_58 rfl 0 rfl ?_
                    refine z_geti C ff_X5_24 2 (by decide) sh2 rfl (v := nI q) hgp dX5_readInto_59 ?_
                    refine z_iret C hr rfl dX5_readInto_62 ?_
                    refine ⟨_, rfl, ?_⟩
                    refine ⟨⟨_, rfl, ⟨_, (by rw [hq2, hK2, upd_2])⟩, (fun k h1 h2 => by rw [hz_2.2.1 k h1 h2, hKf k h1 h2]), ?_⟩, rfl⟩
                    rw [← hE, show 10 - A.length = 10 - A.length - 1 + 1 by omega, zLw, hq]; simp only
                    rw [if_neg (by omega), if_neg (by omega), if_neg ce]
                    exact ⟨by first | rfl | trivial, hqL⟩
            · skip
              refine z_iconst C (v := -1) dX5_readInto_41 (by decide) ?_
              refine z_iret C hr rfl dX5_readInto_42 ?_
              refine ⟨_, rfl, ?_⟩
              refine ⟨⟨_, rfl, ⟨_, (by rw [hq2, hK2, upd_2])⟩, (fun k h1 h2 => by rw [hz_2.2.1 k h1 h2, hKf k h1 h2]), ?_⟩, rfl⟩
              rw [← hE, show 10 - A.length = 10 - A.length - 1 + 1 by omega, zLw, hq]; simp only
              rw [if_pos (by omega)]
              exact ⟨by first | rfl | trivial, fun z => absurd (congrArg List.length z) (by rw [List.length_append]; exact Nat.succ_ne_zero _), _, by omega, hPl2⟩
          · skip
            exact absurd c22 (by decide)
  exact z_sub [1, 2, 0] rfl (L11 _ 0 0 [] _ _ _ (Nat.lt_succ_self _) (by decide) (Nat.zero_le _) (Nat.le_refl _) (zPl_c (zPl_0 (I := I)) (fun k h1 h2 => by rw [zup_n (a := 2) (by omega)])) (by rw [zup_s]; rfl) (fun k h1 h2 => by rw [zup_n h1, zup_n (by omega)]) rfl rfl rfl)
