/-! the reference: laws -/
def mCl (I : zI) (b l u : Nat) (A : List zCla) : Prop := aOk A ∧ ∀ j, j < A.length → I 88 (10 * l + j) = nI (A.getD j dCl).1 ∧ I 89 (10 * l + j) = nI (A.getD j dCl).2.1 ∧ ((A.getD j dCl).1 < 2 → ∃ s, s + (A.getD j dCl).2.2.length ≤ u ∧ I 90 (10 * l + j) = nI s ∧ I 91 (10 * l + j) = nI (s + (A.getD j dCl).2.2.length) ∧ ∀ k, k < (A.getD j dCl).2.2.length → I 92 (s + k) = mTok ((A.getD j dCl).2.2.getD k dTk))
def mLw (I : zI) (l : Nat) (A : List zCla) : Prop := I 87 l = nI A.length ∧ mCl I 0 l (100 * (l + 1)) A
theorem mLw_law {I : zI} {l : Nat} {A : List zCla} (hl : l < 6) (h : mLw I l A) : mLaw I l A := by
  obtain ⟨h1, h2, h3⟩ := h
  refine ⟨h2, h1, fun j hj => ?_⟩
  obtain ⟨g1, g2, g3⟩ := h3 j hj
  refine ⟨g1, g2, fun q => ?_⟩
  obtain ⟨s, a1, a2⟩ := g3 q
  exact ⟨s, by omega, a2⟩
theorem mCl_c {I K : zI} {b l u : Nat} {A : List zCla} (h : mCl I b l u A) (e88 : K 88 = I 88) (e89 : K 89 = I 89) (e90 : K 90 = I 90) (e91 : K 91 = I 91) (e92 : K 92 = I 92) : mCl K b l u A := by
  unfold mCl at h ⊢
  rw [e88, e89, e90, e91, e92]; exact h
theorem mLw_c {I K : zI} {l : Nat} {A : List zCla} (h : mLw I l A) (e : ∀ k, 87 ≤ k → k ≤ 92 → K k = I k) : mLw K l A :=
  ⟨by rw [e 87 (by decide) (by decide)]; exact h.1, mCl_c h.2 (e 88 (by decide) (by decide)) (e 89 (by decide) (by decide)) (e 90 (by decide) (by decide)) (e 91 (by decide) (by decide)) (e 92 (by decide) (by decide))⟩
theorem mCl_s {I K : zI} {b l u q : Nat} {A : List zCla} {k : zCla} (h : mCl I b l u A) (hp : zC8 I K u (10 * l + A.length) (q, some k) 1) (hA : A.length < 10) (hk : zKlOk k) : mCl K b l (u + k.2.2.length) (A ++ [k]) := by
  obtain ⟨⟨_, h1⟩, h4⟩ := h
  obtain ⟨_, _, _, c1, c2, _, b1, b2, b3, b4⟩ := hp
  have hlen : (A ++ [k]).length = A.length + 1 := by rw [List.length_append]; rfl
  have gl : ∀ j, j < A.length → (A ++ [k]).getD j dCl = A.getD j dCl := fun j hj => by
    rw [List.getD_eq_getElem?_getD, List.getD_eq_getElem?_getD, List.getElem?_append_left hj]
  have gr : (A ++ [k]).getD A.length dCl = k := by
    rw [List.getD_eq_getElem?_getD, List.getElem?_append_right (Nat.le_refl _), Nat.sub_self]; rfl
  refine ⟨⟨by rw [hlen]; omega, fun x hx => ?_⟩, ?_⟩
  · rcases List.mem_append.mp hx with z | z
    · exact h1 x z
    · have : x = k := by simpa using z
      subst this; exact hk
  · intro j hj
    rw [hlen] at hj
    by_cases z : j < A.length
    · rw [gl j z]
      obtain ⟨g1, g2, g4⟩ := h4 j z
      obtain ⟨f1, f2, f3, f4⟩ := c2 (10 * l + j) (by omega)
      refine ⟨by rw [f1]; exact g1, by rw [f2]; exact g2, fun hw => ?_⟩
      obtain ⟨s, g5, g6, g7, g8⟩ := g4 hw
      refine ⟨s, by omega, by rw [f3]; exact g6, by rw [f4]; exact g7, fun x hx => ?_⟩
      rw [c1 _ (by omega)]; exact g8 x hx
    · have hj2 : j = A.length := by omega
      subst hj2
      rw [gr]
      refine ⟨b1, b2, fun hw => ?_⟩
      obtain ⟨d1, d2, d3⟩ := b4 hw
      exact ⟨u, Nat.le_refl _, d1, d2, d3⟩
def frG (I K : zI) (l : Nat) : Prop := (∀ k, k ≠ 82 → (k < 87 ∨ 93 < k) → K k = I k) ∧ frO8 (K 82) (I 82) ∧ (∀ k, k ≠ l → K 87 k = I 87 k) ∧ (∀ k, (k < 10 * l ∨ 10 * l + 10 ≤ k) → K 88 k = I 88 k ∧ K 89 k = I 89 k ∧ K 90 k = I 90 k ∧ K 91 k = I 91 k) ∧ ∀ k, k < 100 * l → K 92 k = I 92 k
theorem frG_s {I K K2 : zI} {l u a : Nat} {r : zRc} {v : Int32} (h : frG I K l) (hz : zC8 K K2 u (10 * l + a) r v) (ha : a < 10) (hu : 100 * l ≤ u) : frG I K2 l := by
  obtain ⟨h1, h2, h3, h4, h5⟩ := h
  obtain ⟨z1, z2, z3, z4, z5, _⟩ := hz
  refine ⟨fun k q1 q2 => ?_, fun k q1 q2 q3 q4 q5 => ?_, fun k q => ?_, fun k q => ?_, fun k q => ?_⟩
  · rw [z1 k q1 (by omega)]; exact h1 k q1 q2
  · rw [z2 k q1 q2 q3 q4 q5]; exact h2 k q1 q2 q3 q4 q5
  · rw [z1 87 (by decide) (by decide)]; exact h3 k q
  · obtain ⟨f1, f2, f3, f4⟩ := z5 k (by omega)
    rw [f1, f2, f3, f4]; exact h4 k q
  · rw [z4 k (by omega)]; exact h5 k q
theorem frG_87 {I K : zI} {l : Nat} {x : Int32} (h : frG I K l) : frG I (zup K 87 (upd (K 87) l x)) l := by
  obtain ⟨h1, h2, h3, h4, h5⟩ := h
  refine ⟨fun k q1 q2 => ?_, ?_, fun k q => ?_, fun k q => ?_, fun k q => ?_⟩
  · rw [zup_n (by omega)]; exact h1 k q1 q2
  · rw [zup_n (by decide)]; exact h2
  · rw [zup_s, upd_n q]; exact h3 k q
  · rw [zup_n (by decide), zup_n (by decide), zup_n (by decide), zup_n (by decide)]; exact h4 k q
  · rw [zup_n (by decide)]; exact h5 k q
theorem frG_82 {I K : zI} {l : Nat} {O : Nat → Int32} (h : frG I K l) (hO : frO8 O (I 82)) : frG I (zup K 82 O) l := by
  obtain ⟨h1, h2, h3, h4, h5⟩ := h
  refine ⟨fun k q1 q2 => ?_, ?_, fun k q => ?_, fun k q => ?_, fun k q => ?_⟩
  · rw [zup_n q1]; exact h1 k q1 q2
  · rw [zup_s]; exact hO
  · rw [zup_n (by decide)]; exact h3 k q
  · rw [zup_n (by decide), zup_n (by decide), zup_n (by decide), zup_n (by decide)]; exact h4 k q
  · rw [zup_n (by decide)]; exact h5 k q
theorem frG_r {I : zI} {l : Nat} : frG I I l := ⟨fun _ _ _ => rfl, fun _ _ _ _ _ _ => rfl, fun _ _ => rfl, fun _ _ => ⟨rfl, rfl, rfl, rfl⟩, fun _ _ => rfl⟩
theorem frO8_7 {O P : Nat → Int32} {x : Int32} (h : frO8 O P) : frO8 (upd O 7 x) P := fun k h1 h2 h3 h4 h5 => by rw [upd_n h1]; exact h k h1 h2 h3 h4 h5
/-- the same with the fields of the law -/
def frL (I K : zI) (l : Nat) : Prop := (∀ k, k ≠ 82 → (k < 87 ∨ 93 < k) → K k = I k) ∧ (∀ k, (k < 4 ∨ (8 < k ∧ k < 17) ∨ 19 < k) → K 82 k = I 82 k) ∧ (∀ k, k ≠ l → K 87 k = I 87 k) ∧ (∀ k, (k < 10 * l ∨ 10 * l + 10 ≤ k) → K 88 k = I 88 k ∧ K 89 k = I 89 k ∧ K 90 k = I 90 k ∧ K 91 k = I 91 k) ∧ ∀ k, k < 100 * l → K 92 k = I 92 k
theorem frL_82 {I K : zI} {l : Nat} {O : Nat → Int32} (h : frG I K l) (hO : ∀ k, (k < 4 ∨ (8 < k ∧ k < 17) ∨ 19 < k) → O k = K 82 k) : frL I (zup K 82 O) l := by
  obtain ⟨h1, h2, h3, h4, h5⟩ := h
  refine ⟨fun k q1 q2 => ?_, fun k q => ?_, fun k q => ?_, fun k q => ?_, fun k q => ?_⟩
  · rw [zup_n q1]; exact h1 k q1 q2
  · rw [zup_s, hO k q]; exact h2 k (by omega) (by omega) (by omega) (by omega) (by omega)
  · rw [zup_n (by decide)]; exact h3 k q
  · rw [zup_n (by decide), zup_n (by decide), zup_n (by decide), zup_n (by decide)]; exact h4 k q
  · rw [zup_n (by decide)]; exact h5 k q
theorem mCl_w {I : zI} {b l u u' : Nat} {A : List zCla} (h : mCl I b l u A) (hu : u ≤ u') : mCl I b l u' A := by
  refine ⟨h.1, fun j hj => ?_⟩
  obtain ⟨g1, g2, g3⟩ := h.2 j hj
  refine ⟨g1, g2, fun q => ?_⟩
  obtain ⟨s, a1, a2⟩ := g3 q
  exact ⟨s, by omega, a2⟩
abbrev rm_X8_goesText : Room := { frames := 10, cells := 0, slots := 0, locals := 331 }
set_option maxRecDepth 100000 in
set_option maxHeartbeats 4000000 in
theorem k_X8_goesText (w : zW) (I : zI) (J : zJ) (c : Nat → Nat) (L : Nat) (l : Nat) (hl6 : l < 6) (hL : I 82 6 = nI L) (hl : L ≤ 100) (hBy : ∀ q, q < L → I 86 q = zNx (c q) ∧ c q < 256) (hBe : ∀ q, L ≤ q → c q = 300) : zMet yX8_goesText cX8_goesText 3 (some .boolean) rm_X8_goesText w [.ref (zad w 82), .int (nI l)] I J (zpi (fun v I' J' => (∃ r : zRl, r = zLw c L 10 0 [] ∧ frG I I' l ∧ match r.2 with | none => v = 0 ∧ I' 82 7 = nI r.1 | some A => v = 1 ∧ A ≠ [] ∧ mLw I' l A) ∧ J' = J)) := by
  refine zMet_of (by decide) (Nat.le_of_ble_eq_true rfl) (fun X C hm hr => ?_)
  refine z_sub (lv' := [(0, .ref (zad w 82)), (1, .int (nI l))]) [0, 1] rfl ?_
  refine z_aload_n C dX8_goesText_0 rfl 0 rfl ?_
  refine z_iconst C (v := 0) dX8_goesText_1 (by decide) ?_
  refine z_puti C ff_X8_32 82 (by decide) sh82 rfl rfl rfl dX8_goesText_2 ?_
  refine z_I (I' := zup I 82 (upd (I 82) 7 0)) rfl ?_
  refine z_aload_n C dX8_goesText_5 rfl 0 rfl ?_
  refine z_bipush C (v := 100) dX8_goesText_6 (by decide) ?_
  refine z_iload_n C dX8_goesText_8 rfl 1 rfl ?_
  refine z_imul C dX8_goesText_9 ?_
  refine z_ti (y := nI (100 * l)) (pk_mul 100 l) ?_
  refine z_puti C ff_X8_62 82 (by decide) sh82 rfl rfl rfl dX8_goesText_10 ?_
  refine z_I (I' := zup I 82 (upd (upd (I 82) 7 0) 17 (nI (100 * l)))) (by rw [zup_s, zup_up]) ?_
  refine z_iconst C (v := 0) dX8_goesText_13 (by decide) ?_
  refine z_istore_n C hm (lv' := [(2, .int 0), (0, .ref (zad w 82)), (1, .int (nI l))]) dX8_goesText_14 rfl (by decide) rfl ?_
  have L15 : ∀ (d : Nat) (p u : Nat) (A : List zCla) (K : zI) (v15_2 : Int32) (I15 : zI), (10 - A.length) < d → (A.length < 10) → (p ≤ L) → (100 * l ≤ u) → (u ≤ 100 * l + p) → (mCl K 0 l u A) → (K 82 7 = nI p) → (K 82 17 = nI u) → (frG I K l) → (zLw c L (10 - A.length) p A = zLw c L 10 0 []) → v15_2 = nI (A.length) → I15 = K → Z X w I15 J 15 [(0, .ref (zad w 82)), (1, .int (nI l)), (2, .int v15_2)] [] := by
    intro d
    induction d with
    | zero => intro p u A K v15_2 I15 hd; exact absurd hd (Nat.not_lt_zero _)
    | succ d ih15 => 
      intro p u A K v15_2 I15 hd15 hAl hpl hu1 hup hCl hK7 hK17 hKf hE e_v15_2 e_I15
      replace e_v15_2 := e_v15_2.symm; subst e_v15_2
      replace e_I15 := e_I15.symm; subst e_I15
      have hKb : K 86 = I 86 := hKf.1 86 (by decide) (by decide)
      have hK6 : K 82 6 = nI L := by rw [hKf.2.1 6 (by decide) (by decide) (by decide) (by decide) (by decide)]; exact hL
      refine z_aload_n C dX8_goesText_15 rfl 0 rfl ?_
      refine z_bipush C (v := 10) dX8_goesText_16 (by decide) ?_
      refine z_iload_n C dX8_goesText_18 rfl 1 rfl ?_
      refine z_imul C dX8_goesText_19 ?_
      refine z_ti (y := nI (10 * l)) (pk_mul 10 l) ?_
      refine z_iload_n C dX8_goesText_20 rfl 2 rfl ?_
      refine z_iadd C dX8_goesText_21 ?_
      refine z_ti (y := nI (10 * l + A.length)) (nI_add (10 * l) A.length) ?_
      refine z_callVi C hm cl_X8_245 cv_X8_takesClause 82 (by decide) sh82 ⟨_, _, rfl⟩ [.int (nI (10 * l + A.length))] rfl (rest := []) rfl (k_X8_takesClause w _ _ u c L p (10 * l + A.length) (hK6) hl hK7 hpl (by rw [hKb]; exact hBy) hBe hK17 (by omega) (by omega)) ⟨rfl, rfl, Nat.le_of_ble_eq_true rfl, Nat.le_of_ble_eq_true rfl⟩ (Nat.le_of_ble_eq_true rfl) dX8_goesText_22 (fun v_1 I_1 J_1 h_1 => ?_)
      obtain ⟨hz_1, ej_1⟩ := h_1
      replace ej_1 := ej_1.symm; subst ej_1
      have hfr := frG_s hKf hz_1 hAl (by omega)
      rcases hq : zKl c p with ⟨q, _ | k⟩
      · skip
        rw [hq] at hz_1
        have hgp : I_1 82 7 = nI q := hz_1.2.2.1
        have hv_1 : v_1 = 0 := hz_1.2.2.2.2.2; subst hv_1
        refine z_if_ne (tgt := 30) C dX8_goesText_25 (by decide) (fun c25 => ?_) (fun c25 => ?_)
        · skip
          exact absurd rfl c25
        · skip
          refine z_iconst C (v := 0) dX8_goesText_28 (by decide) ?_
          refine z_iret C hr (by decide) dX8_goesText_29 ?_
          refine ⟨_, rfl, ?_⟩
          refine ⟨⟨_, rfl, hfr, ?_⟩, rfl⟩
          rw [← hE, show 10 - A.length = 10 - A.length - 1 + 1 by omega, zLw, hq]; simp only
          exact ⟨by first | rfl | trivial, hgp⟩
      · skip
        rw [hq] at hz_1
        have hgp : I_1 82 7 = nI q := hz_1.2.2.1
        have hv_1 : v_1 = 1 := hz_1.2.2.2.2.2.1; subst hv_1
        have hL : I_1 82 6 = nI L := by rw [hfr.2.1 6 (by decide) (by decide) (by decide) (by decide) (by decide)]; exact hL
        have hBy : ∀ q, q < L → I_1 86 q = zNx (c q) ∧ c q < 256 := by rw [hfr.1 86 (by decide) (by decide)]; exact hBy
        obtain ⟨hok, hqL, hpq, hkl⟩ := zKl_ok hBe hpl hq
        have hCl2 := mCl_s hCl hz_1 hAl hok
        have h17 := hz_1.2.2.2.2.2.2.2.2.1
        have hfr7 : frG I (zup I_1 87 (upd (I_1 87) l (nI (A.length + 1)))) l := frG_87 hfr
        refine z_if_ne (tgt := 30) C dX8_goesText_25 (by decide) (fun c25 => ?_) (fun c25 => ?_)
        · skip
          refine z_iinc C hm 2 (v := nI (A.length + 1)) (lv' := [(2, .int (nI (A.length + 1))), (0, .ref (zad w 82)), (1, .int (nI l))]) dX8_goesText_30 rfl (nI_add A.length 1) (by decide) rfl ?_
          refine z_aload_n C dX8_goesText_33 rfl 1 rfl ?_
          refine z_getr C ff_X8_41 82 (by decide) sh82 rfl dX8_goesText_34 ?_
          refine z_iload_n C dX8_goesText_37 rfl 2 rfl ?_
          refine z_iload_n C dX8_goesText_38 rfl 0 rfl ?_
          refine z_iast C 87 (by decide) sh87 l (by omega) (by decide) rfl dX8_goesText_39 ?_
          refine z_I (I' := zup I_1 87 (upd (I_1 87) l (nI (A.length + 1)))) rfl ?_
          refine z_aload_n C dX8_goesText_40 rfl 1 rfl ?_
          refine z_geti C ff_X8_32 82 (by decide) sh82 rfl (v := nI q) (by first | exact hgp | (simp [zup, zupJ, upd, vp_updL]; exact hgp)) dX8_goesText_41 ?_
          refine z_aload_n C dX8_goesText_44 rfl 1 rfl ?_
          refine z_geti C ff_X8_29 82 (by decide) sh82 rfl (v := nI L) (by first | exact hL | (simp [zup, zupJ, upd, vp_updL]; exact hL)) dX8_goesText_45 ?_
          refine z_icmp_ne_n q L (tgt := 53) C rfl rfl (by omega) (by omega) dX8_goesText_48 (by decide) (fun c48 => ?_) (fun c48 => ?_)
          · skip
            refine z_iload_n C dX8_goesText_53 rfl 0 rfl ?_
            refine z_bipush C (v := 10) dX8_goesText_54 (by decide) ?_
            refine z_icmp_eq_n (A.length + 1) 10 (tgt := 68) C rfl rfl (by omega) (by omega) dX8_goesText_56 (by decide) (fun c56 => ?_) (fun c56 => ?_)
            · skip
              refine z_iconst C (v := 0) dX8_goesText_68 (by decide) ?_
              refine z_iret C hr (by decide) dX8_goesText_69 ?_
              refine ⟨_, rfl, ?_⟩
              refine ⟨⟨_, rfl, hfr7, ?_⟩, rfl⟩
              rw [← hE, show 10 - A.length = 10 - A.length - 1 + 1 by omega, zLw, hq]; simp only
              rw [if_neg (by omega), if_pos (by omega)]
              exact ⟨by first | rfl | trivial, hgp⟩
            · skip
              refine z_aload_n C dX8_goesText_59 rfl 1 rfl ?_
              refine z_bipush C (v := 59) dX8_goesText_60 (by decide) ?_
              refine z_callVi C hm cl_X8_201 cv_X8_takes 82 (by decide) sh82 ⟨_, _, rfl⟩ [.int 59] rfl (rest := []) rfl (k_X8_takes w _ _ c L q 59 (by exact hL) hl (by exact hgp) (by omega) (by exact hBy) hBe (by decide)) ⟨rfl, rfl, Nat.le_of_ble_eq_true rfl, Nat.le_of_ble_eq_true rfl⟩ (Nat.le_of_ble_eq_true rfl) dX8_goesText_62 (fun v_2 I_2 J_2 h_2 => ?_)
              obtain ⟨ev_2, ei_2, ej_2⟩ := h_2
              replace ej_2 := ej_2.symm; subst ej_2
              by_cases ce : c q = 59
              · skip
                rw [bI_t ce] at ev_2; rw [cif_t ce] at ei_2; subst ev_2; subst ei_2
                have ceL : q < L := Nat.lt_of_not_le (fun z => by have := hBe _ z; have := hBe 0; omega)
                refine z_I (I' := zup (zup I_1 87 (upd (I_1 87) l (nI (A.length + 1)))) 82 (upd (I_1 82) 7 (nI (q + 1)))) (by funext zk; by_cases h1 : zk = 82 <;> simp [zup, h1, upd_2]) ?_
                refine z_if_ne (tgt := 15) C dX8_goesText_65 (by decide) (fun c65 => ?_) (fun c65 => ?_)
                · skip
                  exact z_sub [1, 2, 0] rfl (ih15  (q + 1) (u + k.2.2.length) (A ++ [k]) (zup (zup I_1 87 (upd (I_1 87) l (nI (A.length + 1)))) 82 (upd (I_1 82) 7 (nI (q + 1)))) _ _ (by rw [List.length_append]; show 10 - (A.length + 1) < d; omega) (by rw [List.length_append]; show A.length + 1 < 10; omega) (by omega) (by omega) (by omega) (mCl_c hCl2 (by rfl) (by rfl) (by rfl) (by rfl) (by rfl)) rfl h17 (frG_82 hfr7 (frO8_7 (fun k h1 h2 h3 h4 h5 => hfr.2.1 k h1 h2 h3 h4 h5))) (by rw [← hE, show 10 - A.length = 10 - A.length - 1 + 1 by omega, zLw, hq]; simp only; rw [if_neg (by omega), if_neg (by omega), if_pos ce, List.length_append]; rfl) (by rw [List.length_append]; rfl) rfl)
                · skip
                  exact absurd c65 (by decide)
              · skip
                rw [bI_f ce] at ev_2; rw [cif_f ce] at ei_2; subst ev_2; subst ei_2
                refine z_if_ne (tgt := 15) C dX8_goesText_65 (by decide) (fun c65 => ?_) (fun c65 => ?_)
                · skip
                  exact absurd rfl c65
                · skip
                  refine z_iconst C (v := 0) dX8_goesText_68 (by decide) ?_
                  refine z_iret C hr (by decide) dX8_goesText_69 ?_
                  refine ⟨_, rfl, ?_⟩
                  refine ⟨⟨_, rfl, hfr7, ?_⟩, rfl⟩
                  rw [← hE, show 10 - A.length = 10 - A.length - 1 + 1 by omega, zLw, hq]; simp only
                  rw [if_neg (by omega), if_neg (by omega), if_neg ce]
                  exact ⟨by first | rfl | trivial, hgp⟩
          · skip
            refine z_iconst C (v := 1) dX8_goesText_51 (by decide) ?_
            refine z_iret C hr (by decide) dX8_goesText_52 ?_
            refine ⟨_, rfl, ?_⟩
            refine ⟨⟨_, rfl, hfr7, ?_⟩, rfl⟩
            rw [← hE, show 10 - A.length = 10 - A.length - 1 + 1 by omega, zLw, hq]; simp only
            rw [if_pos (by omega)]
            exact ⟨by first | rfl | trivial, fun z => absurd (congrArg List.length z) (by rw [List.length_append]; exact Nat.succ_ne_zero _), by rw [zup_s, upd_s, List.length_append]; rfl, mCl_w (mCl_c hCl2 (zup_n (by decide)) (zup_n (by decide)) (zup_n (by decide)) (zup_n (by decide)) (zup_n (by decide))) (by omega)⟩
        · skip
          exact absurd c25 (by decide)
  exact z_sub [1, 2, 0] rfl (L15 _ 0 (100 * l) [] _ _ _ (Nat.lt_succ_self _) (by decide) (Nat.zero_le _) (Nat.le_refl _) (Nat.le_refl _) ⟨⟨Nat.zero_le _, fun q h => absurd h (List.not_mem_nil)⟩, fun j h => absurd h (Nat.not_lt_zero _)⟩ rfl rfl (frG_82 frG_r (fun k h1 h2 h3 h4 h5 => by rw [upd_n h3, upd_n h1])) rfl rfl rfl)
abbrev rm_X8_law : Room := { frames := 11, cells := 0, slots := 0, locals := 353 }
set_option maxRecDepth 100000 in
set_option maxHeartbeats 4000000 in
theorem k_X8_law (w : zW) (I : zI) (J : zJ) (lc : Nat) (c : Nat → Nat) (L : Nat)  (hLc : I 82 4 = nI lc) (hlc : lc ≤ 6) (hL : I 82 6 = nI L) (hl : L ≤ 100) (hBy : ∀ q, q < L → I 86 q = zNx (c q) ∧ c q < 256) (hBe : ∀ q, L ≤ q → c q = 300) : zMet yX8_law cX8_law 2 (some .int) rm_X8_law w [.ref (zad w 82)] I J (zpi (fun v I' J' => J' = J ∧ ((lc = 6 ∧ v = -4 ∧ I' = I) ∨ (lc < 6 ∧ ∃ r : zRl, r = zLw c L 10 0 [] ∧ frL I I' lc ∧ I' 82 6 = 0 ∧ match r.2 with | none => v = -10 - nI r.1 ∧ I' 82 5 = I 82 5 ∧ I' 82 4 = I 82 4 | some A => v = nI lc ∧ A ≠ [] ∧ mLw I' lc A ∧ I' 82 5 = nI lc ∧ I' 82 4 = nI (lc + 1))))) := by
  refine zMet_of (by decide) (Nat.le_of_ble_eq_true rfl) (fun X C hm hr => ?_)
  refine z_sub (lv' := [(0, .ref (zad w 82))]) [0] rfl ?_
  refine z_aload_n C dX8_law_0 rfl 0 rfl ?_
  refine z_geti C ff_X8_23 82 (by decide) sh82 rfl (v := nI lc) hLc dX8_law_1 ?_
  refine z_bipush C (v := 6) dX8_law_4 (by decide) ?_
  refine z_icmp_ne_n lc 6 (tgt := 12) C rfl rfl (by omega) (by omega) dX8_law_6 (by decide) (fun c6 => ?_) (fun c6 => ?_)
  · skip
    refine z_aload_n C dX8_law_12 rfl 0 rfl ?_
    refine z_aload_n C dX8_law_13 rfl 0 rfl ?_
    refine z_geti C ff_X8_23 82 (by decide) sh82 rfl (v := nI lc) hLc dX8_law_14 ?_
    refine z_callVi C hm cl_X8_248 cv_X8_goesText 82 (by decide) sh82 ⟨_, _, rfl⟩ [.int (nI lc)] rfl (rest := []) rfl (k_X8_goesText w _ _ c L lc (by omega) hL hl hBy hBe) ⟨rfl, rfl, Nat.le_of_ble_eq_true rfl, Nat.le_of_ble_eq_true rfl⟩ (Nat.le_of_ble_eq_true rfl) dX8_law_17 (fun v_1 I_1 J_1 h_1 => ?_)
    obtain ⟨⟨r, hr0, hfr, hm2⟩, ej_1⟩ := h_1
    replace ej_1 := ej_1.symm; subst ej_1
    have h4 : I_1 82 4 = nI lc := by rw [hfr.2.1 4 (by decide) (by decide) (by decide) (by decide) (by decide)]; exact hLc
    rcases r with ⟨q, _ | A⟩
    · skip
      obtain ⟨hv_1, hq7⟩ := hm2
      replace hv_1 : v_1 = 0 := hv_1; subst hv_1
      replace hq7 : I_1 82 7 = nI q := hq7
      refine z_istore_n C hm (lv' := [(1, .int 0), (0, .ref (zad w 82))]) dX8_law_20 rfl (by decide) rfl ?_
      refine z_aload_n C dX8_law_21 rfl 1 rfl ?_
      refine z_iconst C (v := 0) dX8_law_22 (by decide) ?_
      refine z_puti C ff_X8_29 82 (by decide) sh82 rfl rfl rfl dX8_law_23 ?_
      refine z_I (I' := zup I_1 82 (upd (I_1 82) 6 0)) rfl ?_
      refine z_iload_n C dX8_law_26 rfl 0 rfl ?_
      refine z_if_ne (tgt := 38) C dX8_law_27 (by decide) (fun c27 => ?_) (fun c27 => ?_)
      · skip
        exact absurd rfl c27
      · skip
        refine z_bipush C (v := -10) dX8_law_30 (by decide) ?_
        refine z_aload_n C dX8_law_32 rfl 1 rfl ?_
        refine z_geti C ff_X8_32 82 (by decide) sh82 rfl (v := nI q) (by first | exact hq7 | (simp [zup, zupJ, upd, vp_updL]; exact hq7)) dX8_law_33 ?_
        refine z_isub C dX8_law_36 ?_
        refine z_iret C hr rfl dX8_law_37 ?_
        refine ⟨_, rfl, ?_⟩
        refine ⟨rfl, Or.inr ⟨by omega, _, hr0, frL_82 hfr (fun k hk => by rw [upd_n (by omega)]), (by rw [zup_s]; exact upd_s), ?_⟩⟩
        exact ⟨by first | rfl | trivial, (hfr.2.1 5 (by decide) (by decide) (by decide) (by decide) (by decide)), (hfr.2.1 4 (by decide) (by decide) (by decide) (by decide) (by decide))⟩
    · skip
      obtain ⟨hv_1, hne, hMl⟩ := hm2
      replace hv_1 : v_1 = 1 := hv_1; subst hv_1
      refine z_istore_n C hm (lv' := [(1, .int 1), (0, .ref (zad w 82))]) dX8_law_20 rfl (by decide) rfl ?_
      refine z_aload_n C dX8_law_21 rfl 1 rfl ?_
      refine z_iconst C (v := 0) dX8_law_22 (by decide) ?_
      refine z_puti C ff_X8_29 82 (by decide) sh82 rfl rfl rfl dX8_law_23 ?_
      refine z_I (I' := zup I_1 82 (upd (I_1 82) 6 0)) rfl ?_
      refine z_iload_n C dX8_law_26 rfl 0 rfl ?_
      refine z_if_ne (tgt := 38) C dX8_law_27 (by decide) (fun c27 => ?_) (fun c27 => ?_)
      · skip
        refine z_aload_n C dX8_law_38 rfl 1 rfl ?_
        refine z_aload_n C dX8_law_39 rfl 1 rfl ?_
        refine z_geti C ff_X8_23 82 (by decide) sh82 rfl (v := nI lc) (by first | exact h4 | (simp [zup, zupJ, upd, vp_updL]; exact h4)) dX8_law_40 ?_
        refine z_puti C ff_X8_26 82 (by decide) sh82 rfl rfl rfl dX8_law_43 ?_
        refine z_I (I' := zup I_1 82 (upd (upd (I_1 82) 6 0) 5 (nI lc))) (by rw [zup_s, zup_up]) ?_
        refine z_aload_n C dX8_law_46 rfl 1 rfl ?_
        refine z_dup C dX8_law_47 rfl ?_
        refine z_geti C ff_X8_23 82 (by decide) sh82 rfl (v := nI lc) (by first | exact h4 | (simp [zup, zupJ, upd, vp_updL]; exact h4)) dX8_law_48 ?_
        refine z_iconst C (v := 1) dX8_law_51 (by decide) ?_
        refine z_iadd C dX8_law_52 ?_
        refine z_ti (y := nI (lc + 1)) (nI_add lc 1) ?_
        refine z_puti C ff_X8_23 82 (by decide) sh82 rfl rfl rfl dX8_law_53 ?_
        refine z_I (I' := zup I_1 82 (upd (upd (upd (I_1 82) 6 0) 5 (nI lc)) 4 (nI (lc + 1)))) (by rw [zup_s, zup_up]) ?_
        refine z_aload_n C dX8_law_56 rfl 1 rfl ?_
        refine z_geti C ff_X8_26 82 (by decide) sh82 rfl (v := nI lc) (by first | exact rfl | (simp [zup, zupJ, upd, vp_updL]; exact rfl)) dX8_law_57 ?_
        refine z_iret C hr rfl dX8_law_60 ?_
        refine ⟨_, rfl, ?_⟩
        refine ⟨rfl, Or.inr ⟨by omega, _, hr0, frL_82 hfr (fun k hk => by rw [upd_n (by omega), upd_n (by omega), upd_n (by omega)]), rfl, ?_⟩⟩
        exact ⟨by first | rfl | trivial, hne, mLw_c hMl (fun k h1 h2 => zup_n (by omega)), by rfl, by rfl⟩
      · skip
        exact absurd c27 (by decide)
  · skip
    refine z_bipush C (v := -4) dX8_law_9 (by decide) ?_
    refine z_iret C hr rfl dX8_law_11 ?_
    refine ⟨_, rfl, ?_⟩
    exact ⟨rfl, Or.inl ⟨by omega, rfl, rfl⟩⟩
