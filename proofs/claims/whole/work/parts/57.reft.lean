/-! the reference: conditions -/
/-- what a condition has read -/
def zE8 (I I' : zI) (u0 cc : Nat) (r : zR) (v : Int32) : Prop := (∀ k, k ≠ 82 → (k < 90 ∨ 93 < k) → I' k = I k) ∧ (∀ k, k ≠ 7 → k ≠ 8 → k ≠ 17 → k ≠ 18 → k ≠ 19 → I' 82 k = I 82 k) ∧ I' 82 7 = nI r.1 ∧ (∀ k, k < u0 → I' 92 k = I 92 k) ∧ (∀ k, k ≠ cc → I' 90 k = I 90 k ∧ I' 91 k = I 91 k) ∧ match r.2 with
  | none => v = 0
  | some ts => v = 1 ∧ I' 90 cc = nI u0 ∧ I' 91 cc = nI (u0 + ts.length) ∧ I' 82 17 = nI (u0 + ts.length) ∧ ∀ j, j < ts.length → I' 92 (u0 + j) = mTok (ts.getD j dTk)
def frO8 (O P : Nat → Int32) : Prop := ∀ k, k ≠ 7 → k ≠ 8 → k ≠ 17 → k ≠ 18 → k ≠ 19 → O k = P k
theorem zE8_mk {I : zI} {u0 cc : Nat} {r : zR} {v : Int32} {S W O T : Nat → Int32} (hO : frO8 O (I 82)) (h7 : O 7 = nI r.1) (hS : ∀ k, k < u0 → S k = I 92 k) (hT : ∀ k, k ≠ cc → T k = I 91 k) (h : match r.2 with
    | none => v = 0
    | some ts => v = 1 ∧ T cc = nI (u0 + ts.length) ∧ O 17 = nI (u0 + ts.length) ∧ ∀ j, j < ts.length → S (u0 + j) = mTok (ts.getD j dTk)) : zE8 I (zup (zup (zup (zup (zup I 82 O) 90 (upd (I 90) cc (nI u0))) 91 T) 92 S) 93 W) u0 cc r v := by
  refine ⟨fun k h1 h2 => ?_, fun k h1 h2 h3 h4 h5 => ?_, ?_, fun k hk => ?_, fun k hk => ⟨?_, ?_⟩, ?_⟩
  · rw [zup_n (by omega), zup_n (by omega), zup_n (by omega), zup_n (by omega), zup_n h1]
  · rw [zup_n (by decide), zup_n (by decide), zup_n (by decide), zup_n (by decide), zup_s]; exact hO k h1 h2 h3 h4 h5
  · rw [zup_n (by decide), zup_n (by decide), zup_n (by decide), zup_n (by decide), zup_s]; exact h7
  · rw [zup_n (by decide), zup_s]; exact hS k hk
  · rw [zup_n (by decide), zup_n (by decide), zup_n (by decide), zup_s]; exact upd_n hk
  · rw [zup_n (by decide), zup_n (by decide), zup_s]; exact hT k hk
  · rcases r with ⟨q, _ | ts⟩
    · exact h
    · obtain ⟨h1, h2, h3, h4⟩ := h
      refine ⟨h1, ?_, ?_, ?_, fun j hj => ?_⟩
      · rw [zup_n (by decide), zup_n (by decide), zup_n (by decide), zup_s]; exact upd_s
      · rw [zup_n (by decide), zup_n (by decide), zup_s]; exact h2
      · rw [zup_n (by decide), zup_n (by decide), zup_n (by decide), zup_n (by decide), zup_s]; exact h3
      · rw [zup_n (by decide), zup_s]; exact h4 j hj
abbrev rm_X8_takesE : Room := { frames := 8, cells := 0, slots := 0, locals := 287 }
set_option maxRecDepth 100000 in
set_option maxHeartbeats 4000000 in
theorem k_X8_takesE (w : zW) (I : zI) (J : zJ) (u0 : Nat) (c : Nat → Nat) (L p : Nat) (cc : Nat) (hL : I 82 6 = nI L) (hl : L ≤ 100) (hp : I 82 7 = nI p) (hpl : p ≤ L) (hBy : ∀ q, q < L → I 86 q = zNx (c q) ∧ c q < 256) (hBe : ∀ q, L ≤ q → c q = 300) (hs : I 82 17 = nI u0) (hcc : cc < 60) (hub : u0 + L ≤ 600 + p) : zMet yX8_takesE cX8_takesE 4 (some .boolean) rm_X8_takesE w [.ref (zad w 82), .int (nI cc)] I J (zpi (fun v I' J' => zE8 I I' u0 cc (zEp c (zFp c 4) p) v ∧ J' = J)) := by
  refine zMet_of (by decide) (Nat.le_of_ble_eq_true rfl) (fun X C hm hr => ?_)
  refine z_sub (lv' := [(0, .ref (zad w 82)), (1, .int (nI cc))]) [0, 1] rfl ?_
  refine z_aload_n C dX8_takesE_0 rfl 0 rfl ?_
  refine z_iconst C (v := 0) dX8_takesE_1 (by decide) ?_
  refine z_puti C ff_X8_65 82 (by decide) sh82 rfl rfl rfl dX8_takesE_2 ?_
  refine z_I (I' := zup I 82 (upd (I 82) 18 0)) rfl ?_
  refine z_aload_n C dX8_takesE_5 rfl 0 rfl ?_
  refine z_iconst C (v := 0) dX8_takesE_6 (by decide) ?_
  refine z_puti C ff_X8_68 82 (by decide) sh82 rfl rfl rfl dX8_takesE_7 ?_
  refine z_I (I' := zup I 82 (upd (upd (I 82) 18 0) 19 0)) (by rw [zup_s, zup_up]) ?_
  refine z_aload_n C dX8_takesE_10 rfl 0 rfl ?_
  refine z_getr C ff_X8_50 82 (by decide) sh82 rfl dX8_takesE_11 ?_
  refine z_iload_n C dX8_takesE_14 rfl 1 rfl ?_
  refine z_aload_n C dX8_takesE_15 rfl 0 rfl ?_
  refine z_geti C ff_X8_62 82 (by decide) sh82 rfl (v := nI u0) (by first | exact hs | (simp [zup, zupJ, upd, vp_updL]; exact hs)) dX8_takesE_16 ?_
  refine z_iast C 90 (by decide) sh90 cc (by omega) (by decide) rfl dX8_takesE_19 ?_
  refine z_I (I' := zup (zup I 82 (upd (upd (I 82) 18 0) 19 0)) 90 (upd (I 90) cc (nI u0))) (by first | rfl | (rw [zup_n] <;> omega)) ?_
  refine z_iconst C (v := 1) dX8_takesE_20 (by decide) ?_
  refine z_istore_n C hm (lv' := [(2, .int 1), (0, .ref (zad w 82)), (1, .int (nI cc))]) dX8_takesE_21 rfl (by decide) rfl ?_
  have L22 : ∀ (d : Nat) (fu p1 : Nat) (ws : List Nat) (wb : Bool) (ts : List zTok) (S W O T : Nat → Int32) (v22_2 : Int32) (I22 : zI), fu < d → (p ≤ p1) → (p1 ≤ L) → (L + 1 - p1 ≤ fu) → (mRun c fu p1 ws wb ts = zEp c (zFp c 4) p) → (zMs S W O u0 ts ws) → (O 6 = nI L) → (O 7 = nI p1) → (frO8 O (I 82)) → (∀ k, k < u0 → S k = I 92 k) → (∀ k, k ≠ cc → T k = I 91 k) → (okW ws) → (ts.length + ws.length ≤ p1 - p) → v22_2 = b2 wb → I22 = zup (zup (zup (zup (zup I 82 O) 90 (upd (I 90) cc (nI u0))) 91 T) 92 S) 93 W → Z X w I22 J 22 [(0, .ref (zad w 82)), (1, .int (nI cc)), (2, .int v22_2)] [] := by
    intro d
    induction d with
    | zero => intro fu p1 ws wb ts S W O T v22_2 I22 hd; exact absurd hd (Nat.not_lt_zero _)
    | succ d ih22 => 
      intro fu p1 ws wb ts S W O T v22_2 I22 hd22 hp1 hp1L hfu hE hz hO6 hO7 hfO hfS hfT hok hln e_v22_2 e_I22
      replace e_v22_2 := e_v22_2.symm; subst e_v22_2
      replace e_I22 := e_I22.symm; subst e_I22
      obtain ⟨fz, hfz⟩ : ∃ fz, fu = fz + 1 := ⟨fu - 1, by omega⟩
      rw [hfz] at hE
      have hc31 : c p1 < 301 := c_301 (fun q hq => (hBy q hq).2) hBe _
      refine z_aload_n C dX8_takesE_22 rfl 0 rfl ?_
      refine z_callVi C hm cl_X8_197 cv_X8_next 82 (by decide) sh82 ⟨_, _, rfl⟩ [] rfl (rest := []) rfl (k_X8_next w _ _ c L p1  (by exact hO6) hl (by exact hO7) (by omega) (by exact hBy) hBe) ⟨rfl, rfl, Nat.le_of_ble_eq_true rfl, Nat.le_of_ble_eq_true rfl⟩ (Nat.le_of_ble_eq_true rfl) dX8_takesE_23 (fun v_1 I_1 J_1 h_1 => ?_)
      obtain ⟨ev_1, ei_1, ej_1⟩ := h_1
      replace ev_1 := ev_1.symm; subst ev_1
      replace ei_1 := ei_1.symm; subst ei_1
      replace ej_1 := ej_1.symm; subst ej_1
      refine z_istore_n C hm (lv' := [(3, .int (zNx (c p1))), (0, .ref (zad w 82)), (1, .int (nI cc)), (2, .int (b2 wb))]) dX8_takesE_26 rfl (by decide) rfl ?_
      refine z_iload_n C dX8_takesE_27 rfl 3 rfl ?_
      refine z_if_eq (tgt := 110) C dX8_takesE_28 (by decide) (fun c28 => ?_) (fun c28 => ?_)
      · skip
        have hwb := b2_0 c28
        rw [hwb] at hE
        refine z_iload_n C dX8_takesE_110 rfl 0 rfl ?_
        refine z_bipush C (v := 38) dX8_takesE_111 (by decide) ?_
        refine z_icmp_eq (tgt := 122) C dX8_takesE_113 (by decide) (fun c113 => ?_) (fun c113 => ?_)
        · skip
          have hb : c p1 = 38 := (nx_eq (c p1) hc31 38 (by decide)).mp c113
          have hpL : p1 < L := Nat.lt_of_not_le (fun z => by have := hBe _ z; omega)
          rw [c113]
          refine z_aload_n C dX8_takesE_122 rfl 1 rfl ?_
          refine z_iload_n C dX8_takesE_123 rfl 0 rfl ?_
          refine z_callVv C hm cl_X8_225 cv_X8_settle 82 (by decide) sh82 ⟨_, _, rfl⟩ [.int 38] rfl (rest := []) rfl (k_X8_settle w _ _ u0 ts ws 38 (by exact hz) hok (by omega) (by omega) (by decide)) ⟨rfl, rfl, Nat.le_of_ble_eq_true rfl, Nat.le_of_ble_eq_true rfl⟩ (Nat.le_of_ble_eq_true rfl) dX8_takesE_124 (fun I_2 J_2 h_2 => ?_)
          obtain ⟨⟨S_2, O_2, ei_2, hz_2, hfO_2, hfS_2⟩, ej_2⟩ := h_2
          replace ei_2 := ei_2.symm; subst ei_2
          replace ej_2 := ej_2.symm; subst ej_2
          refine z_I (I' := zup (zup (zup (zup (zup I 82 O_2) 90 (upd (I 90) cc (nI u0))) 91 T) 92 S_2) 93 W) (by funext zk; by_cases h82 : zk = 82 <;> by_cases h90 : zk = 90 <;> by_cases h91 : zk = 91 <;> by_cases h92 : zk = 92 <;> by_cases h93 : zk = 93 <;> simp [zup, h82, h90, h91, h92, h93]) ?_
          obtain ⟨z1_2, z2_2, z3_2, z4_2, z5_2⟩ := id hz_2
          have hls_2 := len_st (s := 38) ws
          refine z_aload_n C dX8_takesE_127 rfl 1 rfl ?_
          refine z_getr C ff_X8_59 82 (by decide) sh82 rfl dX8_takesE_128 ?_
          refine z_aload_n C dX8_takesE_131 rfl 1 rfl ?_
          refine z_geti C ff_X8_65 82 (by decide) sh82 rfl (v := nI ((stW 38 ws).length)) (by first | exact z4_2 | (simp [zup, zupJ, upd, vp_updL]; exact z4_2)) dX8_takesE_132 ?_
          refine z_iload_n C dX8_takesE_135 rfl 0 rfl ?_
          refine z_iast C 93 (by decide) sh93 ((stW 38 ws).length) (by omega) (by decide) rfl dX8_takesE_136 ?_
          refine z_I (I' := zup (zup (zup (zup (zup I 82 O_2) 90 (upd (I 90) cc (nI u0))) 91 T) 92 S_2) 93 (upd W ((stW 38 ws).length) 38)) (by rw [zup_s, zup_up]) ?_
          refine z_aload_n C dX8_takesE_137 rfl 1 rfl ?_
          refine z_dup C dX8_takesE_138 rfl ?_
          refine z_geti C ff_X8_65 82 (by decide) sh82 rfl (v := nI ((stW 38 ws).length)) (by first | exact z4_2 | (simp [zup, zupJ, upd, vp_updL]; exact z4_2)) dX8_takesE_139 ?_
          refine z_iconst C (v := 1) dX8_takesE_142 (by decide) ?_
          refine z_iadd C dX8_takesE_143 ?_
          refine z_ti (y := nI (((stW 38 ws).length) + 1)) (nI_add ((stW 38 ws).length) 1) ?_
          refine z_puti C ff_X8_65 82 (by decide) sh82 rfl rfl rfl dX8_takesE_144 ?_
          refine z_I (I' := zup (zup (zup (zup (zup I 82 (upd O_2 18 (nI (((stW 38 ws).length) + 1)))) 90 (upd (I 90) cc (nI u0))) 91 T) 92 S_2) 93 (upd W ((stW 38 ws).length) 38)) (by funext zk; simp only [zup]; split <;> simp_all [zup]) ?_
          refine z_iconst C (v := 1) dX8_takesE_147 (by decide) ?_
          refine z_istore_n C hm (lv' := [(2, .int 1), (3, .int 38), (0, .ref (zad w 82)), (1, .int (nI cc))]) dX8_takesE_148 rfl (by decide) rfl ?_
          refine z_aload_n C dX8_takesE_149 rfl 2 rfl ?_
          refine z_dup C dX8_takesE_150 rfl ?_
          refine z_geti C ff_X8_32 82 (by decide) sh82 rfl (v := nI p1) (by first | exact ((hfO_2 7 (by decide) (by decide) (by decide)).trans hO7) | (simp [zup, zupJ, upd, vp_updL]; exact ((hfO_2 7 (by decide) (by decide) (by decide)).trans hO7))) dX8_takesE_151 ?_
          refine z_iconst C (v := 1) dX8_takesE_154 (by decide) ?_
          refine z_iadd C dX8_takesE_155 ?_
          refine z_ti (y := nI (p1 + 1)) (nI_add p1 1) ?_
          refine z_puti C ff_X8_32 82 (by decide) sh82 rfl rfl rfl dX8_takesE_156 ?_
          refine z_I (I' := zup (zup (zup (zup (zup I 82 (upd (upd O_2 18 (nI (((stW 38 ws).length) + 1))) 7 (nI (p1 + 1)))) 90 (upd (I 90) cc (nI u0))) 91 T) 92 S_2) 93 (upd W ((stW 38 ws).length) 38)) (by funext zk; simp only [zup]; split <;> simp_all [zup]) ?_
          refine z_goto (tgt := 22) C dX8_takesE_159 (by decide) ?_
          exact z_sub [2, 3, 0] rfl (ih22  fz (p1 + 1) (38 :: stW 38 ws) true (ts ++ stT 38 ws) S_2 (upd W ((stW 38 ws).length) 38) (upd (upd O_2 18 (nI (((stW 38 ws).length) + 1))) 7 (nI (p1 + 1))) T _ _ (by omega) (by omega) (by omega) (by omega) (by rw [mRun, if_pos (Or.inl hb), hb] at hE; exact hE) (zMs_w (x := 38) hz_2 rfl rfl (by rw [cntW, if_neg (by decide), Nat.zero_add]; exact hz_2.2.2.2.2)) ((hfO_2 6 (by decide) (by decide) (by decide)).trans hO6) rfl (fun k h1 h2 h3 h4 h5 => by rw [upd_n h1]; rw [upd_n h4]; rw [hfO_2 k h3 h4 h5]; exact hfO k h1 h2 h3 h4 h5) (fun k hk => by rw [hfS_2 k hk]; exact hfS k hk) hfT (okW_c (by decide) (okW_st hok)) (by have := len_st (s := 38) ws; simp only [List.length_append, List.length_cons] at this ⊢; omega) rfl (by funext zk; by_cases h82 : zk = 82 <;> by_cases h90 : zk = 90 <;> by_cases h91 : zk = 91 <;> by_cases h92 : zk = 92 <;> by_cases h93 : zk = 93 <;> simp [zup, h82, h90, h91, h92, h93]))
        · skip
          have hn38 : c p1 ≠ 38 := fun q => c113 ((nx_eq (c p1) hc31 38 (by decide)).mpr q)
          refine z_iload_n C dX8_takesE_116 rfl 0 rfl ?_
          refine z_bipush C (v := 124) dX8_takesE_117 (by decide) ?_
          refine z_icmp_ne (tgt := 162) C dX8_takesE_119 (by decide) (fun c119 => ?_) (fun c119 => ?_)
          · skip
            have hn124 : c p1 ≠ 124 := fun q => c119 ((nx_eq (c p1) hc31 124 (by decide)).mpr q)
            refine z_aload_n C dX8_takesE_162 rfl 1 rfl ?_
            refine z_bipush C (v := 124) dX8_takesE_163 (by decide) ?_
            refine z_callVv C hm cl_X8_225 cv_X8_settle 82 (by decide) sh82 ⟨_, _, rfl⟩ [.int 124] rfl (rest := []) rfl (k_X8_settle w _ _ u0 ts ws 124 (by exact hz) hok (by omega) (by omega) (by decide)) ⟨rfl, rfl, Nat.le_of_ble_eq_true rfl, Nat.le_of_ble_eq_true rfl⟩ (Nat.le_of_ble_eq_true rfl) dX8_takesE_165 (fun I_3 J_3 h_3 => ?_)
            obtain ⟨⟨S_3, O_3, ei_3, hz_3, hfO_3, hfS_3⟩, ej_3⟩ := h_3
            replace ei_3 := ei_3.symm; subst ei_3
            replace ej_3 := ej_3.symm; subst ej_3
            refine z_I (I' := zup (zup (zup (zup (zup I 82 O_3) 90 (upd (I 90) cc (nI u0))) 91 T) 92 S_3) 93 W) (by funext zk; by_cases h82 : zk = 82 <;> by_cases h90 : zk = 90 <;> by_cases h91 : zk = 91 <;> by_cases h92 : zk = 92 <;> by_cases h93 : zk = 93 <;> simp [zup, h82, h90, h91, h92, h93]) ?_
            obtain ⟨z1_3, z2_3, z3_3, z4_3, z5_3⟩ := id hz_3
            have hls_3 := len_st (s := 124) ws
            refine z_aload_n C dX8_takesE_168 rfl 1 rfl ?_
            refine z_getr C ff_X8_53 82 (by decide) sh82 rfl dX8_takesE_169 ?_
            refine z_iload_n C dX8_takesE_172 rfl 2 rfl ?_
            refine z_aload_n C dX8_takesE_173 rfl 1 rfl ?_
            refine z_geti C ff_X8_62 82 (by decide) sh82 rfl (v := nI (u0 + (ts ++ stT 124 ws).length)) (by first | exact z2_3 | (simp [zup, zupJ, upd, vp_updL]; exact z2_3)) dX8_takesE_174 ?_
            refine z_iast C 91 (by decide) sh91 cc (by omega) (by decide) rfl dX8_takesE_177 ?_
            refine z_I (I' := zup (zup (zup (zup (zup I 82 O_3) 90 (upd (I 90) cc (nI u0))) 91 (upd T cc (nI (u0 + (ts ++ stT 124 ws).length)))) 92 S_3) 93 W) (by funext zk; simp only [zup]; split <;> simp_all [zup]) ?_
            refine z_aload_n C dX8_takesE_178 rfl 1 rfl ?_
            refine z_geti C ff_X8_65 82 (by decide) sh82 rfl (v := nI ((stW 124 ws).length)) (by first | exact z4_3 | (simp [zup, zupJ, upd, vp_updL]; exact z4_3)) dX8_takesE_179 ?_
            refine z_if_ne (tgt := 187) C dX8_takesE_182 (by decide) (fun c182 => ?_) (fun c182 => ?_)
            · skip
              obtain ⟨x, ws2, hst⟩ : ∃ x ws2, stW 124 ws = x :: ws2 := by
                rcases hst : stW 124 ws with _ | ⟨x, ws2⟩
                · rw [hst] at c182; exact absurd rfl c182
                · exact ⟨x, ws2, rfl⟩
              have hx3 := st_hd (s := 0) hok hst
              have hok2 : okW ws2 := okW_t (hst ▸ okW_st (s := 124) hok)
              have hl4 := len_st (s := 124) ws
              rw [hst] at hz_3 z3_3 z4_3 z5_3 hl4
              simp only [List.length_cons] at hl4
              have hcx : cntW (x :: ws2) = cntW ws2 + 1 := by rw [cntW, if_pos hx3, Nat.add_comm]
              rw [hcx] at z5_3
              refine z_iload_n C dX8_takesE_187 rfl 0 rfl ?_
              refine z_bipush C (v := 41) dX8_takesE_188 (by decide) ?_
              refine z_icmp_eq (tgt := 195) C dX8_takesE_190 (by decide) (fun c190 => ?_) (fun c190 => ?_)
              · skip
                have h41 : c p1 = 41 := (nx_eq (c p1) hc31 41 (by decide)).mp c190
                have hpL : p1 < L := Nat.lt_of_not_le (fun z => by have := hBe _ z; omega)
                refine z_aload_n C dX8_takesE_195 rfl 1 rfl ?_
                refine z_dup C dX8_takesE_196 rfl ?_
                refine z_geti C ff_X8_65 82 (by decide) sh82 rfl (v := nI (ws2.length + 1)) (by first | exact z4_3 | (simp [zup, zupJ, upd, vp_updL]; exact z4_3)) dX8_takesE_197 ?_
                refine z_iconst C (v := 1) dX8_takesE_200 (by decide) ?_
                refine z_isub C dX8_takesE_201 ?_
                refine z_ti (y := nI ws2.length) (nI_pred _) ?_
                refine z_puti C ff_X8_65 82 (by decide) sh82 rfl rfl rfl dX8_takesE_202 ?_
                refine z_I (I' := zup (zup (zup (zup (zup I 82 (upd O_3 18 (nI ws2.length))) 90 (upd (I 90) cc (nI u0))) 91 (upd T cc (nI (u0 + (ts ++ stT 124 ws).length)))) 92 S_3) 93 W) (by funext zk; simp only [zup]; split <;> simp_all [zup]) ?_
                refine z_aload_n C dX8_takesE_205 rfl 1 rfl ?_
                refine z_dup C dX8_takesE_206 rfl ?_
                refine z_geti C ff_X8_68 82 (by decide) sh82 rfl (v := nI (cntW ws2 + 1)) (by first | exact z5_3 | (simp [zup, zupJ, upd, vp_updL]; exact z5_3)) dX8_takesE_207 ?_
                refine z_iconst C (v := 1) dX8_takesE_210 (by decide) ?_
                refine z_isub C dX8_takesE_211 ?_
                refine z_ti (y := nI (cntW ws2)) (nI_pred _) ?_
                refine z_puti C ff_X8_68 82 (by decide) sh82 rfl rfl rfl dX8_takesE_212 ?_
                refine z_I (I' := zup (zup (zup (zup (zup I 82 (upd (upd O_3 18 (nI ws2.length)) 19 (nI (cntW ws2)))) 90 (upd (I 90) cc (nI u0))) 91 (upd T cc (nI (u0 + (ts ++ stT 124 ws).length)))) 92 S_3) 93 W) (by funext zk; simp only [zup]; split <;> simp_all [zup]) ?_
                refine z_aload_n C dX8_takesE_215 rfl 1 rfl ?_
                refine z_dup C dX8_takesE_216 rfl ?_
                refine z_geti C ff_X8_32 82 (by decide) sh82 rfl (v := nI p1) (by first | exact ((hfO_3 7 (by decide) (by decide) (by decide)).trans hO7) | (simp [zup, zupJ, upd, vp_updL]; exact ((hfO_3 7 (by decide) (by decide) (by decide)).trans hO7))) dX8_takesE_217 ?_
                refine z_iconst C (v := 1) dX8_takesE_220 (by decide) ?_
                refine z_iadd C dX8_takesE_221 ?_
                refine z_ti (y := nI (p1 + 1)) (nI_add p1 1) ?_
                refine z_puti C ff_X8_32 82 (by decide) sh82 rfl rfl rfl dX8_takesE_222 ?_
                refine z_I (I' := zup (zup (zup (zup (zup I 82 (upd (upd (upd O_3 18 (nI ws2.length)) 19 (nI (cntW ws2))) 7 (nI (p1 + 1)))) 90 (upd (I 90) cc (nI u0))) 91 (upd T cc (nI (u0 + (ts ++ stT 124 ws).length)))) 92 S_3) 93 W) (by funext zk; simp only [zup]; split <;> simp_all [zup]) ?_
                refine z_aload_n C dX8_takesE_225 rfl 1 rfl ?_
                refine z_callVv C hm cl_X8_219 cv_X8_whole 82 (by decide) sh82 ⟨_, _, rfl⟩ [] rfl (rest := []) rfl (k_X8_whole w _ _ u0 (ts ++ stT 124 ws) ws2 (by exact ⟨z1_3, z2_3, z3_3.2, rfl, rfl⟩) hok2 (by simp only [List.length_append]; omega) (by omega)) ⟨rfl, rfl, Nat.le_of_ble_eq_true rfl, Nat.le_of_ble_eq_true rfl⟩ (Nat.le_of_ble_eq_true rfl) dX8_takesE_226 (fun I_4 J_4 h_4 => ?_)
                obtain ⟨⟨S_4, O_4, ei_4, hz_4, hfO_4, hfS_4⟩, ej_4⟩ := h_4
                replace ei_4 := ei_4.symm; subst ei_4
                replace ej_4 := ej_4.symm; subst ej_4
                refine z_I (I' := zup (zup (zup (zup (zup I 82 O_4) 90 (upd (I 90) cc (nI u0))) 91 (upd T cc (nI (u0 + (ts ++ stT 124 ws).length)))) 92 S_4) 93 W) (by funext zk; by_cases h82 : zk = 82 <;> by_cases h90 : zk = 90 <;> by_cases h91 : zk = 91 <;> by_cases h92 : zk = 92 <;> by_cases h93 : zk = 93 <;> simp [zup, h82, h90, h91, h92, h93]) ?_
                refine z_goto (tgt := 22) C dX8_takesE_229 (by decide) ?_
                exact z_sub [1, 2, 3] rfl (ih22  fz (p1 + 1) (whW ws2) false (ts ++ stT 124 ws ++ whT ws2) S_4 W O_4 (upd T cc (nI (u0 + (ts ++ stT 124 ws).length))) _ _ (by omega) (by omega) (by omega) (by omega) (by rw [mRun, if_neg (fun z => z.elim hn38 hn124), hst] at hE; simp only at hE; rw [if_pos h41] at hE; exact hE) hz_4 ((hfO_4 6 (by decide) (by decide) (by decide)).trans ((hfO_3 6 (by decide) (by decide) (by decide)).trans hO6)) (hfO_4 7 (by decide) (by decide) (by decide)) (fun k h1 h2 h3 h4 h5 => by rw [hfO_4 k h3 h4 h5]; show upd (upd (upd O_3 18 _) 19 _) 7 _ k = _; rw [upd_n h1, upd_n h5, upd_n h4, hfO_3 k h3 h4 h5]; exact hfO k h1 h2 h3 h4 h5) (fun k hk => by rw [hfS_4 k hk]; show S_3 k = _; rw [hfS_3 k hk]; exact hfS k hk) (fun k hk => by rw [upd_n hk]; exact hfT k hk) (okW_wh hok2) (by have e1 := len_wh ws2; simp only [List.length_append]; omega) (by rw [hwb]) (by funext zk; by_cases h82 : zk = 82 <;> by_cases h90 : zk = 90 <;> by_cases h91 : zk = 91 <;> by_cases h92 : zk = 92 <;> by_cases h93 : zk = 93 <;> simp [zup, h82, h90, h91, h92, h93]))
              · skip
                have h41 : c p1 ≠ 41 := fun q => c190 ((nx_eq (c p1) hc31 41 (by decide)).mpr q)
                refine z_iconst C (v := 0) dX8_takesE_193 (by decide) ?_
                refine z_iret C hr (by decide) dX8_takesE_194 ?_
                refine ⟨_, rfl, ?_⟩
                have hr : zEp c (zFp c 4) p = (p1, none) := by rw [← hE, mRun, if_neg (fun z => z.elim hn38 hn124), hst]; simp only; rw [if_neg h41]
                refine ⟨?_, rfl⟩
                rw [hr]
                exact zE8_mk (fun k h1 h2 h3 h4 h5 => by rw [hfO_3 k h3 h4 h5]; exact hfO k h1 h2 h3 h4 h5) ((hfO_3 7 (by decide) (by decide) (by decide)).trans hO7) (fun k hk => by rw [hfS_3 k hk]; exact hfS k hk) (fun k hk => by rw [upd_n hk]; exact hfT k hk) rfl
            · skip
              have hst : stW 124 ws = [] := List.eq_nil_of_length_eq_zero ((nI_0eq (by have := len_st (s := 124) ws; omega)).mp c182)
              refine z_iconst C (v := 1) dX8_takesE_185 (by decide) ?_
              refine z_iret C hr (by decide) dX8_takesE_186 ?_
              refine ⟨_, rfl, ?_⟩
              have hr : zEp c (zFp c 4) p = (p1, some (ts ++ stT 124 ws)) := by rw [← hE, mRun, if_neg (fun z => z.elim hn38 hn124), hst]
              refine ⟨?_, rfl⟩
              rw [hr]
              exact zE8_mk (fun k h1 h2 h3 h4 h5 => by rw [hfO_3 k h3 h4 h5]; exact hfO k h1 h2 h3 h4 h5) ((hfO_3 7 (by decide) (by decide) (by decide)).trans hO7) (fun k hk => by rw [hfS_3 k hk]; exact hfS k hk) (fun k hk => by rw [upd_n hk]; exact hfT k hk) ⟨rfl, upd_s, hz_3.2.1, hz_3.1⟩
          · skip
            have hb : c p1 = 124 := (nx_eq (c p1) hc31 124 (by decide)).mp c119
            have hpL : p1 < L := Nat.lt_of_not_le (fun z => by have := hBe _ z; omega)
            rw [c119]
            refine z_aload_n C dX8_takesE_122 rfl 1 rfl ?_
            refine z_iload_n C dX8_takesE_123 rfl 0 rfl ?_
            refine z_callVv C hm cl_X8_225 cv_X8_settle 82 (by decide) sh82 ⟨_, _, rfl⟩ [.int 124] rfl (rest := []) rfl (k_X8_settle w _ _ u0 ts ws 124 (by exact hz) hok (by omega) (by omega) (by decide)) ⟨rfl, rfl, Nat.le_of_ble_eq_true rfl, Nat.le_of_ble_eq_true rfl⟩ (Nat.le_of_ble_eq_true rfl) dX8_takesE_124 (fun I_5 J_5 h_5 => ?_)
            obtain ⟨⟨S_5, O_5, ei_5, hz_5, hfO_5, hfS_5⟩, ej_5⟩ := h_5
            replace ei_5 := ei_5.symm; subst ei_5
            replace ej_5 := ej_5.symm; subst ej_5
            refine z_I (I' := zup (zup (zup (zup (zup I 82 O_5) 90 (upd (I 90) cc (nI u0))) 91 T) 92 S_5) 93 W) (by funext zk; by_cases h82 : zk = 82 <;> by_cases h90 : zk = 90 <;> by_cases h91 : zk = 91 <;> by_cases h92 : zk = 92 <;> by_cases h93 : zk = 93 <;> simp [zup, h82, h90, h91, h92, h93]) ?_
            obtain ⟨z1_5, z2_5, z3_5, z4_5, z5_5⟩ := id hz_5
            have hls_5 := len_st (s := 124) ws
            refine z_aload_n C dX8_takesE_127 rfl 1 rfl ?_
            refine z_getr C ff_X8_59 82 (by decide) sh82 rfl dX8_takesE_128 ?_
            refine z_aload_n C dX8_takesE_131 rfl 1 rfl ?_
            refine z_geti C ff_X8_65 82 (by decide) sh82 rfl (v := nI ((stW 124 ws).length)) (by first | exact z4_5 | (simp [zup, zupJ, upd, vp_updL]; exact z4_5)) dX8_takesE_132 ?_
            refine z_iload_n C dX8_takesE_135 rfl 0 rfl ?_
            refine z_iast C 93 (by decide) sh93 ((stW 124 ws).length) (by omega) (by decide) rfl dX8_takesE_136 ?_
            refine z_I (I' := zup (zup (zup (zup (zup I 82 O_5) 90 (upd (I 90) cc (nI u0))) 91 T) 92 S_5) 93 (upd W ((stW 124 ws).length) 124)) (by rw [zup_s, zup_up]) ?_
            refine z_aload_n C dX8_takesE_137 rfl 1 rfl ?_
            refine z_dup C dX8_takesE_138 rfl ?_
            refine z_geti C ff_X8_65 82 (by decide) sh82 rfl (v := nI ((stW 124 ws).length)) (by first | exact z4_5 | (simp [zup, zupJ, upd, vp_updL]; exact z4_5)) dX8_takesE_139 ?_
            refine z_iconst C (v := 1) dX8_takesE_142 (by decide) ?_
            refine z_iadd C dX8_takesE_143 ?_
            refine z_ti (y := nI (((stW 124 ws).length) + 1)) (nI_add ((stW 124 ws).length) 1) ?_
            refine z_puti C ff_X8_65 82 (by decide) sh82 rfl rfl rfl dX8_takesE_144 ?_
            refine z_I (I' := zup (zup (zup (zup (zup I 82 (upd O_5 18 (nI (((stW 124 ws).length) + 1)))) 90 (upd (I 90) cc (nI u0))) 91 T) 92 S_5) 93 (upd W ((stW 124 ws).length) 124)) (by funext zk; simp only [zup]; split <;> simp_all [zup]) ?_
            refine z_iconst C (v := 1) dX8_takesE_147 (by decide) ?_
            refine z_istore_n C hm (lv' := [(2, .int 1), (3, .int 124), (0, .ref (zad w 82)), (1, .int (nI cc))]) dX8_takesE_148 rfl (by decide) rfl ?_
            refine z_aload_n C dX8_takesE_149 rfl 2 rfl ?_
            refine z_dup C dX8_takesE_150 rfl ?_
            refine z_geti C ff_X8_32 82 (by decide) sh82 rfl (v := nI p1) (by first | exact ((hfO_5 7 (by decide) (by decide) (by decide)).trans hO7) | (simp [zup, zupJ, upd, vp_updL]; exact ((hfO_5 7 (by decide) (by decide) (by decide)).trans hO7))) dX8_takesE_151 ?_
            refine z_iconst C (v := 1) dX8_takesE_154 (by decide) ?_
            refine z_iadd C dX8_takesE_155 ?_
            refine z_ti (y := nI (p1 + 1)) (nI_add p1 1) ?_
            refine z_puti C ff_X8_32 82 (by decide) sh82 rfl rfl rfl dX8_takesE_156 ?_
            refine z_I (I' := zup (zup (zup (zup (zup I 82 (upd (upd O_5 18 (nI (((stW 124 ws).length) + 1))) 7 (nI (p1 + 1)))) 90 (upd (I 90) cc (nI u0))) 91 T) 92 S_5) 93 (upd W ((stW 124 ws).length) 124)) (by funext zk; simp only [zup]; split <;> simp_all [zup]) ?_
            refine z_goto (tgt := 22) C dX8_takesE_159 (by decide) ?_
            exact z_sub [2, 3, 0] rfl (ih22  fz (p1 + 1) (124 :: stW 124 ws) true (ts ++ stT 124 ws) S_5 (upd W ((stW 124 ws).length) 124) (upd (upd O_5 18 (nI (((stW 124 ws).length) + 1))) 7 (nI (p1 + 1))) T _ _ (by omega) (by omega) (by omega) (by omega) (by rw [mRun, if_pos (Or.inr hb), hb] at hE; exact hE) (zMs_w (x := 124) hz_5 rfl rfl (by rw [cntW, if_neg (by decide), Nat.zero_add]; exact hz_5.2.2.2.2)) ((hfO_5 6 (by decide) (by decide) (by decide)).trans hO6) rfl (fun k h1 h2 h3 h4 h5 => by rw [upd_n h1]; rw [upd_n h4]; rw [hfO_5 k h3 h4 h5]; exact hfO k h1 h2 h3 h4 h5) (fun k hk => by rw [hfS_5 k hk]; exact hfS k hk) hfT (okW_c (by decide) (okW_st hok)) (by have := len_st (s := 124) ws; simp only [List.length_append, List.length_cons] at this ⊢; omega) rfl (by funext zk; by_cases h82 : zk = 82 <;> by_cases h90 : zk = 90 <;> by_cases h91 : zk = 91 <;> by_cases h92 : zk = 92 <;> by_cases h93 : zk = 93 <;> simp [zup, h82, h90, h91, h92, h93]))
      · skip
        have hwb := b2_1 c28
        rw [hwb] at hE
        refine z_iload_n C dX8_takesE_31 rfl 0 rfl ?_
        refine z_bipush C (v := 33) dX8_takesE_32 (by decide) ?_
        refine z_icmp_eq (tgt := 43) C dX8_takesE_34 (by decide) (fun c34 => ?_) (fun c34 => ?_)
        · skip
          have hb : c p1 = 33 := (nx_eq (c p1) hc31 33 (by decide)).mp c34
          have hpL : p1 < L := Nat.lt_of_not_le (fun z => by have := hBe _ z; omega)
          rw [c34]
          refine z_aload_n C dX8_takesE_43 rfl 1 rfl ?_
          refine z_geti C ff_X8_68 82 (by decide) sh82 rfl (v := nI (cntW ws)) (by first | exact hz.2.2.2.2 | (simp [zup, zupJ, upd, vp_updL]; exact hz.2.2.2.2)) dX8_takesE_44 ?_
          refine z_iconst C (v := 4) dX8_takesE_47 (by decide) ?_
          refine z_icmp_ne_n (cntW ws) 4 (tgt := 53) C rfl rfl (by have := cnt_le ws; omega) (by omega) dX8_takesE_48 (by decide) (fun c48 => ?_) (fun c48 => ?_)
          · skip
            refine z_aload_n C dX8_takesE_53 rfl 1 rfl ?_
            refine z_dup C dX8_takesE_54 rfl ?_
            refine z_geti C ff_X8_68 82 (by decide) sh82 rfl (v := nI (cntW ws)) (by first | exact hz.2.2.2.2 | (simp [zup, zupJ, upd, vp_updL]; exact hz.2.2.2.2)) dX8_takesE_55 ?_
            refine z_iconst C (v := 1) dX8_takesE_58 (by decide) ?_
            refine z_iadd C dX8_takesE_59 ?_
            refine z_ti (y := nI ((cntW ws) + 1)) (nI_add (cntW ws) 1) ?_
            refine z_puti C ff_X8_68 82 (by decide) sh82 rfl rfl rfl dX8_takesE_60 ?_
            refine z_I (I' := zup (zup (zup (zup (zup I 82 (upd O 19 (nI ((cntW ws) + 1)))) 90 (upd (I 90) cc (nI u0))) 91 T) 92 S) 93 W) (by funext zk; simp only [zup]; split <;> simp_all [zup]) ?_
            refine z_aload_n C dX8_takesE_63 rfl 1 rfl ?_
            refine z_getr C ff_X8_59 82 (by decide) sh82 rfl dX8_takesE_64 ?_
            refine z_aload_n C dX8_takesE_67 rfl 1 rfl ?_
            refine z_geti C ff_X8_65 82 (by decide) sh82 rfl (v := nI ws.length) (by first | exact hz.2.2.2.1 | (simp [zup, zupJ, upd, vp_updL]; exact hz.2.2.2.1)) dX8_takesE_68 ?_
            refine z_iload_n C dX8_takesE_71 rfl 0 rfl ?_
            refine z_iast C 93 (by decide) sh93 ws.length (by omega) (by decide) rfl dX8_takesE_72 ?_
            refine z_I (I' := zup (zup (zup (zup (zup I 82 (upd O 19 (nI ((cntW ws) + 1)))) 90 (upd (I 90) cc (nI u0))) 91 T) 92 S) 93 (upd W ws.length 33)) (by rw [zup_s, zup_up]) ?_
            refine z_aload_n C dX8_takesE_73 rfl 1 rfl ?_
            refine z_dup C dX8_takesE_74 rfl ?_
            refine z_geti C ff_X8_65 82 (by decide) sh82 rfl (v := nI ws.length) (by first | exact hz.2.2.2.1 | (simp [zup, zupJ, upd, vp_updL]; exact hz.2.2.2.1)) dX8_takesE_75 ?_
            refine z_iconst C (v := 1) dX8_takesE_78 (by decide) ?_
            refine z_iadd C dX8_takesE_79 ?_
            refine z_ti (y := nI (ws.length + 1)) (nI_add ws.length 1) ?_
            refine z_puti C ff_X8_65 82 (by decide) sh82 rfl rfl rfl dX8_takesE_80 ?_
            refine z_I (I' := zup (zup (zup (zup (zup I 82 (upd (upd O 19 (nI ((cntW ws) + 1))) 18 (nI (ws.length + 1)))) 90 (upd (I 90) cc (nI u0))) 91 T) 92 S) 93 (upd W ws.length 33)) (by funext zk; simp only [zup]; split <;> simp_all [zup]) ?_
            refine z_aload_n C dX8_takesE_83 rfl 1 rfl ?_
            refine z_dup C dX8_takesE_84 rfl ?_
            refine z_geti C ff_X8_32 82 (by decide) sh82 rfl (v := nI p1) (by first | exact hO7 | (simp [zup, zupJ, upd, vp_updL]; exact hO7)) dX8_takesE_85 ?_
            refine z_iconst C (v := 1) dX8_takesE_88 (by decide) ?_
            refine z_iadd C dX8_takesE_89 ?_
            refine z_ti (y := nI (p1 + 1)) (nI_add p1 1) ?_
            refine z_puti C ff_X8_32 82 (by decide) sh82 rfl rfl rfl dX8_takesE_90 ?_
            refine z_I (I' := zup (zup (zup (zup (zup I 82 (upd (upd (upd O 19 (nI ((cntW ws) + 1))) 18 (nI (ws.length + 1))) 7 (nI (p1 + 1)))) 90 (upd (I 90) cc (nI u0))) 91 T) 92 S) 93 (upd W ws.length 33)) (by funext zk; simp only [zup]; split <;> simp_all [zup]) ?_
            refine z_goto (tgt := 22) C dX8_takesE_93 (by decide) ?_
            exact z_sub [1, 2, 3] rfl (ih22  fz (p1 + 1) (33 :: ws) true ts S (upd W ws.length 33) (upd (upd (upd O 19 (nI ((cntW ws) + 1))) 18 (nI (ws.length + 1))) 7 (nI (p1 + 1))) T _ _ (by omega) (by omega) (by omega) (by omega) (by rw [mRun, if_pos (Or.inl hb), if_neg c48, hb] at hE; exact hE) (zMs_w (x := 33) hz rfl rfl (by rw [cntW, if_pos (by decide), Nat.add_comm]; rfl)) hO6 rfl (fun k h1 h2 h3 h4 h5 => by rw [upd_n h1]; rw [upd_n h4]; rw [upd_n h5]; exact hfO k h1 h2 h3 h4 h5) hfS hfT (okW_c (by decide) hok) (by simp only [List.length_cons]; omega) (by rw [hwb]) (by funext zk; by_cases h82 : zk = 82 <;> by_cases h90 : zk = 90 <;> by_cases h91 : zk = 91 <;> by_cases h92 : zk = 92 <;> by_cases h93 : zk = 93 <;> simp [zup, h82, h90, h91, h92, h93]))
          · skip
            refine z_iconst C (v := 0) dX8_takesE_51 (by decide) ?_
            refine z_iret C hr (by decide) dX8_takesE_52 ?_
            refine ⟨_, rfl, ?_⟩
            have hr : zEp c (zFp c 4) p = (p1, none) := by rw [← hE, mRun, if_pos (Or.inl hb), if_pos c48]
            refine ⟨?_, rfl⟩
            rw [hr]
            exact zE8_mk (fun k h1 h2 h3 h4 h5 => by exact hfO k h1 h2 h3 h4 h5) hO7 hfS hfT rfl
        · skip
          have hn33 : c p1 ≠ 33 := fun q => c34 ((nx_eq (c p1) hc31 33 (by decide)).mpr q)
          refine z_iload_n C dX8_takesE_37 rfl 0 rfl ?_
          refine z_bipush C (v := 40) dX8_takesE_38 (by decide) ?_
          refine z_icmp_ne (tgt := 96) C dX8_takesE_40 (by decide) (fun c40 => ?_) (fun c40 => ?_)
          · skip
            have hn40 : c p1 ≠ 40 := fun q => c40 ((nx_eq (c p1) hc31 40 (by decide)).mpr q)
            refine z_aload_n C dX8_takesE_96 rfl 1 rfl ?_
            refine z_callVi C hm cl_X8_222 cv_X8_takesTest 82 (by decide) sh82 ⟨_, _, rfl⟩ [] rfl (rest := []) rfl (k_X8_takesTest w _ _ u0 ts ws c L p1 (by exact hz) hok (by omega) (by omega) (by exact hO6) hl (by exact hO7) (by omega) (by exact hBy) hBe) ⟨rfl, rfl, Nat.le_of_ble_eq_true rfl, Nat.le_of_ble_eq_true rfl⟩ (Nat.le_of_ble_eq_true rfl) dX8_takesE_97 (fun v_6 I_6 J_6 h_6 => ?_)
            obtain ⟨⟨S_6, O_6, ei_6, hO7_6, hfO_6, hfS_6, hm_6⟩, ej_6⟩ := h_6
            replace ei_6 := ei_6.symm; subst ei_6
            replace ej_6 := ej_6.symm; subst ej_6
            refine z_I (I' := zup (zup (zup (zup (zup I 82 O_6) 90 (upd (I 90) cc (nI u0))) 91 T) 92 S_6) 93 W) (by funext zk; by_cases h82 : zk = 82 <;> by_cases h90 : zk = 90 <;> by_cases h91 : zk = 91 <;> by_cases h92 : zk = 92 <;> by_cases h93 : zk = 93 <;> simp [zup, h82, h90, h91, h92, h93]) ?_
            rcases hq : zTest c p1 with ⟨q, _ | us⟩
            · skip
              rw [hq] at hm_6 hO7_6
              replace hm_6 : v_6 = 0 := hm_6; subst hm_6
              refine z_if_eq (tgt := 108) C dX8_takesE_100 (by decide) (fun c100 => ?_) (fun c100 => ?_)
              · skip
                refine z_iconst C (v := 0) dX8_takesE_108 (by decide) ?_
                refine z_iret C hr (by decide) dX8_takesE_109 ?_
                refine ⟨_, rfl, ?_⟩
                have hr : zEp c (zFp c 4) p = (q, none) := by rw [← hE, mRun, if_neg (fun z => z.elim hn33 hn40), hq]
                refine ⟨?_, rfl⟩
                rw [hr]
                exact zE8_mk (fun k h1 h2 h3 h4 h5 => by rw [hfO_6 k h1 h2 h3 h4 h5]; exact hfO k h1 h2 h3 h4 h5) hO7_6 (fun k hk => by rw [hfS_6 k hk]; exact hfS k hk) hfT rfl
              · skip
                exact absurd rfl c100
            · skip
              rw [hq] at hm_6 hO7_6
              obtain ⟨hv_6, hzz_6⟩ := hm_6; replace hv_6 : v_6 = 1 := hv_6; subst hv_6
              obtain ⟨hqL, hpq, hul, -⟩ := zGd_a (zTest_gd hBe) hp1L hq
              refine z_if_eq (tgt := 108) C dX8_takesE_100 (by decide) (fun c100 => ?_) (fun c100 => ?_)
              · skip
                exact absurd c100 (by decide)
              · skip
                refine z_iconst C (v := 0) dX8_takesE_103 (by decide) ?_
                refine z_istore_n C hm (lv' := [(2, .int 0), (3, .int (zNx (c p1))), (0, .ref (zad w 82)), (1, .int (nI cc))]) dX8_takesE_104 rfl (by decide) rfl ?_
                refine z_goto (tgt := 22) C dX8_takesE_105 (by decide) ?_
                exact z_sub [2, 3, 0] rfl (ih22  fz q (whW ws) false (ts ++ us ++ whT ws) S_6 W O_6 T _ _ (by omega) (by omega) hqL (by omega) (by rw [mRun, if_neg (fun z => z.elim hn33 hn40), hq] at hE; exact hE) hzz_6 (by rw [hfO_6 6 (by decide) (by decide) (by decide) (by decide) (by decide)]; exact hO6) hO7_6 (fun k h1 h2 h3 h4 h5 => by rw [hfO_6 k h1 h2 h3 h4 h5]; exact hfO k h1 h2 h3 h4 h5) (fun k hk => by rw [hfS_6 k hk]; exact hfS k hk) hfT (okW_wh hok) (by have := len_wh ws; simp only [List.length_append] at this ⊢; omega) rfl (by funext zk; by_cases h82 : zk = 82 <;> by_cases h90 : zk = 90 <;> by_cases h91 : zk = 91 <;> by_cases h92 : zk = 92 <;> by_cases h93 : zk = 93 <;> simp [zup, h82, h90, h91, h92, h93]))
          · skip
            have hb : c p1 = 40 := (nx_eq (c p1) hc31 40 (by decide)).mp c40
            have hpL : p1 < L := Nat.lt_of_not_le (fun z => by have := hBe _ z; omega)
            rw [c40]
            refine z_aload_n C dX8_takesE_43 rfl 1 rfl ?_
            refine z_geti C ff_X8_68 82 (by decide) sh82 rfl (v := nI (cntW ws)) (by first | exact hz.2.2.2.2 | (simp [zup, zupJ, upd, vp_updL]; exact hz.2.2.2.2)) dX8_takesE_44 ?_
            refine z_iconst C (v := 4) dX8_takesE_47 (by decide) ?_
            refine z_icmp_ne_n (cntW ws) 4 (tgt := 53) C rfl rfl (by have := cnt_le ws; omega) (by omega) dX8_takesE_48 (by decide) (fun c48 => ?_) (fun c48 => ?_)
            · skip
              refine z_aload_n C dX8_takesE_53 rfl 1 rfl ?_
              refine z_dup C dX8_takesE_54 rfl ?_
              refine z_geti C ff_X8_68 82 (by decide) sh82 rfl (v := nI (cntW ws)) (by first | exact hz.2.2.2.2 | (simp [zup, zupJ, upd, vp_updL]; exact hz.2.2.2.2)) dX8_takesE_55 ?_
              refine z_iconst C (v := 1) dX8_takesE_58 (by decide) ?_
              refine z_iadd C dX8_takesE_59 ?_
              refine z_ti (y := nI ((cntW ws) + 1)) (nI_add (cntW ws) 1) ?_
              refine z_puti C ff_X8_68 82 (by decide) sh82 rfl rfl rfl dX8_takesE_60 ?_
              refine z_I (I' := zup (zup (zup (zup (zup I 82 (upd O 19 (nI ((cntW ws) + 1)))) 90 (upd (I 90) cc (nI u0))) 91 T) 92 S) 93 W) (by funext zk; simp only [zup]; split <;> simp_all [zup]) ?_
              refine z_aload_n C dX8_takesE_63 rfl 1 rfl ?_
              refine z_getr C ff_X8_59 82 (by decide) sh82 rfl dX8_takesE_64 ?_
              refine z_aload_n C dX8_takesE_67 rfl 1 rfl ?_
              refine z_geti C ff_X8_65 82 (by decide) sh82 rfl (v := nI ws.length) (by first | exact hz.2.2.2.1 | (simp [zup, zupJ, upd, vp_updL]; exact hz.2.2.2.1)) dX8_takesE_68 ?_
              refine z_iload_n C dX8_takesE_71 rfl 0 rfl ?_
              refine z_iast C 93 (by decide) sh93 ws.length (by omega) (by decide) rfl dX8_takesE_72 ?_
              refine z_I (I' := zup (zup (zup (zup (zup I 82 (upd O 19 (nI ((cntW ws) + 1)))) 90 (upd (I 90) cc (nI u0))) 91 T) 92 S) 93 (upd W ws.length 40)) (by rw [zup_s, zup_up]) ?_
              refine z_aload_n C dX8_takesE_73 rfl 1 rfl ?_
              refine z_dup C dX8_takesE_74 rfl ?_
              refine z_geti C ff_X8_65 82 (by decide) sh82 rfl (v := nI ws.length) (by first | exact hz.2.2.2.1 | (simp [zup, zupJ, upd, vp_updL]; exact hz.2.2.2.1)) dX8_takesE_75 ?_
              refine z_iconst C (v := 1) dX8_takesE_78 (by decide) ?_
              refine z_iadd C dX8_takesE_79 ?_
              refine z_ti (y := nI (ws.length + 1)) (nI_add ws.length 1) ?_
              refine z_puti C ff_X8_65 82 (by decide) sh82 rfl rfl rfl dX8_takesE_80 ?_
              refine z_I (I' := zup (zup (zup (zup (zup I 82 (upd (upd O 19 (nI ((cntW ws) + 1))) 18 (nI (ws.length + 1)))) 90 (upd (I 90) cc (nI u0))) 91 T) 92 S) 93 (upd W ws.length 40)) (by funext zk; simp only [zup]; split <;> simp_all [zup]) ?_
              refine z_aload_n C dX8_takesE_83 rfl 1 rfl ?_
              refine z_dup C dX8_takesE_84 rfl ?_
              refine z_geti C ff_X8_32 82 (by decide) sh82 rfl (v := nI p1) (by first | exact hO7 | (simp [zup, zupJ, upd, vp_updL]; exact hO7)) dX8_takesE_85 ?_
              refine z_iconst C (v := 1) dX8_takesE_88 (by decide) ?_
              refine z_iadd C dX8_takesE_89 ?_
              refine z_ti (y := nI (p1 + 1)) (nI_add p1 1) ?_
              refine z_puti C ff_X8_32 82 (by decide) sh82 rfl rfl rfl dX8_takesE_90 ?_
              refine z_I (I' := zup (zup (zup (zup (zup I 82 (upd (upd (upd O 19 (nI ((cntW ws) + 1))) 18 (nI (ws.length + 1))) 7 (nI (p1 + 1)))) 90 (upd (I 90) cc (nI u0))) 91 T) 92 S) 93 (upd W ws.length 40)) (by funext zk; simp only [zup]; split <;> simp_all [zup]) ?_
              refine z_goto (tgt := 22) C dX8_takesE_93 (by decide) ?_
              exact z_sub [1, 2, 3] rfl (ih22  fz (p1 + 1) (40 :: ws) true ts S (upd W ws.length 40) (upd (upd (upd O 19 (nI ((cntW ws) + 1))) 18 (nI (ws.length + 1))) 7 (nI (p1 + 1))) T _ _ (by omega) (by omega) (by omega) (by omega) (by rw [mRun, if_pos (Or.inr hb), if_neg c48, hb] at hE; exact hE) (zMs_w (x := 40) hz rfl rfl (by rw [cntW, if_pos (by decide), Nat.add_comm]; rfl)) hO6 rfl (fun k h1 h2 h3 h4 h5 => by rw [upd_n h1]; rw [upd_n h4]; rw [upd_n h5]; exact hfO k h1 h2 h3 h4 h5) hfS hfT (okW_c (by decide) hok) (by simp only [List.length_cons]; omega) (by rw [hwb]) (by funext zk; by_cases h82 : zk = 82 <;> by_cases h90 : zk = 90 <;> by_cases h91 : zk = 91 <;> by_cases h92 : zk = 92 <;> by_cases h93 : zk = 93 <;> simp [zup, h82, h90, h91, h92, h93]))
            · skip
              refine z_iconst C (v := 0) dX8_takesE_51 (by decide) ?_
              refine z_iret C hr (by decide) dX8_takesE_52 ?_
              refine ⟨_, rfl, ?_⟩
              have hr : zEp c (zFp c 4) p = (p1, none) := by rw [← hE, mRun, if_pos (Or.inr hb), if_pos c48]
              refine ⟨?_, rfl⟩
              rw [hr]
              exact zE8_mk (fun k h1 h2 h3 h4 h5 => by exact hfO k h1 h2 h3 h4 h5) hO7 hfS hfT rfl
  exact z_sub [1, 2, 0] rfl (L22 _ (L + 1 - p) p [] true [] (I 92) (I 93) (upd (upd (I 82) 18 0) 19 0) (I 91) _ _ (Nat.lt_succ_self _) (Nat.le_refl _) hpl (Nat.le_refl _) (mRun_all hl hBe hpl (Nat.le_refl _)) ⟨fun j hj => absurd hj (Nat.not_lt_zero _), hs, trivial, rfl, rfl⟩ hL hp (fun k h1 h2 h3 h4 h5 => by rw [upd_n h5, upd_n h4]) (fun _ _ => rfl) (fun _ _ => rfl) (fun x hx => absurd hx List.not_mem_nil) (Nat.zero_le _) rfl (by funext zk; by_cases h82 : zk = 82 <;> by_cases h90 : zk = 90 <;> by_cases h91 : zk = 91 <;> by_cases h92 : zk = 92 <;> by_cases h93 : zk = 93 <;> simp [zup, h82, h90, h91, h92, h93]))
