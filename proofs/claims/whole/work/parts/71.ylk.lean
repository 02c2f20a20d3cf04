/-! the law: from the making to the world; the script -/
theorem y_to_z {p : Program} {l : Launch} {e : Env} {R : Room} {s : State} {m : MethodId} {args : Array Value} {below : List Frame} {meth : Method} {c : Code} {z : Nat × Nat} {Q : State → Prop} {A : Nat → Prop} {D : va_G} {ct : Nat → ClassId} {h7 h8 cells slots pc : Nat} {q7 q8 tx tr sts : Nat → Nat} {lv : List (Nat × Value)} {st : List Value}
    (k : zInj (D, ct, zAdr h7 h8 q7 q8, tx, tr, sts) → (∀ k, k < zN → A (zad (D, ct, zAdr h7 h8 q7 q8, tx, tr, sts) k)) → Z (p, l, e, R, s, m, args, below, meth, c, (cells, slots), Q, A) (D, ct, zAdr h7 h8 q7 q8, tx, tr, sts) zI0 zJ0 pc lv st) : Y (p, l, e, R, s, m, args, below, meth, c, z, Q, A) D (F_X7_init ct h7 q7 ++ F_X8_init ct h8 q8) cells slots pc lv st := by
  intro H locs ls hP hD hS hl
  obtain ⟨g1, g2⟩ := z0_D (tx := tx) (tr := tr) (sts := sts) hD
  exact k g1 g2 H locs ls (z0_P hP) hS hl
/-- the script, which nobody writes -/
def zScr (X : zX) (b L : Nat) (xs : Nat → Int32) : Prop := match X with
  | (_, _, _, _, s, _, _, _, _, _, _, _, A) => va_X b L xs s s.heap ∧ b < s.heap.size ∧ ¬ A b
section YROWS
variable {X : zX} {w : zW} {cc : ByteArray} {own : String} {rm : Room} {I : zI} {J : zJ} {pc : Nat} {lv : List (Nat × Value)} {rest : List Value} {b L : Nat} {xs : Nat → Int32}
theorem z_slen (C : zOk X w cc own rm) (hs : zScr X b L xs) (hd : decode cc pc = .ok (.arraylength, 1)) (kk : Z X w I J (pc + 1) lv (.int (nI L) :: rest)) : Z X w I J pc lv (.ref b :: rest) := by
  obtain ⟨p, l, e, R, s, m, args, below, meth, c, ⟨cells, slots⟩, Q, A⟩ := X
  obtain ⟨hx, hb, hts, hown, hK, hG, hA, hj, hlk, hR, hc1, hc2⟩ := C
  intro H locs ls hP hS hl
  exact va_slen hx hb hs.1 hs.2.1 hs.2.2 hS hd (kk H locs ls hP hS hl)
theorem z_sld (C : zOk X w cc own rm) (hs : zScr X b L xs) (j : Nat) {i : Int32} (hi : i = nI j) (hk : j < L) (hL : L < 2 ^ 31) (hd : decode cc pc = .ok (.iaload, 1)) (kk : Z X w I J (pc + 1) lv (.int (xs j) :: rest)) : Z X w I J pc lv (.int i :: .ref b :: rest) := by
  obtain ⟨p, l, e, R, s, m, args, below, meth, c, ⟨cells, slots⟩, Q, A⟩ := X
  obtain ⟨hx, hb, hts, hown, hK, hG, hA, hj, hlk, hR, hc1, hc2⟩ := C
  intro H locs ls hP hS hl
  subst hi
  refine va_sld hx hb hs.1 hs.2.1 hs.2.2 hS (vp_in_nI hk hL) hd ?_
  rw [nI_clamp (by omega)]
  exact kk H locs ls hP hS hl
/-- one number of the script: five instructions -/
theorem z_arg (C : zOk X w cc own rm) (hs : zScr X b L xs) (hL : L < 2 ^ 31) (q0 q3 : Nat) {n : Nat} (h0 : lv[q0]? = some (0, .ref b)) (h3 : lv[q3]? = some (3, .int (nI n))) (k : Nat) (hk : n + k < L) {ki : Int} (hki : Int32.ofInt ki = nI k) (d0 : decode cc pc = .ok (.aload_n 0, 1)) (d1 : decode cc (pc + 1) = .ok (.iload_n 3, 1)) (d2 : decode cc (pc + 2) = .ok (.iconst ki, 1)) (d3 : decode cc (pc + 3) = .ok (.iadd, 1)) (d4 : decode cc (pc + 4) = .ok (.iaload, 1)) (kk : Z X w I J (pc + 5) lv (.int (xs (n + k)) :: rest)) : Z X w I J pc lv rest := by
  refine z_aload_n C d0 rfl q0 h0 ?_
  refine z_iload_n C d1 rfl q3 h3 ?_
  refine z_iconst C d2 hki ?_
  refine z_iadd C d3 ?_
  exact z_sld C hs (n + k) (nI_add n k) hk hL d4 kk
end YROWS
