/-! constructors: a world that grows -/
abbrev kTy (ct : Nat → ClassId) : List (ClassId × FieldType) := [(ct 0, .int), (ct 1, .long), (ct 2, .boolean), (ct 3, .object "TuesdayKnew$Law"), (ct 4, .object "TuesdayKnew$Tape")]
def kAO (U : State) : Prop := va_AO "TuesdayKnew$Law" U ∧ va_AO "TuesdayKnew$Tape" U
def yPre (D : va_G) (ct : Nat → ClassId) (ws : va_W) (sz : Nat) (U : State) : Prop := U.heap.size = sz ∧ va_P D vwCl ws U.heap ∧ va_K D vwCl (kTy ct) U ∧ va_D (fun _ => True) ws ∧ kAO U
def yAt (D : va_G) (A : Nat → Prop) (F : (Nat → Nat) → va_W) (q : Nat → Nat) (t : State) : Prop := va_P D vwCl (F q) t.heap ∧ va_D A (F q)
def yMet (y : MethodName) (cc : ByteArray) (maxL : Nat) (rm : Room) (D : va_G) (ct : Nat → ClassId) (As : List Value) (ws0 : va_W) (mc ms : Nat) (F : (Nat → Nat) → va_W) : Prop :=
  ∀ (l : Launch) (sz : Nat), Met l y (.code y cc maxL none :: zT) rm (va_Pc As (yPre D ct ws0 sz)) (va_Qv (fun _ : Nat → Nat => True) (yAt D (va_A ws0 sz) F) (va_A ws0 sz)) mc ms (va_A ws0 sz)
def Y (X : zX) (D : va_G) (ws : va_W) (cells slots pc : Nat) (lv : List (Nat × Value)) (st : List Value) : Prop := match X with
  | (p, l, e, R, s, m, args, below, meth, c, _, Q, A) => ∀ (H : Heap) (locs : List Loc) (ls : Array Slot), va_P D vwCl ws H → va_D A ws → va_S A s.heap H locs → lv_has ls c.maxLocals lv → W p l e R s m args below meth c H locs cells slots Q (F0 m pc ls st)
def yOk (X : zX) (D : va_G) (ct : Nat → ClassId) (cc : ByteArray) (own : String) (rm : Room) : Prop := match X with
  | (p, _, _, R, s, m, args, _, meth, c, _, _, A) => p.tables.exec = Jvm.exec ∧ c.code = cc ∧ (∀ t ∈ zT, t.before args s = true) ∧ s.vm.findClass own = some m.cls ∧ va_K D vwCl (kTy ct) s ∧ (∀ q, s.heap.size ≤ q → A q) ∧ kAO s ∧ meth.locks = false ∧ R = rm
def yIn (X : zX) : Prop := X.2.2.2.2.2.2.2.2.1.name = "<init>"
def yRet (X : zX) (D : va_G) (ws0 : va_W) (mc ms : Nat) (F : (Nat → Nat) → va_W) : Prop := match X with
  | (_, _, _, _, s, _, args, below, meth, _, _, Q, A) => Q = MQ below (va_Qv (fun _ : Nat → Nat => True) (yAt D (va_A ws0 s.heap.size) F) (va_A ws0 s.heap.size)) args s mc ms (va_A ws0 s.heap.size) ∧ meth.sig.returnType = none ∧ A = va_A ws0 s.heap.size
set_option maxHeartbeats 1000000 in
theorem yMet_of {y : MethodName} {cc : ByteArray} {maxL : Nat} {rm : Room} {D : va_G} {ct : Nat → ClassId} {As : List Value} {ws0 : va_W} {mc ms : Nat} {F : (Nat → Nat) → va_W} (hpl : plainName y.cls = true) (hnm : y.name = "<init>") (hAs : (lg_sl As).length ≤ maxL)
    (body : ∀ X : zX, yOk X D ct cc y.cls rm → zML X maxL → yIn X → yRet X D ws0 mc ms F → Y X D ws0 0 0 0 (lv_args 0 As) []) : yMet y cc maxL rm D ct As ws0 mc ms F := by
  intro l sz
  refine Met.ofW (cc := cc) (maxL := maxL) (ret := none) hpl rfl ?_
  intro p e s m args below meth c s₁ B hml hv
  obtain ⟨rfl, hsz, hP, hK, hD0, hAO⟩ := hv
  subst hsz
  have hts0 := atoms_spec (ws := .code y cc maxL none :: zT) B.pre
  have hts : ∀ t ∈ zT, t.before As.toArray s = true := fun t h => hts0 t (List.mem_cons_of_mem _ h)
  have hl := lv_entry As (n := maxL) hAs
  rw [lg_entry_eq]
  rw [← hml] at hl ⊢
  exact body (p, l, e, (headSpec (.code y cc maxL none :: zT) rm).room, s, m, As.toArray, below, meth, c, (0, 0), MQ below (va_Qv (fun _ : Nat → Nat => True) (yAt D (va_A ws0 s.heap.size) F) (va_A ws0 s.heap.size)) As.toArray s mc ms (va_A ws0 s.heap.size), va_A ws0 s.heap.size)
    ⟨B.exec, B.bytes, hts, findClass_of_methodNamed B.named, hK, fun q h => Or.inr h, hAO, B.notSynchronized, rfl⟩ hml ((name_of_methodNamed B.named B.method).1.trans hnm) ⟨rfl, B.returns, rfl⟩ s.heap [] _ hP hD0.self va_S.rf hl
section YROWS
variable {X : zX} {D : va_G} {ct : Nat → ClassId} {cc : ByteArray} {own : String} {rm : Room} {ws : va_W} {cells slots pc : Nat} {lv : List (Nat × Value)} {rest : List Value}
theorem y_ret {ws0 : va_W} {F : (Nat → Nat) → va_W} (C : yOk X D ct cc own rm) (hr : yRet X D ws0 cells slots F) (hd : decode cc pc = .ok (.return_, 1)) (q : Nat → Nat) (hF : F q = ws) : Y X D ws cells slots pc lv [] := by
  obtain ⟨p, l, e, R, s, m, args, below, meth, c, z, Q, A⟩ := X
  obtain ⟨hx, hb, hts, hown, hK, hA, hAO, hlk, hR⟩ := C
  obtain ⟨rfl, hrt, rfl⟩ := hr
  intro H locs ls hP hD hS hl
  subst hF
  exact W.vret hx hb hrt (fun t ht hW => ⟨⟨q, rfl, trivial, by rw [ht]; exact hP, hD⟩, hS.F ht⟩) hS.2.2 hd hlk
theorem y_aload_n (C : yOk X D ct cc own rm) {k : Fin 4} {i : Nat} {x : Nat} (hd : decode cc pc = .ok (.aload_n k, 1)) (hi : (k : Nat) = i) (q : Nat) (hl0 : lv[q]? = some (i, .ref x)) (kk : Y X D ws cells slots (pc + 1) lv (.ref x :: rest)) : Y X D ws cells slots pc lv rest := by
  obtain ⟨p, l, e, R, s, m, args, below, meth, c, z, Q, A⟩ := X
  obtain ⟨hx, hb, hts, hown, hK, hA, hAO, hlk, hR⟩ := C
  intro H locs ls hP hD hS hl
  exact lv_aload_n hx hb hd hi (lv_at hl q hl0) (kk H locs ls hP hD hS hl)
theorem y_iconst (C : yOk X D ct cc own rm) {n : Int} {v : Int32} (hd : decode cc pc = .ok (.iconst n, 1)) (hv : Int32.ofInt n = v) (kk : Y X D ws cells slots (pc + 1) lv (.int v :: rest)) : Y X D ws cells slots pc lv rest := by
  obtain ⟨p, l, e, R, s, m, args, below, meth, c, z, Q, A⟩ := X
  obtain ⟨hx, hb, hts, hown, hK, hA, hAO, hlk, hR⟩ := C
  intro H locs ls hP hD hS hl
  exact lv_iconst hx hb hd hv (kk H locs ls hP hD hS hl)
theorem y_bipush (C : yOk X D ct cc own rm) {n : Int} {v : Int32} (hd : decode cc pc = .ok (.bipush n, 2)) (hv : (Int8.ofInt n).toInt32 = v) (kk : Y X D ws cells slots (pc + 2) lv (.int v :: rest)) : Y X D ws cells slots pc lv rest := by
  obtain ⟨p, l, e, R, s, m, args, below, meth, c, z, Q, A⟩ := X
  obtain ⟨hx, hb, hts, hown, hK, hA, hAO, hlk, hR⟩ := C
  intro H locs ls hP hD hS hl
  exact lv_bipush hx hb hd hv (kk H locs ls hP hD hS hl)
theorem y_sipush (C : yOk X D ct cc own rm) {n : Int} {v : Int32} (hd : decode cc pc = .ok (.sipush n, 3)) (hv : (Int16.ofInt n).toInt32 = v) (kk : Y X D ws cells slots (pc + 3) lv (.int v :: rest)) : Y X D ws cells slots pc lv rest := by
  obtain ⟨p, l, e, R, s, m, args, below, meth, c, z, Q, A⟩ := X
  obtain ⟨hx, hb, hts, hown, hK, hA, hAO, hlk, hR⟩ := C
  intro H locs ls hP hD hS hl
  exact lv_sipush hx hb hd hv (kk H locs ls hP hD hS hl)
theorem y_lconst (C : yOk X D ct cc own rm) {n : Fin 2} {v : Int64} (hd : decode cc pc = .ok (.lconst n, 1)) (hv : Int64.ofNat (n : Nat) = v) (kk : Y X D ws cells slots (pc + 1) lv (.long v :: rest)) : Y X D ws cells slots pc lv rest := by
  obtain ⟨p, l, e, R, s, m, args, below, meth, c, z, Q, A⟩ := X
  obtain ⟨hx, hb, hts, hown, hK, hA, hAO, hlk, hR⟩ := C
  intro H locs ls hP hD hS hl
  exact lv_lconst hx hb hd hv (kk H locs ls hP hD hS hl)
theorem y_dup (C : yOk X D ct cc own rm) {va : Value} (hd : decode cc pc = .ok (.dup, 1)) (hva : va.category = 1) (kk : Y X D ws cells slots (pc + 1) lv (va :: va :: rest)) : Y X D ws cells slots pc lv (va :: rest) := by
  obtain ⟨p, l, e, R, s, m, args, below, meth, c, z, Q, A⟩ := X
  obtain ⟨hx, hb, hts, hown, hK, hA, hAO, hlk, hR⟩ := C
  intro H locs ls hP hD hS hl
  exact lv_dup hx hb hd hva (kk H locs ls hP hD hS hl)
theorem y_obj (C : yOk X D ct cc own rm) {n : Nat} (hm : zML X n) {idx a : Nat} (h1 : Cond.methodLink own idx objectInit ∈ zT) (h2 : Cond.instanceMethod objectInit ∈ zT) (h3 : Cond.code objectInit ⟨#[0xb1]⟩ 1 none ∈ zT) (hf : 1 ≤ rm.frames) (hlc : 12 ≤ rm.locals) (hd : decode cc pc = .ok (.invokespecial idx, 3)) (kk : Y X D ws cells slots (pc + 3) lv []) : Y X D ws cells slots pc lv [.ref a] := by
  obtain ⟨p, l, e, R, s, m, args, below, meth, c, z, Q, A⟩ := X
  obtain ⟨hx, hb, hts, hown, hK, hA, hAO, hlk, hR⟩ := C
  intro H locs ls hP hD hS hl
  subst hR
  refine W.objInit hx hb hown (hts _ h1) (hts _ h2) (hts _ h3) rfl hl.1 rfl hd hf ?_ ?_
  · show 2 * 0 + 0 + 12 ≤ _
    omega
  · exact W.eq (g2 := F0 m (pc + 3) ls []) rfl (kk H locs ls hP hD hS hl)
theorem y_newI (C : yOk X D ct cc own rm) {N : Nat} {n : Int32} (hn : n = nI N) (hN : N < 1000) {cells' slots' : Nat} (hc : cells + 1 = cells') (hs : slots + N = slots') (hc2 : cells' ≤ rm.cells) (hs2 : slots' ≤ rm.slots) (hd : decode cc pc = .ok (.newarray .int, 2)) (kk : ∀ q, Y X D (ws ++ [(q, .inl (ct 0, N, .inl fun _ => 0))]) cells' slots' (pc + 2) lv (.ref q :: rest)) : Y X D ws cells slots pc lv (.int n :: rest) := by
  obtain ⟨p, l, e, R, s, m, args, below, meth, c, z, Q, A⟩ := X
  obtain ⟨hx, hb, hts, hown, hK, hA, hAO, hlk, hR⟩ := C
  intro H locs ls hP hD hS hl
  subst hn; subst hc; subst hs; subst hR
  have hw : Cond.arrayClass .int ∈ zT := (zin_r1 _ (List.mem_of_getElem? (i := 13) rfl))
  refine va_newa (atype := .int) (ty := .int) hx hb (hts _ hw) rfl hK hP hD hS hA (N' := N) (a0 := (N, .inl fun _ => 0)) (fun _ => rfl) (nI_pos (by omega)) (nI_clamp (by omega)) (Nat.le_trans (Nat.mul_le_mul_right _ (Nat.le_of_lt hN)) (by decide)) hc2 hs2 hd (fun q cA H1 hK1 hP1 hD1 hS1 => ?_)
  have e1 : s.vm.findClass ("[" ++ FieldType.toString .int) = some cA := (hK1.2 5 _ rfl).2
  have e0 : s.vm.findClass ("[" ++ FieldType.toString .int) = some (ct 0) := (hK.2 0 _ rfl).2
  have e2 : cA = ct 0 := Option.some.inj (e1.symm.trans e0)
  subst e2
  exact kk q H1 locs ls hP1 hD1 hS1 hl
theorem y_newL (C : yOk X D ct cc own rm) {N : Nat} {n : Int32} (hn : n = nI N) (hN : N < 1000) {cells' slots' : Nat} (hc : cells + 1 = cells') (hs : slots + N = slots') (hc2 : cells' ≤ rm.cells) (hs2 : slots' ≤ rm.slots) (hd : decode cc pc = .ok (.newarray .long, 2)) (kk : ∀ q, Y X D (ws ++ [(q, .inl (ct 1, N, .inr (.inl fun _ => 0)))]) cells' slots' (pc + 2) lv (.ref q :: rest)) : Y X D ws cells slots pc lv (.int n :: rest) := by
  obtain ⟨p, l, e, R, s, m, args, below, meth, c, z, Q, A⟩ := X
  obtain ⟨hx, hb, hts, hown, hK, hA, hAO, hlk, hR⟩ := C
  intro H locs ls hP hD hS hl
  subst hn; subst hc; subst hs; subst hR
  have hw : Cond.arrayClass .long ∈ zT := (zin_r3 _ (List.mem_of_getElem? (i := 12) rfl))
  refine va_newa (atype := .long) (ty := .long) hx hb (hts _ hw) rfl hK hP hD hS hA (N' := N) (a0 := (N, .inr (.inl fun _ => 0))) (fun _ => rfl) (nI_pos (by omega)) (nI_clamp (by omega)) (Nat.le_trans (Nat.mul_le_mul_right _ (Nat.le_of_lt hN)) (by decide)) hc2 hs2 hd (fun q cA H1 hK1 hP1 hD1 hS1 => ?_)
  have e1 : s.vm.findClass ("[" ++ FieldType.toString .long) = some cA := (hK1.2 5 _ rfl).2
  have e0 : s.vm.findClass ("[" ++ FieldType.toString .long) = some (ct 1) := (hK.2 1 _ rfl).2
  have e2 : cA = ct 1 := Option.some.inj (e1.symm.trans e0)
  subst e2
  exact kk q H1 locs ls hP1 hD1 hS1 hl
theorem y_newZ (C : yOk X D ct cc own rm) {N : Nat} {n : Int32} (hn : n = nI N) (hN : N < 1000) {cells' slots' : Nat} (hc : cells + 1 = cells') (hs : slots + N = slots') (hc2 : cells' ≤ rm.cells) (hs2 : slots' ≤ rm.slots) (hd : decode cc pc = .ok (.newarray .boolean, 2)) (kk : ∀ q, Y X D (ws ++ [(q, .inl (ct 2, N, .inl fun _ => 0))]) cells' slots' (pc + 2) lv (.ref q :: rest)) : Y X D ws cells slots pc lv (.int n :: rest) := by
  obtain ⟨p, l, e, R, s, m, args, below, meth, c, z, Q, A⟩ := X
  obtain ⟨hx, hb, hts, hown, hK, hA, hAO, hlk, hR⟩ := C
  intro H locs ls hP hD hS hl
  subst hn; subst hc; subst hs; subst hR
  have hw : Cond.arrayClass .boolean ∈ zT := (zin_r6 _ (List.mem_of_getElem? (i := 0) rfl))
  refine va_newa (atype := .boolean) (ty := .boolean) hx hb (hts _ hw) rfl hK hP hD hS hA (N' := N) (a0 := (N, .inl fun _ => 0)) (fun _ => rfl) (nI_pos (by omega)) (nI_clamp (by omega)) (Nat.le_trans (Nat.mul_le_mul_right _ (Nat.le_of_lt hN)) (by decide)) hc2 hs2 hd (fun q cA H1 hK1 hP1 hD1 hS1 => ?_)
  have e1 : s.vm.findClass ("[" ++ FieldType.toString .boolean) = some cA := (hK1.2 5 _ rfl).2
  have e0 : s.vm.findClass ("[" ++ FieldType.toString .boolean) = some (ct 2) := (hK.2 2 _ rfl).2
  have e2 : cA = ct 2 := Option.some.inj (e1.symm.trans e0)
  subst e2
  exact kk q H1 locs ls hP1 hD1 hS1 hl
theorem y_put (C : yOk X D ct cc own rm) {index ci k a : Nat} {ty : FieldType} (F : zFd own index ci k ty false) {v : Value} {fs : List Value} {rows : va_W} (hkl : k < fs.length) (hn : narrow ty v = v) (hfit : fits ty v = true) (fs' : List Value) (hfs : fs.set k v = fs') (hd : decode cc pc = .ok (.putfield index, 3)) (kk : Y X D ((a, .inr (ci, fs')) :: rows) cells slots (pc + 3) lv rest) : Y X D ((a, .inr (ci, fs)) :: rows) cells slots pc lv (v :: .ref a :: rest) := by
  obtain ⟨p, l, e, R, s, m, args, below, meth, c, z, Q, A⟩ := X
  obtain ⟨hx, hb, hts, hown, hK, hA, hAO, hlk, hR⟩ := C
  obtain ⟨Cn, T, Nf, ty0, h1, h2, h3, h4, h5, h6, h7, h8⟩ := F
  intro H locs ls hP hD hS hl
  subst hfs
  exact va_put hx hb (Ts := zT) hts h2 ty0 h5 h6 hown hK hP hD hS 0 (fs := fs) rfl h1 k h3 (hts _ h4) (fun _ h => h) h7 (ty := ty) (by rw [← h8]; exact h5 k h3) hn hfit hkl hd (fun H1 locs1 hP1 hD1 hS1 => kk H1 locs1 ls hP1 hD1 hS1 hl)
theorem y_putF (C : yOk X D ct cc own rm) (hin : yIn X) {index ci k a : Nat} {ty : FieldType} (F : zFd own index ci k ty true) (hdec : ∀ q, vwCl[ci]? = some q → (q.2.1 k).1 = own) {v : Value} {fs : List Value} {rows : va_W} (hkl : k < fs.length) (hn : narrow ty v = v) (hfit : fits ty v = true) (fs' : List Value) (hfs : fs.set k v = fs') (hd : decode cc pc = .ok (.putfield index, 3)) (kk : Y X D ((a, .inr (ci, fs')) :: rows) cells slots (pc + 3) lv rest) : Y X D ((a, .inr (ci, fs)) :: rows) cells slots pc lv (v :: .ref a :: rest) := by
  obtain ⟨p, l, e, R, s, m, args, below, meth, c, z, Q, A⟩ := X
  obtain ⟨hx, hb, hts, hown, hK, hA, hAO, hlk, hR⟩ := C
  obtain ⟨Cn, T, Nf, ty0, h1, h2, h3, h4, h5, h6, h7, h8⟩ := F
  intro H locs ls hP hD hS hl
  subst hfs
  exact va_putF hx hb (Ts := zT) hts h2 ty0 h5 h6 hown hK hP hD hS 0 (fs := fs) rfl h1 k h3 (hts _ h4) (fun _ h => h) h7 hin (hdec _ h1) (ty := ty) (by rw [← h8]; exact h5 k h3) hn hfit hkl hd (fun H1 locs1 hP1 hD1 hS1 => kk H1 locs1 ls hP1 hD1 hS1 hl)
end YROWS
abbrev rm_X5_init : Room := { frames := 1, cells := 1, slots := 100, locals := 12 }
abbrev F_X5_init (ct : Nat → ClassId) (h0 : Nat) : (Nat → Nat) → va_W := fun q => (h0, .inr (5, [.ref (q 0), .int 0, .int 0])) :: [(q 0, .inl (ct 0, 100, .inl fun _ => 0))]
set_option maxHeartbeats 4000000 in
set_option maxRecDepth 100000 in
theorem k_X5_init (D : va_G) (ct : Nat → ClassId) (h0 : Nat) : yMet yX5_init cX5_init 1 rm_X5_init D ct [.ref h0] [(h0, .inr (5, [.null, .int 0, .int 0]))] 1 100 (F_X5_init ct h0) := by
  refine yMet_of (by decide) rfl (Nat.le_of_ble_eq_true rfl) (fun X C hm hin hr => ?_)
  refine y_aload_n C dX5_init_0 rfl 0 rfl ?_
  refine y_obj C hm (zin_r2 _ (List.mem_of_getElem? (i := 22) rfl)) (zin_r1 _ (List.mem_of_getElem? (i := 11) rfl)) (zin_r1 _ (List.mem_of_getElem? (i := 12) rfl)) (by decide) (by decide) dX5_init_1 ?_
  refine y_aload_n C dX5_init_4 rfl 0 rfl ?_
  refine y_bipush C (v := 100) dX5_init_5 (by decide) ?_
  refine y_newI C (N := 100) (by decide) (by decide) (cells' := 1) (slots' := 100) rfl rfl (by decide) (by decide) dX5_init_7 (fun q0 => ?_)
  refine y_putF C hin ff_X5_9 (fun q e => by cases e; rfl) (Nat.le_of_ble_eq_true rfl) rfl rfl [.ref q0, .int 0, .int 0] rfl dX5_init_9 ?_
  exact y_ret C hr dX5_init_12 (fun i => [q0].getD i 0) rfl
abbrev rm_X0_init : Room := { frames := 1, cells := 1, slots := 20, locals := 12 }
abbrev F_X0_init (ct : Nat → ClassId) (h0 : Nat) : (Nat → Nat) → va_W := fun q => (h0, .inr (0, [.ref (q 0), .int 0, .int 0, .int 0, .int 0])) :: [(q 0, .inl (ct 0, 20, .inl fun _ => 0))]
set_option maxHeartbeats 4000000 in
set_option maxRecDepth 100000 in
theorem k_X0_init (D : va_G) (ct : Nat → ClassId) (h0 : Nat) : yMet yX0_init cX0_init 1 rm_X0_init D ct [.ref h0] [(h0, .inr (0, [.null, .int 0, .int 0, .int 0, .int 0]))] 1 20 (F_X0_init ct h0) := by
  refine yMet_of (by decide) rfl (Nat.le_of_ble_eq_true rfl) (fun X C hm hin hr => ?_)
  refine y_aload_n C dX0_init_0 rfl 0 rfl ?_
  refine y_obj C hm (zin_r3 _ (List.mem_of_getElem? (i := 16) rfl)) (zin_r1 _ (List.mem_of_getElem? (i := 11) rfl)) (zin_r1 _ (List.mem_of_getElem? (i := 12) rfl)) (by decide) (by decide) dX0_init_1 ?_
  refine y_aload_n C dX0_init_4 rfl 0 rfl ?_
  refine y_bipush C (v := 20) dX0_init_5 (by decide) ?_
  refine y_newI C (N := 20) (by decide) (by decide) (cells' := 1) (slots' := 20) rfl rfl (by decide) (by decide) dX0_init_7 (fun q0 => ?_)
  refine y_putF C hin ff_X0_11 (fun q e => by cases e; rfl) (Nat.le_of_ble_eq_true rfl) rfl rfl [.ref q0, .int 0, .int 0, .int 0, .int 0] rfl dX0_init_9 ?_
  exact y_ret C hr dX0_init_12 (fun i => [q0].getD i 0) rfl
abbrev rm_X2_init : Room := { frames := 1, cells := 1, slots := 10, locals := 12 }
abbrev F_X2_init (ct : Nat → ClassId) (h0 : Nat) : (Nat → Nat) → va_W := fun q => (h0, .inr (2, [.ref (q 0), .int 0, .long 0, .long 0])) :: [(q 0, .inl (ct 1, 10, .inr (.inl fun _ => 0)))]
set_option maxHeartbeats 4000000 in
set_option maxRecDepth 100000 in
theorem k_X2_init (D : va_G) (ct : Nat → ClassId) (h0 : Nat) : yMet yX2_init cX2_init 1 rm_X2_init D ct [.ref h0] [(h0, .inr (2, [.null, .int 0, .long 0, .long 0]))] 1 10 (F_X2_init ct h0) := by
  refine yMet_of (by decide) rfl (Nat.le_of_ble_eq_true rfl) (fun X C hm hin hr => ?_)
  refine y_aload_n C dX2_init_0 rfl 0 rfl ?_
  refine y_obj C hm (zin_r3 _ (List.mem_of_getElem? (i := 11) rfl)) (zin_r1 _ (List.mem_of_getElem? (i := 11) rfl)) (zin_r1 _ (List.mem_of_getElem? (i := 12) rfl)) (by decide) (by decide) dX2_init_1 ?_
  refine y_aload_n C dX2_init_4 rfl 0 rfl ?_
  refine y_bipush C (v := 10) dX2_init_5 (by decide) ?_
  refine y_newL C (N := 10) (by decide) (by decide) (cells' := 1) (slots' := 10) rfl rfl (by decide) (by decide) dX2_init_7 (fun q0 => ?_)
  refine y_putF C hin ff_X2_9 (fun q e => by cases e; rfl) (Nat.le_of_ble_eq_true rfl) rfl rfl [.ref q0, .int 0, .long 0, .long 0] rfl dX2_init_9 ?_
  exact y_ret C hr dX2_init_12 (fun i => [q0].getD i 0) rfl
abbrev rm_X3_init : Room := { frames := 1, cells := 6, slots := 178, locals := 12 }
abbrev F_X3_init (ct : Nat → ClassId) (h0 : Nat) : (Nat → Nat) → va_W := fun q => (h0, .inr (3, [.ref (q 0), .ref (q 1), .ref (q 2), .ref (q 3), .ref (q 4), .ref (q 5), .int 0, .int 0])) :: [(q 0, .inl (ct 0, 64, .inl fun _ => 0)), (q 1, .inl (ct 0, 8, .inl fun _ => 0)), (q 2, .inl (ct 0, 8, .inl fun _ => 0)), (q 3, .inl (ct 0, 8, .inl fun _ => 0)), (q 4, .inl (ct 0, 80, .inl fun _ => 0)), (q 5, .inl (ct 0, 10, .inl fun _ => 0))]
set_option maxHeartbeats 4000000 in
set_option maxRecDepth 100000 in
theorem k_X3_init (D : va_G) (ct : Nat → ClassId) (h0 : Nat) : yMet yX3_init cX3_init 1 rm_X3_init D ct [.ref h0] [(h0, .inr (3, [.null, .null, .null, .null, .null, .null, .int 0, .int 0]))] 6 178 (F_X3_init ct h0) := by
  refine yMet_of (by decide) rfl (Nat.le_of_ble_eq_true rfl) (fun X C hm hin hr => ?_)
  refine y_aload_n C dX3_init_0 rfl 0 rfl ?_
  refine y_obj C hm (zin_r3 _ (List.mem_of_getElem? (i := 2) rfl)) (zin_r1 _ (List.mem_of_getElem? (i := 11) rfl)) (zin_r1 _ (List.mem_of_getElem? (i := 12) rfl)) (by decide) (by decide) dX3_init_1 ?_
  refine y_aload_n C dX3_init_4 rfl 0 rfl ?_
  refine y_bipush C (v := 64) dX3_init_5 (by decide) ?_
  refine y_newI C (N := 64) (by decide) (by decide) (cells' := 1) (slots' := 64) rfl rfl (by decide) (by decide) dX3_init_7 (fun q0 => ?_)
  refine y_putF C hin ff_X3_9 (fun q e => by cases e; rfl) (Nat.le_of_ble_eq_true rfl) rfl rfl [.ref q0, .null, .null, .null, .null, .null, .int 0, .int 0] rfl dX3_init_9 ?_
  refine y_aload_n C dX3_init_12 rfl 0 rfl ?_
  refine y_bipush C (v := 8) dX3_init_13 (by decide) ?_
  refine y_newI C (N := 8) (by decide) (by decide) (cells' := 2) (slots' := 72) rfl rfl (by decide) (by decide) dX3_init_15 (fun q1 => ?_)
  refine y_putF C hin ff_X3_15 (fun q e => by cases e; rfl) (Nat.le_of_ble_eq_true rfl) rfl rfl [.ref q0, .ref q1, .null, .null, .null, .null, .int 0, .int 0] rfl dX3_init_17 ?_
  refine y_aload_n C dX3_init_20 rfl 0 rfl ?_
  refine y_bipush C (v := 8) dX3_init_21 (by decide) ?_
  refine y_newI C (N := 8) (by decide) (by decide) (cells' := 3) (slots' := 80) rfl rfl (by decide) (by decide) dX3_init_23 (fun q2 => ?_)
  refine y_putF C hin ff_X3_18 (fun q e => by cases e; rfl) (Nat.le_of_ble_eq_true rfl) rfl rfl [.ref q0, .ref q1, .ref q2, .null, .null, .null, .int 0, .int 0] rfl dX3_init_25 ?_
  refine y_aload_n C dX3_init_28 rfl 0 rfl ?_
  refine y_bipush C (v := 8) dX3_init_29 (by decide) ?_
  refine y_newI C (N := 8) (by decide) (by decide) (cells' := 4) (slots' := 88) rfl rfl (by decide) (by decide) dX3_init_31 (fun q3 => ?_)
  refine y_putF C hin ff_X3_21 (fun q e => by cases e; rfl) (Nat.le_of_ble_eq_true rfl) rfl rfl [.ref q0, .ref q1, .ref q2, .ref q3, .null, .null, .int 0, .int 0] rfl dX3_init_33 ?_
  refine y_aload_n C dX3_init_36 rfl 0 rfl ?_
  refine y_bipush C (v := 80) dX3_init_37 (by decide) ?_
  refine y_newI C (N := 80) (by decide) (by decide) (cells' := 5) (slots' := 168) rfl rfl (by decide) (by decide) dX3_init_39 (fun q4 => ?_)
  refine y_putF C hin ff_X3_24 (fun q e => by cases e; rfl) (Nat.le_of_ble_eq_true rfl) rfl rfl [.ref q0, .ref q1, .ref q2, .ref q3, .ref q4, .null, .int 0, .int 0] rfl dX3_init_41 ?_
  refine y_aload_n C dX3_init_44 rfl 0 rfl ?_
  refine y_bipush C (v := 10) dX3_init_45 (by decide) ?_
  refine y_newI C (N := 10) (by decide) (by decide) (cells' := 6) (slots' := 178) rfl rfl (by decide) (by decide) dX3_init_47 (fun q5 => ?_)
  refine y_putF C hin ff_X3_27 (fun q e => by cases e; rfl) (Nat.le_of_ble_eq_true rfl) rfl rfl [.ref q0, .ref q1, .ref q2, .ref q3, .ref q4, .ref q5, .int 0, .int 0] rfl dX3_init_49 ?_
  exact y_ret C hr dX3_init_52 (fun i => [q0, q1, q2, q3, q4, q5].getD i 0) rfl
abbrev rm_X1_init : Room := { frames := 1, cells := 4, slots := 130, locals := 12 }
abbrev F_X1_init (ct : Nat → ClassId) (h0 : Nat) : (Nat → Nat) → va_W := fun q => (h0, .inr (1, [.ref (q 0), .ref (q 1), .ref (q 2), .int 0, .ref (q 3), .int 0])) :: [(q 0, .inl (ct 0, 10, .inl fun _ => 0)), (q 1, .inl (ct 0, 10, .inl fun _ => 0)), (q 2, .inl (ct 0, 10, .inl fun _ => 0)), (q 3, .inl (ct 0, 100, .inl fun _ => 0))]
set_option maxHeartbeats 4000000 in
set_option maxRecDepth 100000 in
theorem k_X1_init (D : va_G) (ct : Nat → ClassId) (h0 : Nat) : yMet yX1_init cX1_init 1 rm_X1_init D ct [.ref h0] [(h0, .inr (1, [.null, .null, .null, .int 0, .null, .int 0]))] 4 130 (F_X1_init ct h0) := by
  refine yMet_of (by decide) rfl (Nat.le_of_ble_eq_true rfl) (fun X C hm hin hr => ?_)
  refine y_aload_n C dX1_init_0 rfl 0 rfl ?_
  refine y_obj C hm (zin_r3 _ (List.mem_of_getElem? (i := 20) rfl)) (zin_r1 _ (List.mem_of_getElem? (i := 11) rfl)) (zin_r1 _ (List.mem_of_getElem? (i := 12) rfl)) (by decide) (by decide) dX1_init_1 ?_
  refine y_aload_n C dX1_init_4 rfl 0 rfl ?_
  refine y_bipush C (v := 10) dX1_init_5 (by decide) ?_
  refine y_newI C (N := 10) (by decide) (by decide) (cells' := 1) (slots' := 10) rfl rfl (by decide) (by decide) dX1_init_7 (fun q0 => ?_)
  refine y_putF C hin ff_X1_9 (fun q e => by cases e; rfl) (Nat.le_of_ble_eq_true rfl) rfl rfl [.ref q0, .null, .null, .int 0, .null, .int 0] rfl dX1_init_9 ?_
  refine y_aload_n C dX1_init_12 rfl 0 rfl ?_
  refine y_bipush C (v := 10) dX1_init_13 (by decide) ?_
  refine y_newI C (N := 10) (by decide) (by decide) (cells' := 2) (slots' := 20) rfl rfl (by decide) (by decide) dX1_init_15 (fun q1 => ?_)
  refine y_putF C hin ff_X1_15 (fun q e => by cases e; rfl) (Nat.le_of_ble_eq_true rfl) rfl rfl [.ref q0, .ref q1, .null, .int 0, .null, .int 0] rfl dX1_init_17 ?_
  refine y_aload_n C dX1_init_20 rfl 0 rfl ?_
  refine y_bipush C (v := 10) dX1_init_21 (by decide) ?_
  refine y_newI C (N := 10) (by decide) (by decide) (cells' := 3) (slots' := 30) rfl rfl (by decide) (by decide) dX1_init_23 (fun q2 => ?_)
  refine y_putF C hin ff_X1_18 (fun q e => by cases e; rfl) (Nat.le_of_ble_eq_true rfl) rfl rfl [.ref q0, .ref q1, .ref q2, .int 0, .null, .int 0] rfl dX1_init_25 ?_
  refine y_aload_n C dX1_init_28 rfl 0 rfl ?_
  refine y_bipush C (v := 100) dX1_init_29 (by decide) ?_
  refine y_newI C (N := 100) (by decide) (by decide) (cells' := 4) (slots' := 130) rfl rfl (by decide) (by decide) dX1_init_31 (fun q3 => ?_)
  refine y_putF C hin ff_X1_21 (fun q e => by cases e; rfl) (Nat.le_of_ble_eq_true rfl) rfl rfl [.ref q0, .ref q1, .ref q2, .int 0, .ref q3, .int 0] rfl dX1_init_33 ?_
  exact y_ret C hr dX1_init_36 (fun i => [q0, q1, q2, q3].getD i 0) rfl
abbrev rm_X4_init : Room := { frames := 1, cells := 1, slots := 60, locals := 12 }
abbrev F_X4_init (ct : Nat → ClassId) (h0 : Nat) : (Nat → Nat) → va_W := fun q => (h0, .inr (4, [.int (-1), .int 0, .ref (q 0)])) :: [(q 0, .inl (ct 1, 60, .inr (.inl fun _ => 0)))]
set_option maxHeartbeats 4000000 in
set_option maxRecDepth 100000 in
theorem k_X4_init (D : va_G) (ct : Nat → ClassId) (h0 : Nat) : yMet yX4_init cX4_init 1 rm_X4_init D ct [.ref h0] [(h0, .inr (4, [.int 0, .int 0, .null]))] 1 60 (F_X4_init ct h0) := by
  refine yMet_of (by decide) rfl (Nat.le_of_ble_eq_true rfl) (fun X C hm hin hr => ?_)
  refine y_aload_n C dX4_init_0 rfl 0 rfl ?_
  refine y_obj C hm (zin_r4 _ (List.mem_of_getElem? (i := 3) rfl)) (zin_r1 _ (List.mem_of_getElem? (i := 11) rfl)) (zin_r1 _ (List.mem_of_getElem? (i := 12) rfl)) (by decide) (by decide) dX4_init_1 ?_
  refine y_aload_n C dX4_init_4 rfl 0 rfl ?_
  refine y_iconst C (v := -1) dX4_init_5 (by decide) ?_
  refine y_put C ff_X4_11 (Nat.le_of_ble_eq_true rfl) rfl rfl [.int (-1), .int 0, .null] rfl dX4_init_6 ?_
  refine y_aload_n C dX4_init_9 rfl 0 rfl ?_
  refine y_bipush C (v := 60) dX4_init_10 (by decide) ?_
  refine y_newL C (N := 60) (by decide) (by decide) (cells' := 1) (slots' := 60) rfl rfl (by decide) (by decide) dX4_init_12 (fun q0 => ?_)
  refine y_putF C hin ff_X4_15 (fun q e => by cases e; rfl) (Nat.le_of_ble_eq_true rfl) rfl rfl [.int (-1), .int 0, .ref q0] rfl dX4_init_14 ?_
  exact y_ret C hr dX4_init_17 (fun i => [q0].getD i 0) rfl
