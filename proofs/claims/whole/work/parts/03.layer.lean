/-! THE LAYER: a state of the whole world is two tables of numbers over places: I (ints) and J (longs); what a place is, is fixed (zsh). -/
abbrev zI : Type := Nat → Nat → Int32
abbrev zJ : Type := Nat → Nat → Int64
abbrev zS : Type := (Nat × Nat × Nat × (Nat → Option Nat)) ⊕ (Nat × List (Nat × Nat))
abbrev zA : Type := Nat × Nat × Nat × Nat
/-- w: the kinds and their slots; the array kinds; the places' addresses; the texts' addresses and their rows'; two tables that nobody writes -/
abbrev zW : Type := va_G × (Nat → ClassId) × (Nat → Nat) × (Nat → Nat) × (Nat → Nat) × (Nat → Nat)
def zad (w : zW) (k : Nat) : Nat := w.2.2.1 k
def zup (I : zI) (a : Nat) (g : Nat → Int32) : zI := fun k => if k = a then g else I k
def zupJ (J : zJ) (a : Nat) (g : Nat → Int64) : zJ := fun k => if k = a then g else J k
theorem zup_s {I : zI} {a : Nat} {g : Nat → Int32} : zup I a g a = g := if_pos rfl
theorem zup_n {I : zI} {a k : Nat} {g : Nat → Int32} (h : k ≠ a) : zup I a g k = I k := if_neg h
theorem zupJ_s {J : zJ} {a : Nat} {g : Nat → Int64} : zupJ J a g a = g := if_pos rfl
theorem zupJ_n {J : zJ} {a k : Nat} {g : Nat → Int64} (h : k ≠ a) : zupJ J a g k = J k := if_neg h
theorem zup_up {I : zI} {a : Nat} {g h : Nat → Int32} : zup (zup I a g) a h = zup I a h := by
  funext k; by_cases q : k = a
  · subst q; rw [zup_s, zup_s]
  · rw [zup_n q, zup_n q, zup_n q]
theorem zupJ_up {J : zJ} {a : Nat} {g h : Nat → Int64} : zupJ (zupJ J a g) a h = zupJ J a h := by
  funext k; by_cases q : k = a
  · subst q; rw [zupJ_s, zupJ_s]
  · rw [zupJ_n q, zupJ_n q, zupJ_n q]
theorem zup_id {I : zI} {a : Nat} : zup I a (I a) = I := by
  funext k; by_cases q : k = a
  · subst q; rw [zup_s]
  · rw [zup_n q]
theorem zupJ_id {J : zJ} {a : Nat} : zupJ J a (J a) = J := by
  funext k; by_cases q : k = a
  · subst q; rw [zupJ_s]
  · rw [zupJ_n q]
theorem zup_comm {I : zI} {a b : Nat} {g h : Nat → Int32} (n : a ≠ b) : zup (zup I a g) b h = zup (zup I b h) a g := by
  funext k; by_cases q : k = a
  · subst q; rw [zup_n n, zup_s, zup_s]
  · by_cases r : k = b
    · subst r; rw [zup_s, zup_n q, zup_s]
    · rw [zup_n r, zup_n q, zup_n q, zup_n r]
/-- a law's place by its number -/
def zhd (v : Int32) : Nat := 47 + 5 * v.toNatClampNeg
def zfv (w : zW) (I : zI) (J : zJ) (a j : Nat) (f : Nat × Nat) : Value := match f.1 with
  | 0 => .int (I a j)
  | 1 => .long (J a j)
  | 2 => .ref (zad w f.2)
  | _ => .ref (zad w (zhd (I a j)))
def zfs (w : zW) (I : zI) (J : zJ) (a : Nat) : Nat → List (Nat × Nat) → List Value
  | _, [] => []
  | j, f :: l => zfv w I J a j f :: zfs w I J a (j + 1) l
def zcont (w : zW) (I : zI) (J : zJ) (a k : Nat) (r : Nat → Option Nat) : (Nat → Int32) ⊕ (Nat → Int64) ⊕ (Nat → UInt32) ⊕ (Nat → UInt64) ⊕ (Nat → Option Nat) := match k with
  | 0 => .inl (I a)
  | 1 => .inr (.inl (J a))
  | _ => .inr (.inr (.inr (.inr (fun i => (r i).map (zad w)))))
def zE (w : zW) (I : zI) (J : zJ) (a : Nat) (S : zS) : va_E := match S with
  | .inl (t, n, k, r) => .inl (w.2.1 t, n, zcont w I J a k r)
  | .inr (ci, fs) => .inr (ci, zfs w I J a 0 fs)
theorem zfs_at {w : zW} {I : zI} {J : zJ} {a : Nat} : ∀ (fs : List (Nat × Nat)) (j0 j : Nat) {f : Nat × Nat}, fs[j]? = some f → (zfs w I J a j0 fs)[j]? = some (zfv w I J a (j0 + j) f)
  | [], _, _, _, h => by simp at h
  | g :: l, j0, 0, f, h => by
    simp only [List.getElem?_cons_zero, Option.some.injEq] at h
    subst h
    simp [zfs]
  | g :: l, j0, j + 1, f, h => by
    have h' : l[j]? = some f := by simpa using h
    have := zfs_at (w := w) (I := I) (J := J) (a := a) l (j0 + 1) j h'
    simp only [zfs, List.getElem?_cons_succ]
    rw [this]; congr 2; omega
theorem zfs_len {w : zW} {I : zI} {J : zJ} {a : Nat} : ∀ (fs : List (Nat × Nat)) (j0 : Nat), (zfs w I J a j0 fs).length = fs.length
  | [], _ => rfl
  | _ :: l, j0 => by simp [zfs, zfs_len l (j0 + 1)]
theorem zfs_congr {w : zW} {I I' : zI} {J J' : zJ} {a : Nat} : ∀ (fs : List (Nat × Nat)) (j0 : Nat), (∀ j f, fs[j]? = some f → zfv w I' J' a (j0 + j) f = zfv w I J a (j0 + j) f) → zfs w I' J' a j0 fs = zfs w I J a j0 fs
  | [], _, _ => rfl
  | g :: l, j0, h => by
    simp only [zfs]
    rw [zfs_congr (I := I) (I' := I') (J := J) (J' := J') l (j0 + 1) (fun j f hf => by have := h (j + 1) f (by simpa using hf); rw [show j0 + (j + 1) = j0 + 1 + j by omega] at this; exact this)]
    have := h 0 g rfl
    rw [Nat.add_zero] at this
    rw [this]
theorem zfs_set {w : zW} {I I' : zI} {J J' : zJ} {a : Nat} {v : Value} : ∀ (fs : List (Nat × Nat)) (j0 j : Nat) {f : Nat × Nat}, fs[j]? = some f → zfv w I' J' a (j0 + j) f = v → (∀ i g, i ≠ j → fs[i]? = some g → zfv w I' J' a (j0 + i) g = zfv w I J a (j0 + i) g) → zfs w I' J' a j0 fs = (zfs w I J a j0 fs).set j v
  | [], _, _, _, h, _, _ => by simp at h
  | g :: l, j0, 0, f, h, hv, ho => by
    simp only [List.getElem?_cons_zero, Option.some.injEq] at h
    subst h
    simp only [zfs, List.set_cons_zero]
    rw [Nat.add_zero] at hv
    rw [hv, zfs_congr (I := I) (I' := I') (J := J) (J' := J') l (j0 + 1) (fun i g hg => by have := ho (i + 1) g (by omega) (by simpa using hg); rw [show j0 + (i + 1) = j0 + 1 + i by omega] at this; exact this)]
  | g :: l, j0, j + 1, f, h, hv, ho => by
    have h' : l[j]? = some f := by simpa using h
    simp only [zfs, List.set_cons_succ]
    rw [zfs_set (I := I) (I' := I') (J := J) (J' := J') (v := v) l (j0 + 1) j h' (by rw [← hv, show j0 + 1 + j = j0 + (j + 1) by omega]) (fun i g hi hg => by have := ho (i + 1) g (by omega) (by simpa using hg); rw [show j0 + (i + 1) = j0 + 1 + i by omega] at this; exact this)]
    have := ho 0 g (by omega) rfl
    rw [Nat.add_zero] at this
    rw [this]
theorem zE_congr {w : zW} {I I' : zI} {J J' : zJ} {k : Nat} {S : zS} (h1 : I' k = I k) (h2 : J' k = J k) : zE w I' J' k S = zE w I J k S := by
  rcases S with ⟨t, n, kd, r⟩ | ⟨ci, fs⟩
  · simp only [zE, zcont, h1, h2]
  · simp only [zE]
    rw [zfs_congr (I := I) (I' := I') (J := J) (J' := J') fs 0 (fun j f _ => by simp only [zfv, h1, h2])]
def zN : Nat := 123
/-- the places: 0..81 the component, 82.. the reference -/
def zshC : Nat → zS
  | 0 => .inr (7, [(2, 1), (0, 0), (2, 2), (2, 4), (0, 0), (2, 5), (2, 14), (0, 0), (2, 23), (2, 30), (2, 32), (2, 34)])
  | 1 => .inl (0, 8, 0, fun _ => none)
  | 2 => .inr (5, [(2, 3), (0, 0), (0, 0)])
  | 3 => .inl (0, 100, 0, fun _ => none)
  | 4 => .inl (3, 7, 2, fun i => some (47 + 5 * i))
  | 5 => .inr (6, [(2, 6), (2, 7), (3, 0), (2, 8), (2, 9), (2, 10), (2, 11), (2, 12), (0, 0), (2, 13), (0, 0)])
  | 6 => .inl (0, 64, 0, fun _ => none)
  | 7 => .inl (0, 8, 0, fun _ => none)
  | 8 => .inl (0, 16, 0, fun _ => none)
  | 9 => .inl (0, 16, 0, fun _ => none)
  | 10 => .inl (0, 16, 0, fun _ => none)
  | 11 => .inl (0, 16, 0, fun _ => none)
  | 12 => .inl (0, 16, 0, fun _ => none)
  | 13 => .inl (0, 6, 0, fun _ => none)
  | 14 => .inr (6, [(2, 15), (2, 16), (3, 0), (2, 17), (2, 18), (2, 19), (2, 20), (2, 21), (0, 0), (2, 22), (0, 0)])
  | 15 => .inl (0, 64, 0, fun _ => none)
  | 16 => .inl (0, 8, 0, fun _ => none)
  | 17 => .inl (0, 16, 0, fun _ => none)
  | 18 => .inl (0, 16, 0, fun _ => none)
  | 19 => .inl (0, 16, 0, fun _ => none)
  | 20 => .inl (0, 16, 0, fun _ => none)
  | 21 => .inl (0, 16, 0, fun _ => none)
  | 22 => .inl (0, 6, 0, fun _ => none)
  | 23 => .inr (3, [(2, 24), (2, 25), (2, 26), (2, 27), (2, 28), (2, 29), (0, 0), (0, 0)])
  | 24 => .inl (0, 64, 0, fun _ => none)
  | 25 => .inl (0, 8, 0, fun _ => none)
  | 26 => .inl (0, 8, 0, fun _ => none)
  | 27 => .inl (0, 8, 0, fun _ => none)
  | 28 => .inl (0, 80, 0, fun _ => none)
  | 29 => .inl (0, 10, 0, fun _ => none)
  | 30 => .inr (2, [(2, 31), (0, 0), (1, 0), (1, 0)])
  | 31 => .inl (1, 10, 1, fun _ => none)
  | 32 => .inr (0, [(2, 33), (0, 0), (0, 0), (0, 0), (0, 0)])
  | 33 => .inl (0, 20, 0, fun _ => none)
  | 34 => .inl (4, 6, 2, fun i => some (35 + 2 * i))
  | _ => .inl (0, 0, 0, fun _ => none)
/-- the reference: its own object at 82, its rows behind it -/
def zshM : Nat → zS
  | 82 => .inr (8, [(0, 0), (2, 83), (2, 84), (2, 85), (0, 0), (0, 0), (0, 0), (0, 0), (0, 0), (2, 86), (2, 87), (2, 88), (2, 89), (2, 90), (2, 91), (2, 92), (2, 93), (0, 0), (0, 0), (0, 0), (2, 94), (2, 95), (2, 96), (2, 97), (2, 98), (0, 0), (2, 99), (0, 0), (2, 100), (2, 101), (2, 102), (2, 103), (2, 104), (2, 105), (1, 0), (0, 0), (2, 106), (2, 107), (2, 108), (2, 109), (0, 0), (0, 0), (0, 0), (0, 0), (2, 110), (2, 111), (2, 112), (2, 113), (2, 114), (2, 115), (2, 116), (2, 117), (0, 0), (2, 118), (2, 119), (2, 120), (2, 121), (2, 122)])
  | 83 => .inl (0, 8, 0, fun _ => none)
  | 84 => .inl (0, 64, 0, fun _ => none)
  | 85 => .inl (0, 8, 0, fun _ => none)
  | 86 => .inl (0, 100, 0, fun _ => none)
  | 87 => .inl (0, 6, 0, fun _ => none)
  | 88 => .inl (0, 60, 0, fun _ => none)
  | 89 => .inl (0, 60, 0, fun _ => none)
  | 90 => .inl (0, 60, 0, fun _ => none)
  | 91 => .inl (0, 60, 0, fun _ => none)
  | 92 => .inl (0, 600, 0, fun _ => none)
  | 93 => .inl (0, 101, 0, fun _ => none)
  | 94 => .inl (0, 5, 0, fun _ => none)
  | 95 => .inl (2, 100, 0, fun _ => none)
  | 96 => .inl (0, 64, 0, fun _ => none)
  | 97 => .inl (0, 80, 0, fun _ => none)
  | 98 => .inl (0, 80, 0, fun _ => none)
  | 99 => .inl (0, 10, 0, fun _ => none)
  | 100 => .inl (0, 16, 0, fun _ => none)
  | 101 => .inl (0, 16, 0, fun _ => none)
  | 102 => .inl (0, 16, 0, fun _ => none)
  | 103 => .inl (0, 16, 0, fun _ => none)
  | 104 => .inl (0, 16, 0, fun _ => none)
  | 105 => .inl (1, 10, 1, fun _ => none)
  | 106 => .inl (0, 6, 0, fun _ => none)
  | 107 => .inl (0, 7, 0, fun _ => none)
  | 108 => .inl (0, 7, 0, fun _ => none)
  | 109 => .inl (0, 6, 0, fun _ => none)
  | 110 => .inl (0, 64, 0, fun _ => none)
  | 111 => .inl (0, 8, 0, fun _ => none)
  | 112 => .inl (0, 16, 0, fun _ => none)
  | 113 => .inl (0, 16, 0, fun _ => none)
  | 114 => .inl (0, 16, 0, fun _ => none)
  | 115 => .inl (0, 16, 0, fun _ => none)
  | 116 => .inl (0, 16, 0, fun _ => none)
  | 117 => .inl (0, 6, 0, fun _ => none)
  | 118 => .inl (0, 20, 0, fun _ => none)
  | 119 => .inl (0, 6, 0, fun _ => none)
  | 120 => .inl (0, 6, 0, fun _ => none)
  | 121 => .inl (1, 360, 1, fun _ => none)
  | 122 => .inl (1, 60, 1, fun _ => none)
  | _ => .inl (0, 0, 0, fun _ => none)
def zshT (k : Nat) : zS := if (k - 35) % 2 = 0 then .inr (4, [(0, 0), (0, 0), (2, k + 1)]) else .inl (1, 60, 1, fun _ => none)
def zshL (k : Nat) : zS := match (k - 47) % 5 with
  | 0 => .inr (1, [(2, k + 1), (2, k + 2), (2, k + 3), (0, 0), (2, k + 4), (0, 0)])
  | 4 => .inl (0, 100, 0, fun _ => none)
  | _ => .inl (0, 10, 0, fun _ => none)
def zsh (k : Nat) : zS := if k < 35 then zshC k else if k < 47 then zshT k else if k < 82 then zshL k else zshM k
def zws (w : zW) (I : zI) (J : zJ) : va_W := (List.range zN).map (fun a => (zad w a, zE w I J a (zsh a)))
theorem zws_at {w : zW} {I : zI} {J : zJ} {a : Nat} (h : a < zN) : (zws w I J)[a]? = some (zad w a, zE w I J a (zsh a)) := by
  simp [zws, List.getElem?_map, List.getElem?_range h]
theorem zws_of {w : zW} {I : zI} {J : zJ} {a : Nat} {q : Nat × va_E} (h : (zws w I J)[a]? = some q) : a < zN ∧ q = (zad w a, zE w I J a (zsh a)) := by
  have hl : a < (zws w I J).length := (List.getElem?_eq_some_iff.mp h).1
  have ha : a < zN := by simpa [zws] using hl
  rw [zws_at ha] at h
  exact ⟨ha, (Option.some.inj h).symm⟩
theorem zws_set {w : zW} {I I' : zI} {J J' : zJ} {a : Nat} {e : va_E} (ha : a < zN) (he : zE w I' J' a (zsh a) = e) (ho : ∀ k, k ≠ a → I' k = I k ∧ J' k = J k) : (zws w I J).set a (zad w a, e) = zws w I' J' := by
  apply List.ext_getElem?
  intro k
  by_cases hk : k = a
  · subst hk
    rw [zws_at ha, List.getElem?_set_self (by simpa [zws] using ha), he]
  · rw [List.getElem?_set_ne (Ne.symm hk)]
    by_cases hN : k < zN
    · rw [zws_at hN, zws_at hN, zE_congr (ho k hk).1 (ho k hk).2]
    · rw [List.getElem?_eq_none (by simpa [zws] using hN), List.getElem?_eq_none (by simpa [zws] using hN)]
def ztys (w : zW) : List (ClassId × FieldType) := [(w.2.1 0, .int), (w.2.1 1, .long), (w.2.1 2, .boolean), (w.2.1 3, .object "TuesdayKnew$Law"), (w.2.1 4, .object "TuesdayKnew$Tape")]
abbrev zT : List Cond := wsL_law
theorem zT_gw : wsL_law.all goodWord = true := by decide +kernel
theorem zT_self : GoodIn zT zT := fun t h => ⟨h, good_of_word (List.all_eq_true.mp zT_gw t h)⟩
def zInj (w : zW) : Prop := ∀ i j, i < zN → j < zN → zad w i = zad w j → i = j
def zFree (w : zW) : Nat → Prop := fun q => ∃ k, k < zN ∧ zad w k = q
def zst (w : zW) (k : Nat) : Nat := w.2.2.2.2.2 k
def zAbove (j : Nat) : Int32 := [-1, 0, 0, 0, 1, 3, 3].getD j 0
def zBodies (j : Nat) : Int32 := [10, 11, 12, 0, 20, 0, 30, 0, 0, 0, 0, 40, 50, 51, 0, 0, 0, 60, 71, 70, 0].getD j 0
def zTx : List String := ["way", "habit", "paper", "watch", "steps", "abslf", "<=>"]
def zTk : List Nat := [51, 53, 55, 57, 59, 92, 98]
def zLen : List Nat := [3, 5, 5, 5, 5, 5, 3]
def zByt : List (List Int32) := [[119, 97, 121], [104, 97, 98, 105, 116], [112, 97, 112, 101, 114], [119, 97, 116, 99, 104], [115, 116, 101, 112, 115], [97, 98, 115, 108, 102], [60, 61, 62]]
/-- what nobody writes: two tables, the texts, three links between mates -/
def zGG (w : zW) (A : Nat → Prop) (U : State) (H : Heap) : Prop :=
  va_Z "TuesdayKnew" "ABOVE" "[I" (.ref (zst w 0)) A U H ∧ va_T .int (zst w 0) 7 (fun j => .int (zAbove j)) A U H ∧
  va_Z "TuesdayKnew$Actor" "BODIES" "[I" (.ref (zst w 1)) A U H ∧ va_T .int (zst w 1) 21 (fun j => .int (zBodies j)) A U H ∧
  va_Nw (.fieldLinkNest "TuesdayKnew$Actor" 36 "TuesdayKnew" "ABOVE" "[I" "TuesdayKnew") U ∧
  vk_S 7 zLen zByt w.2.2.2.1 w.2.2.2.2.1 A U H ∧ (∀ i, i < 7 → vk_R "TuesdayKnew$Text" (zTk.getD i 0) (zTx.getD i "") (w.2.2.2.1 i) U) ∧
  va_Z "java/lang/String" "COMPACT_STRINGS" "Z" (.int 1) A U H ∧ va_Zq "jdk/internal/util/Preconditions" "SIOOBE_FORMATTER" "Ljava/util/function/BiFunction;" A U H
theorem zGG.kept {w : zW} {A B : Nat → Prop} {s U : State} {H : Heap} (h : zGG w A s s.heap) (hW : s.WarmedH U.vm) (hq : ∀ a : Nat, a < s.heap.size → ¬ A a → H[a]? = s.heap[a]?) (hAB : ∀ q, B q → A q) : zGG w B U H := by
  obtain ⟨h1, h2, h3, h4, h5, h6, h7, h8, h9⟩ := h
  have hv := hW.alike
  exact ⟨((h1.kept hq).narrow hAB).moved hv, ((h2.kept hq).narrow hAB).moved hv, ((h3.kept hq).narrow hAB).moved hv, ((h4.kept hq).narrow hAB).moved hv, va_Nw.warmF hW h5, ((h6.kept hq).narrow hAB).moved hv, fun i hi => (h7 i hi).warm hW, ((h8.kept hq).narrow hAB).moved hv, ((h9.kept hq).narrow hAB).moved hv⟩
theorem zGG.same {w : zW} {A : Nat → Prop} {U V : State} (h : zGG w A U U.heap) (hv : V.vm = U.vm) (hh : V.heap = U.heap) : zGG w A V V.heap := by
  obtain ⟨h1, h2, h3, h4, h5, h6, h7, h8, h9⟩ := h
  have ha : U.vm.Alike V.vm := by rw [hv]; exact Vm.Alike.refl _
  rw [hh]
  exact ⟨h1.moved ha, h2.moved ha, h3.moved ha, h4.moved ha, va_Nw.same rfl hv.symm h5, h6.moved ha, fun i hi => (h7 i hi).same hv, h8.moved ha, h9.moved ha⟩
/-- a method's start: the world, the tables -/
def zB (w : zW) (I : zI) (J : zJ) (U : State) : Prop := va_P w.1 vwCl (zws w I J) U.heap ∧ va_K w.1 vwCl (ztys w) U ∧ zGG w (zFree w) U U.heap ∧ zInj w
/-- its end: the answer, the new world -/
def zQ (w : zW) (post : Option Value → zI → zJ → Prop) (_ : Array Value) (st : State) (oc : Outcome) (t : State) : Prop := (∃ (r : Option Value) (I : zI) (J : zJ), oc = .returned r ∧ post r I J ∧ va_P w.1 vwCl (zws w I J) t.heap) ∧ va_F (zFree w) st t
def zMet (y : MethodName) (cc : ByteArray) (maxL : Nat) (ret : Option FieldType) (rm : Room) (w : zW) (As : List Value) (I : zI) (J : zJ) (post : Option Value → zI → zJ → Prop) : Prop :=
  ∀ l : Launch, Met l y (.code y cc maxL ret :: zT) rm (va_Pc As (zB w I J)) (zQ w post) 0 0 (zFree w)
abbrev zX : Type := Program × Launch × Env × Room × State × MethodId × Array Value × List Frame × Method × Code × (Nat × Nat) × (State → Prop) × (Nat → Prop)
def Z (X : zX) (w : zW) (I : zI) (J : zJ) (pc : Nat) (lv : List (Nat × Value)) (st : List Value) : Prop := match X with
  | (p, l, e, R, s, m, args, below, meth, c, (cells, slots), Q, A) => ∀ (H : Heap) (locs : List Loc) (ls : Array Slot), va_P w.1 vwCl (zws w I J) H → va_S A s.heap H locs → lv_has ls c.maxLocals lv → W p l e R s m args below meth c H locs cells slots Q (F0 m pc ls st)
def zOk (X : zX) (w : zW) (cc : ByteArray) (own : String) (rm : Room) : Prop := match X with
  | (p, _, _, R, s, m, args, _, meth, c, (cells, slots), _, A) => p.tables.exec = Jvm.exec ∧ c.code = cc ∧ (∀ t ∈ zT, t.before args s = true) ∧ s.vm.findClass own = some m.cls ∧ va_K w.1 vwCl (ztys w) s ∧ zGG w A s s.heap ∧ (∀ k, k < zN → A (zad w k)) ∧ zInj w ∧ meth.locks = false ∧ R = rm ∧ cells ≤ rm.cells ∧ slots ≤ rm.slots
def zML (X : zX) (n : Nat) : Prop := X.2.2.2.2.2.2.2.2.2.1.maxLocals = n
def zRet (X : zX) (w : zW) (ret : Option FieldType) (post : Option Value → zI → zJ → Prop) : Prop := match X with
  | (_, _, _, _, s, _, args, below, meth, _, (cells, slots), Q, A) => Q = MQ below (zQ w post) args s 0 0 (zFree w) ∧ meth.sig.returnType = ret ∧ A = zFree w ∧ cells = 0 ∧ slots = 0
theorem zD_of {w : zW} {A : Nat → Prop} {I : zI} {J : zJ} (hA : ∀ k, k < zN → A (zad w k)) (hj : zInj w) : va_D A (zws w I J) := by
  refine ⟨fun i j p q hi hk e => ?_, fun k q hk => ?_⟩
  · obtain ⟨a1, rfl⟩ := zws_of hi
    obtain ⟨a2, rfl⟩ := zws_of hk
    exact hj i j a1 a2 e
  · obtain ⟨a1, rfl⟩ := zws_of hk
    exact hA k a1
theorem zSet {w : zW} {A : Nat → Prop} {I I' : zI} {J J' : zJ} {a : Nat} {e : va_E} {H : Heap} (ha : a < zN) (he : zE w I' J' a (zsh a) = e) (ho : ∀ k, k ≠ a → I' k = I k ∧ J' k = J k) (h : va_P w.1 vwCl ((zws w I J).set a (zad w a, e)) H) : va_P w.1 vwCl (zws w I' J') H := by
  rw [zws_set ha he ho] at h; exact h
set_option maxHeartbeats 1000000 in
theorem zMet_of {y : MethodName} {cc : ByteArray} {maxL : Nat} {ret : Option FieldType} {rm : Room} {w : zW} {As : List Value} {I : zI} {J : zJ} {post : Option Value → zI → zJ → Prop} (hpl : plainName y.cls = true) (hAs : (lg_sl As).length ≤ maxL)
    (body : ∀ X : zX, zOk X w cc y.cls rm → zML X maxL → zRet X w ret post → Z X w I J 0 (lv_args 0 As) []) : zMet y cc maxL ret rm w As I J post := by
  intro l
  refine Met.ofW (cc := cc) (maxL := maxL) (ret := ret) hpl rfl ?_
  intro p e s m args below meth c s₁ B hml hv
  obtain ⟨rfl, hP, hK, hG, hj⟩ := hv
  have hts0 := atoms_spec (ws := .code y cc maxL ret :: zT) B.pre
  have hts : ∀ t ∈ zT, t.before As.toArray s = true := fun t h => hts0 t (List.mem_cons_of_mem _ h)
  have hl := lv_entry As (n := maxL) hAs
  rw [lg_entry_eq]
  rw [← hml] at hl ⊢
  exact body (p, l, e, (headSpec (.code y cc maxL ret :: zT) rm).room, s, m, As.toArray, below, meth, c, (0, 0), MQ below (zQ w post) As.toArray s 0 0 (zFree w), zFree w)
    ⟨B.exec, B.bytes, hts, findClass_of_methodNamed B.named, hK, hG, fun k hk => ⟨k, hk, rfl⟩, hj, B.notSynchronized, rfl, Nat.zero_le _, Nat.zero_le _⟩ hml ⟨rfl, B.returns, rfl, rfl, rfl⟩ s.heap [] _ hP va_S.rf hl
/-- a truth as a number -/
noncomputable def bI (p : Prop) : Int32 := @ite _ p (Classical.propDecidable p) 1 0
theorem bI_t {p : Prop} (h : p) : bI p = 1 := by unfold bI; rw [if_pos h]
theorem bI_f {p : Prop} (h : ¬ p) : bI p = 0 := by unfold bI; rw [if_neg h]
theorem bI_0 {p : Prop} : bI p = 0 ↔ ¬ p := ⟨fun h q => absurd (h.symm.trans (bI_t q)) (by decide), bI_f⟩
theorem bI_1 {p : Prop} : ¬ bI p = 0 ↔ p := ⟨fun h => Classical.not_not.mp (fun q => h (bI_f q)), fun h q => absurd (q.symm.trans (bI_t h)) (by decide)⟩
theorem bI_c {p q : Prop} (h : p ↔ q) : bI p = bI q := by rw [propext h]
theorem bI_b {p : Prop} : bI p = 0 ∨ bI p = 1 := (Classical.em p).elim (fun h => Or.inr (bI_t h)) (fun h => Or.inl (bI_f h))
def zpi (f : Int32 → zI → zJ → Prop) : Option Value → zI → zJ → Prop := fun r I J => ∃ v : Int32, r = some (.int v) ∧ f v I J
def zpl (f : Int64 → zI → zJ → Prop) : Option Value → zI → zJ → Prop := fun r I J => ∃ v : Int64, r = some (.long v) ∧ f v I J
def zpv (f : zI → zJ → Prop) : Option Value → zI → zJ → Prop := fun r I J => r = none ∧ f I J
def zpr (f : Value → zI → zJ → Prop) : Option Value → zI → zJ → Prop := fun r I J => ∃ v : Value, r = some v ∧ f v I J
section ZROWS
variable {X : zX} {w : zW} {cc : ByteArray} {own : String} {rm : Room} {I : zI} {J : zJ} {pc : Nat} {lv : List (Nat × Value)} {rest : List Value} {c0 : Nat}
/-- fewer listed values, in another order -/
theorem z_sub (ks : List Nat) {lv' : List (Nat × Value)} (h : lv_pick lv ks = lv') (k : Z X w I J pc lv' rest) : Z X w I J pc lv rest := by
  obtain ⟨p, l, e, R, s, m, args, below, meth, c, ⟨cells, slots⟩, Q, A⟩ := X
  intro H locs ls hP hS hl
  exact k H locs ls hP hS (lv_sub hl ks h)
theorem z_topi {x : Int32} (k : ∀ y : Int32, y = x → Z X w I J pc lv (.int y :: rest)) : Z X w I J pc lv (.int x :: rest) := k x rfl
theorem z_topl {x : Int64} (k : ∀ y : Int64, y = x → Z X w I J pc lv (.long y :: rest)) : Z X w I J pc lv (.long x :: rest) := k x rfl
theorem z_iconst (C : zOk X w cc own rm)  {n : Int} {v : Int32} (hdg : decode cc pc = .ok (.iconst n, 1)) (hv : Int32.ofInt n = v) (k : Z X w I J (pc + 1) lv (.int v :: rest)) : Z X w I J pc lv (rest) := by
  obtain ⟨p, l, e, R, s, m, args, below, meth, c, ⟨cells, slots⟩, Q, A⟩ := X
  obtain ⟨hx, hb, hts, hown, hK, hG, hA, hj, hlk, hR, hc1, hc2⟩ := C
  intro H locs ls hP hS hl
  exact lv_iconst hx hb hdg hv (k H locs ls hP hS hl)
theorem z_bipush (C : zOk X w cc own rm)  {n : Int} {v : Int32} (hdg : decode cc pc = .ok (.bipush n, 2)) (hv : (Int8.ofInt n).toInt32 = v) (k : Z X w I J (pc + 2) lv (.int v :: rest)) : Z X w I J pc lv (rest) := by
  obtain ⟨p, l, e, R, s, m, args, below, meth, c, ⟨cells, slots⟩, Q, A⟩ := X
  obtain ⟨hx, hb, hts, hown, hK, hG, hA, hj, hlk, hR, hc1, hc2⟩ := C
  intro H locs ls hP hS hl
  exact lv_bipush hx hb hdg hv (k H locs ls hP hS hl)
theorem z_sipush (C : zOk X w cc own rm)  {n : Int} {v : Int32} (hdg : decode cc pc = .ok (.sipush n, 3)) (hv : (Int16.ofInt n).toInt32 = v) (k : Z X w I J (pc + 3) lv (.int v :: rest)) : Z X w I J pc lv (rest) := by
  obtain ⟨p, l, e, R, s, m, args, below, meth, c, ⟨cells, slots⟩, Q, A⟩ := X
  obtain ⟨hx, hb, hts, hown, hK, hG, hA, hj, hlk, hR, hc1, hc2⟩ := C
  intro H locs ls hP hS hl
  exact lv_sipush hx hb hdg hv (k H locs ls hP hS hl)
theorem z_lconst (C : zOk X w cc own rm)  {n : Fin 2} {v : Int64} (hdg : decode cc pc = .ok (.lconst n, 1)) (hv : Int64.ofNat (n : Nat) = v) (k : Z X w I J (pc + 1) lv (.long v :: rest)) : Z X w I J pc lv (rest) := by
  obtain ⟨p, l, e, R, s, m, args, below, meth, c, ⟨cells, slots⟩, Q, A⟩ := X
  obtain ⟨hx, hb, hts, hown, hK, hG, hA, hj, hlk, hR, hc1, hc2⟩ := C
  intro H locs ls hP hS hl
  exact lv_lconst hx hb hdg hv (k H locs ls hP hS hl)
theorem z_iadd (C : zOk X w cc own rm)  {x y : Int32} (hdg : decode cc pc = .ok (.iadd, 1)) (k : Z X w I J (pc + 1) lv (.int (x + y) :: rest)) : Z X w I J pc lv (.int y :: .int x :: rest) := by
  obtain ⟨p, l, e, R, s, m, args, below, meth, c, ⟨cells, slots⟩, Q, A⟩ := X
  obtain ⟨hx, hb, hts, hown, hK, hG, hA, hj, hlk, hR, hc1, hc2⟩ := C
  intro H locs ls hP hS hl
  exact lv_iadd hx hb hdg (k H locs ls hP hS hl)
theorem z_isub (C : zOk X w cc own rm)  {x y : Int32} (hdg : decode cc pc = .ok (.isub, 1)) (k : Z X w I J (pc + 1) lv (.int (x - y) :: rest)) : Z X w I J pc lv (.int y :: .int x :: rest) := by
  obtain ⟨p, l, e, R, s, m, args, below, meth, c, ⟨cells, slots⟩, Q, A⟩ := X
  obtain ⟨hx, hb, hts, hown, hK, hG, hA, hj, hlk, hR, hc1, hc2⟩ := C
  intro H locs ls hP hS hl
  exact lv_isub hx hb hdg (k H locs ls hP hS hl)
theorem z_imul (C : zOk X w cc own rm)  {x y : Int32} (hdg : decode cc pc = .ok (.imul, 1)) (k : Z X w I J (pc + 1) lv (.int (x * y) :: rest)) : Z X w I J pc lv (.int y :: .int x :: rest) := by
  obtain ⟨p, l, e, R, s, m, args, below, meth, c, ⟨cells, slots⟩, Q, A⟩ := X
  obtain ⟨hx, hb, hts, hown, hK, hG, hA, hj, hlk, hR, hc1, hc2⟩ := C
  intro H locs ls hP hS hl
  exact lv_imul hx hb hdg (k H locs ls hP hS hl)
theorem z_iand (C : zOk X w cc own rm)  {x y : Int32} (hdg : decode cc pc = .ok (.iand, 1)) (k : Z X w I J (pc + 1) lv (.int (x &&& y) :: rest)) : Z X w I J pc lv (.int y :: .int x :: rest) := by
  obtain ⟨p, l, e, R, s, m, args, below, meth, c, ⟨cells, slots⟩, Q, A⟩ := X
  obtain ⟨hx, hb, hts, hown, hK, hG, hA, hj, hlk, hR, hc1, hc2⟩ := C
  intro H locs ls hP hS hl
  exact lv_iand hx hb hdg (k H locs ls hP hS hl)
theorem z_ior (C : zOk X w cc own rm)  {x y : Int32} (hdg : decode cc pc = .ok (.ior, 1)) (k : Z X w I J (pc + 1) lv (.int (x ||| y) :: rest)) : Z X w I J pc lv (.int y :: .int x :: rest) := by
  obtain ⟨p, l, e, R, s, m, args, below, meth, c, ⟨cells, slots⟩, Q, A⟩ := X
  obtain ⟨hx, hb, hts, hown, hK, hG, hA, hj, hlk, hR, hc1, hc2⟩ := C
  intro H locs ls hP hS hl
  exact lv_ior hx hb hdg (k H locs ls hP hS hl)
theorem z_ixor (C : zOk X w cc own rm)  {x y : Int32} (hdg : decode cc pc = .ok (.ixor, 1)) (k : Z X w I J (pc + 1) lv (.int (x ^^^ y) :: rest)) : Z X w I J pc lv (.int y :: .int x :: rest) := by
  obtain ⟨p, l, e, R, s, m, args, below, meth, c, ⟨cells, slots⟩, Q, A⟩ := X
  obtain ⟨hx, hb, hts, hown, hK, hG, hA, hj, hlk, hR, hc1, hc2⟩ := C
  intro H locs ls hP hS hl
  exact lv_ixor hx hb hdg (k H locs ls hP hS hl)
theorem z_idiv (C : zOk X w cc own rm)  {x y : Int32} (hdg : decode cc pc = .ok (.idiv, 1)) (hne : ¬ y = 0) (k : Z X w I J (pc + 1) lv (.int (x / y) :: rest)) : Z X w I J pc lv (.int y :: .int x :: rest) := by
  obtain ⟨p, l, e, R, s, m, args, below, meth, c, ⟨cells, slots⟩, Q, A⟩ := X
  obtain ⟨hx, hb, hts, hown, hK, hG, hA, hj, hlk, hR, hc1, hc2⟩ := C
  intro H locs ls hP hS hl
  exact lv_idiv hx hb hdg hne (k H locs ls hP hS hl)
theorem z_irem (C : zOk X w cc own rm)  {x y : Int32} (hdg : decode cc pc = .ok (.irem, 1)) (hne : ¬ y = 0) (k : Z X w I J (pc + 1) lv (.int (x - x / y * y) :: rest)) : Z X w I J pc lv (.int y :: .int x :: rest) := by
  obtain ⟨p, l, e, R, s, m, args, below, meth, c, ⟨cells, slots⟩, Q, A⟩ := X
  obtain ⟨hx, hb, hts, hown, hK, hG, hA, hj, hlk, hR, hc1, hc2⟩ := C
  intro H locs ls hP hS hl
  exact lv_irem hx hb hdg hne (k H locs ls hP hS hl)
theorem z_ineg (C : zOk X w cc own rm)  {x : Int32} (hdg : decode cc pc = .ok (.ineg, 1)) (k : Z X w I J (pc + 1) lv (.int (-x) :: rest)) : Z X w I J pc lv (.int x :: rest) := by
  obtain ⟨p, l, e, R, s, m, args, below, meth, c, ⟨cells, slots⟩, Q, A⟩ := X
  obtain ⟨hx, hb, hts, hown, hK, hG, hA, hj, hlk, hR, hc1, hc2⟩ := C
  intro H locs ls hP hS hl
  exact lv_ineg hx hb hdg (k H locs ls hP hS hl)
theorem z_ladd (C : zOk X w cc own rm)  {x y : Int64} (hdg : decode cc pc = .ok (.ladd, 1)) (k : Z X w I J (pc + 1) lv (.long (x + y) :: rest)) : Z X w I J pc lv (.long y :: .long x :: rest) := by
  obtain ⟨p, l, e, R, s, m, args, below, meth, c, ⟨cells, slots⟩, Q, A⟩ := X
  obtain ⟨hx, hb, hts, hown, hK, hG, hA, hj, hlk, hR, hc1, hc2⟩ := C
  intro H locs ls hP hS hl
  exact lv_ladd hx hb hdg (k H locs ls hP hS hl)
theorem z_lsub (C : zOk X w cc own rm)  {x y : Int64} (hdg : decode cc pc = .ok (.lsub, 1)) (k : Z X w I J (pc + 1) lv (.long (x - y) :: rest)) : Z X w I J pc lv (.long y :: .long x :: rest) := by
  obtain ⟨p, l, e, R, s, m, args, below, meth, c, ⟨cells, slots⟩, Q, A⟩ := X
  obtain ⟨hx, hb, hts, hown, hK, hG, hA, hj, hlk, hR, hc1, hc2⟩ := C
  intro H locs ls hP hS hl
  exact lv_lsub hx hb hdg (k H locs ls hP hS hl)
theorem z_lmul (C : zOk X w cc own rm)  {x y : Int64} (hdg : decode cc pc = .ok (.lmul, 1)) (k : Z X w I J (pc + 1) lv (.long (x * y) :: rest)) : Z X w I J pc lv (.long y :: .long x :: rest) := by
  obtain ⟨p, l, e, R, s, m, args, below, meth, c, ⟨cells, slots⟩, Q, A⟩ := X
  obtain ⟨hx, hb, hts, hown, hK, hG, hA, hj, hlk, hR, hc1, hc2⟩ := C
  intro H locs ls hP hS hl
  exact lv_lmul hx hb hdg (k H locs ls hP hS hl)
theorem z_land (C : zOk X w cc own rm)  {x y : Int64} (hdg : decode cc pc = .ok (.land, 1)) (k : Z X w I J (pc + 1) lv (.long (x &&& y) :: rest)) : Z X w I J pc lv (.long y :: .long x :: rest) := by
  obtain ⟨p, l, e, R, s, m, args, below, meth, c, ⟨cells, slots⟩, Q, A⟩ := X
  obtain ⟨hx, hb, hts, hown, hK, hG, hA, hj, hlk, hR, hc1, hc2⟩ := C
  intro H locs ls hP hS hl
  exact lv_land hx hb hdg (k H locs ls hP hS hl)
theorem z_lor (C : zOk X w cc own rm)  {x y : Int64} (hdg : decode cc pc = .ok (.lor, 1)) (k : Z X w I J (pc + 1) lv (.long (x ||| y) :: rest)) : Z X w I J pc lv (.long y :: .long x :: rest) := by
  obtain ⟨p, l, e, R, s, m, args, below, meth, c, ⟨cells, slots⟩, Q, A⟩ := X
  obtain ⟨hx, hb, hts, hown, hK, hG, hA, hj, hlk, hR, hc1, hc2⟩ := C
  intro H locs ls hP hS hl
  exact lv_lor hx hb hdg (k H locs ls hP hS hl)
theorem z_lxor (C : zOk X w cc own rm)  {x y : Int64} (hdg : decode cc pc = .ok (.lxor, 1)) (k : Z X w I J (pc + 1) lv (.long (x ^^^ y) :: rest)) : Z X w I J pc lv (.long y :: .long x :: rest) := by
  obtain ⟨p, l, e, R, s, m, args, below, meth, c, ⟨cells, slots⟩, Q, A⟩ := X
  obtain ⟨hx, hb, hts, hown, hK, hG, hA, hj, hlk, hR, hc1, hc2⟩ := C
  intro H locs ls hP hS hl
  exact lv_lxor hx hb hdg (k H locs ls hP hS hl)
theorem z_ldiv (C : zOk X w cc own rm)  {x y : Int64} (hdg : decode cc pc = .ok (.ldiv, 1)) (hne : ¬ y = 0) (k : Z X w I J (pc + 1) lv (.long (x / y) :: rest)) : Z X w I J pc lv (.long y :: .long x :: rest) := by
  obtain ⟨p, l, e, R, s, m, args, below, meth, c, ⟨cells, slots⟩, Q, A⟩ := X
  obtain ⟨hx, hb, hts, hown, hK, hG, hA, hj, hlk, hR, hc1, hc2⟩ := C
  intro H locs ls hP hS hl
  exact lv_ldiv hx hb hdg hne (k H locs ls hP hS hl)
theorem z_lrem (C : zOk X w cc own rm)  {x y : Int64} (hdg : decode cc pc = .ok (.lrem, 1)) (hne : ¬ y = 0) (k : Z X w I J (pc + 1) lv (.long (x - x / y * y) :: rest)) : Z X w I J pc lv (.long y :: .long x :: rest) := by
  obtain ⟨p, l, e, R, s, m, args, below, meth, c, ⟨cells, slots⟩, Q, A⟩ := X
  obtain ⟨hx, hb, hts, hown, hK, hG, hA, hj, hlk, hR, hc1, hc2⟩ := C
  intro H locs ls hP hS hl
  exact lv_lrem hx hb hdg hne (k H locs ls hP hS hl)
theorem z_ishl (C : zOk X w cc own rm)  {x y : Int32} (hdg : decode cc pc = .ok (.ishl, 1)) (k : Z X w I J (pc + 1) lv (.int (x <<< (y &&& 31)) :: rest)) : Z X w I J pc lv (.int y :: .int x :: rest) := by
  obtain ⟨p, l, e, R, s, m, args, below, meth, c, ⟨cells, slots⟩, Q, A⟩ := X
  obtain ⟨hx, hb, hts, hown, hK, hG, hA, hj, hlk, hR, hc1, hc2⟩ := C
  intro H locs ls hP hS hl
  exact lv_ishl hx hb hdg (k H locs ls hP hS hl)
theorem z_ishr (C : zOk X w cc own rm)  {x y : Int32} (hdg : decode cc pc = .ok (.ishr, 1)) (k : Z X w I J (pc + 1) lv (.int (x >>> (y &&& 31)) :: rest)) : Z X w I J pc lv (.int y :: .int x :: rest) := by
  obtain ⟨p, l, e, R, s, m, args, below, meth, c, ⟨cells, slots⟩, Q, A⟩ := X
  obtain ⟨hx, hb, hts, hown, hK, hG, hA, hj, hlk, hR, hc1, hc2⟩ := C
  intro H locs ls hP hS hl
  exact lv_ishr hx hb hdg (k H locs ls hP hS hl)
theorem z_i2l (C : zOk X w cc own rm)  {x : Int32} {v : Int64} (hdg : decode cc pc = .ok (.i2l, 1)) (hv : x.toInt64 = v) (k : Z X w I J (pc + 1) lv (.long v :: rest)) : Z X w I J pc lv (.int x :: rest) := by
  obtain ⟨p, l, e, R, s, m, args, below, meth, c, ⟨cells, slots⟩, Q, A⟩ := X
  obtain ⟨hx, hb, hts, hown, hK, hG, hA, hj, hlk, hR, hc1, hc2⟩ := C
  intro H locs ls hP hS hl
  exact lv_i2l hx hb hdg hv (k H locs ls hP hS hl)
theorem z_l2i (C : zOk X w cc own rm)  {x : Int64} {v : Int32} (hdg : decode cc pc = .ok (.l2i, 1)) (hv : x.toInt32 = v) (k : Z X w I J (pc + 1) lv (.int v :: rest)) : Z X w I J pc lv (.long x :: rest) := by
  obtain ⟨p, l, e, R, s, m, args, below, meth, c, ⟨cells, slots⟩, Q, A⟩ := X
  obtain ⟨hx, hb, hts, hown, hK, hG, hA, hj, hlk, hR, hc1, hc2⟩ := C
  intro H locs ls hP hS hl
  exact lv_l2i hx hb hdg hv (k H locs ls hP hS hl)
theorem z_i2b (C : zOk X w cc own rm)  {x : Int32} {v : Int32} (hdg : decode cc pc = .ok (.i2b, 1)) (hv : x.toInt8.toInt32 = v) (k : Z X w I J (pc + 1) lv (.int v :: rest)) : Z X w I J pc lv (.int x :: rest) := by
  obtain ⟨p, l, e, R, s, m, args, below, meth, c, ⟨cells, slots⟩, Q, A⟩ := X
  obtain ⟨hx, hb, hts, hown, hK, hG, hA, hj, hlk, hR, hc1, hc2⟩ := C
  intro H locs ls hP hS hl
  exact lv_i2b hx hb hdg hv (k H locs ls hP hS hl)
theorem z_i2s (C : zOk X w cc own rm)  {x : Int32} {v : Int32} (hdg : decode cc pc = .ok (.i2s, 1)) (hv : x.toInt16.toInt32 = v) (k : Z X w I J (pc + 1) lv (.int v :: rest)) : Z X w I J pc lv (.int x :: rest) := by
  obtain ⟨p, l, e, R, s, m, args, below, meth, c, ⟨cells, slots⟩, Q, A⟩ := X
  obtain ⟨hx, hb, hts, hown, hK, hG, hA, hj, hlk, hR, hc1, hc2⟩ := C
  intro H locs ls hP hS hl
  exact lv_i2s hx hb hdg hv (k H locs ls hP hS hl)
theorem z_i2c (C : zOk X w cc own rm)  {x : Int32} {v : Int32} (hdg : decode cc pc = .ok (.i2c, 1)) (hv : (x.toUInt32 % 65536).toInt32 = v) (k : Z X w I J (pc + 1) lv (.int v :: rest)) : Z X w I J pc lv (.int x :: rest) := by
  obtain ⟨p, l, e, R, s, m, args, below, meth, c, ⟨cells, slots⟩, Q, A⟩ := X
  obtain ⟨hx, hb, hts, hown, hK, hG, hA, hj, hlk, hR, hc1, hc2⟩ := C
  intro H locs ls hP hS hl
  exact lv_i2c hx hb hdg hv (k H locs ls hP hS hl)
theorem z_iushr (C : zOk X w cc own rm)  {x y v : Int32} (hdg : decode cc pc = .ok (.iushr, 1)) (hv : (x.toUInt32 >>> (y.toUInt32 &&& Int32.toUInt32 31)).toInt32 = v) (k : Z X w I J (pc + 1) lv (.int v :: rest)) : Z X w I J pc lv (.int y :: .int x :: rest) := by
  obtain ⟨p, l, e, R, s, m, args, below, meth, c, ⟨cells, slots⟩, Q, A⟩ := X
  obtain ⟨hx, hb, hts, hown, hK, hG, hA, hj, hlk, hR, hc1, hc2⟩ := C
  intro H locs ls hP hS hl
  exact lv_iushr hx hb hdg hv (k H locs ls hP hS hl)
theorem z_lshl (C : zOk X w cc own rm)  {x v : Int64} {y : Int32} (hdg : decode cc pc = .ok (.lshl, 1)) (hv : x <<< (y.toInt64 &&& 63) = v) (k : Z X w I J (pc + 1) lv (.long v :: rest)) : Z X w I J pc lv (.int y :: .long x :: rest) := by
  obtain ⟨p, l, e, R, s, m, args, below, meth, c, ⟨cells, slots⟩, Q, A⟩ := X
  obtain ⟨hx, hb, hts, hown, hK, hG, hA, hj, hlk, hR, hc1, hc2⟩ := C
  intro H locs ls hP hS hl
  exact lv_lshl hx hb hdg hv (k H locs ls hP hS hl)
theorem z_dup (C : zOk X w cc own rm)  {va : Value} (hdg : decode cc pc = .ok (.dup, 1)) (hva : va.category = 1) (k : Z X w I J (pc + 1) lv (va :: va :: rest)) : Z X w I J pc lv (va :: rest) := by
  obtain ⟨p, l, e, R, s, m, args, below, meth, c, ⟨cells, slots⟩, Q, A⟩ := X
  obtain ⟨hx, hb, hts, hown, hK, hG, hA, hj, hlk, hR, hc1, hc2⟩ := C
  intro H locs ls hP hS hl
  exact lv_dup hx hb hdg hva (k H locs ls hP hS hl)
theorem z_pop (C : zOk X w cc own rm)  {va : Value} (hdg : decode cc pc = .ok (.pop, 1)) (hva : va.category = 1) (k : Z X w I J (pc + 1) lv (rest)) : Z X w I J pc lv (va :: rest) := by
  obtain ⟨p, l, e, R, s, m, args, below, meth, c, ⟨cells, slots⟩, Q, A⟩ := X
  obtain ⟨hx, hb, hts, hown, hK, hG, hA, hj, hlk, hR, hc1, hc2⟩ := C
  intro H locs ls hP hS hl
  exact lv_pop hx hb hdg hva (k H locs ls hP hS hl)
theorem z_dup2_11 (C : zOk X w cc own rm)  {va vb : Value} (hdg : decode cc pc = .ok (.dup2, 1)) (hva : va.category = 1) (hvb : vb.category = 1) (k : Z X w I J (pc + 1) lv (va :: vb :: va :: vb :: rest)) : Z X w I J pc lv (va :: vb :: rest) := by
  obtain ⟨p, l, e, R, s, m, args, below, meth, c, ⟨cells, slots⟩, Q, A⟩ := X
  obtain ⟨hx, hb, hts, hown, hK, hG, hA, hj, hlk, hR, hc1, hc2⟩ := C
  intro H locs ls hP hS hl
  exact lv_dup2_11 hx hb hdg hva hvb (k H locs ls hP hS hl)
theorem z_lookup (C : zOk X w cc own rm)  {dflt : Int} {ps : Array (Int × Int)} {len : Nat} {x : Int32} {off : Int} {tgt : Nat} (hdg : decode cc pc = .ok (.lookupswitch dflt ps, len)) (hp : (ps.toList.zip (ps.toList.drop 1)).all (fun (a, next) => a.1 < next.1) = true) (ho : Op.lookupswitch.offset ps.toList dflt x.toInt = off) (ht : (pc : Int) + off = (tgt : Int)) (k : Z X w I J tgt lv rest) : Z X w I J pc lv (.int x :: rest) := by
  obtain ⟨p, l, e, R, s, m, args, below, meth, c, ⟨cells, slots⟩, Q, A⟩ := X
  obtain ⟨hx, hb, hts, hown, hK, hG, hA, hj, hlk, hR, hc1, hc2⟩ := C
  intro H locs ls hP hS hl
  exact lv_lookup hx hb hdg hp ho ht (k H locs ls hP hS hl)
theorem z_tableOut (C : zOk X w cc own rm)  {dflt lo hi : Int} {offs : Array Int} {len : Nat} {x : Int32} {tgt : Nat} (hdg : decode cc pc = .ok (.tableswitch dflt lo hi offs, len)) (h : x.toInt < lo ∨ hi < x.toInt) (ht : (pc : Int) + dflt = (tgt : Int)) (k : Z X w I J tgt lv rest) : Z X w I J pc lv (.int x :: rest) := by
  obtain ⟨p, l, e, R, s, m, args, below, meth, c, ⟨cells, slots⟩, Q, A⟩ := X
  obtain ⟨hx, hb, hts, hown, hK, hG, hA, hj, hlk, hR, hc1, hc2⟩ := C
  intro H locs ls hP hS hl
  exact lv_tableOut hx hb hdg h ht (k H locs ls hP hS hl)
theorem z_tableIn (C : zOk X w cc own rm)  {dflt lo hi : Int} {offs : Array Int} {len : Nat} {x : Int32} {off : Int} {tgt : Nat} (hdg : decode cc pc = .ok (.tableswitch dflt lo hi offs, len)) (h1 : ¬ x.toInt < lo) (h2 : ¬ hi < x.toInt) (ho : offs[(x.toInt - lo).toNat]? = some off) (ht : (pc : Int) + off = (tgt : Int)) (k : Z X w I J tgt lv rest) : Z X w I J pc lv (.int x :: rest) := by
  obtain ⟨p, l, e, R, s, m, args, below, meth, c, ⟨cells, slots⟩, Q, A⟩ := X
  obtain ⟨hx, hb, hts, hown, hK, hG, hA, hj, hlk, hR, hc1, hc2⟩ := C
  intro H locs ls hP hS hl
  exact lv_tableIn hx hb hdg h1 h2 ho ht (k H locs ls hP hS hl)
theorem z_goto (C : zOk X w cc own rm)  {off : Int} {tgt : Nat} (hdg : decode cc pc = .ok (.goto off, 3)) (ht : (pc : Int) + off = (tgt : Int)) (k : Z X w I J tgt lv rest) : Z X w I J pc lv rest := by
  obtain ⟨p, l, e, R, s, m, args, below, meth, c, ⟨cells, slots⟩, Q, A⟩ := X
  obtain ⟨hx, hb, hts, hown, hK, hG, hA, hj, hlk, hR, hc1, hc2⟩ := C
  intro H locs ls hP hS hl
  exact lv_goto hx hb hdg ht (k H locs ls hP hS hl)
theorem z_null (C : zOk X w cc own rm)  (hdg : decode cc pc = .ok (.aconst_null, 1)) (k : Z X w I J (pc + 1) lv (.null :: rest)) : Z X w I J pc lv rest := by
  obtain ⟨p, l, e, R, s, m, args, below, meth, c, ⟨cells, slots⟩, Q, A⟩ := X
  obtain ⟨hx, hb, hts, hown, hK, hG, hA, hj, hlk, hR, hc1, hc2⟩ := C
  intro H locs ls hP hS hl
  exact lv_null hx hb hdg (k H locs ls hP hS hl)
theorem z_ifnull (C : zOk X w cc own rm)  {x : Nat} {off : Int} (hdg : decode cc pc = .ok (.ifnull off, 3)) (k : Z X w I J (pc + 3) lv rest) : Z X w I J pc lv (.ref x :: rest) := by
  obtain ⟨p, l, e, R, s, m, args, below, meth, c, ⟨cells, slots⟩, Q, A⟩ := X
  obtain ⟨hx, hb, hts, hown, hK, hG, hA, hj, hlk, hR, hc1, hc2⟩ := C
  intro H locs ls hP hS hl
  exact lv_ifnull hx hb hdg (k H locs ls hP hS hl)
theorem z_ifnonnull (C : zOk X w cc own rm)  {x : Nat} {off : Int} {tgt : Nat} (hdg : decode cc pc = .ok (.ifnonnull off, 3)) (ht : (pc : Int) + off = (tgt : Int)) (k : Z X w I J tgt lv rest) : Z X w I J pc lv (.ref x :: rest) := by
  obtain ⟨p, l, e, R, s, m, args, below, meth, c, ⟨cells, slots⟩, Q, A⟩ := X
  obtain ⟨hx, hb, hts, hown, hK, hG, hA, hj, hlk, hR, hc1, hc2⟩ := C
  intro H locs ls hP hS hl
  exact lv_ifnonnull hx hb hdg ht (k H locs ls hP hS hl)
theorem z_ifnullN (C : zOk X w cc own rm)  {off : Int} {tgt : Nat} (hdg : decode cc pc = .ok (.ifnull off, 3)) (ht : (pc : Int) + off = (tgt : Int)) (k : Z X w I J tgt lv rest) : Z X w I J pc lv (.null :: rest) := by
  obtain ⟨p, l, e, R, s, m, args, below, meth, c, ⟨cells, slots⟩, Q, A⟩ := X
  obtain ⟨hx, hb, hts, hown, hK, hG, hA, hj, hlk, hR, hc1, hc2⟩ := C
  intro H locs ls hP hS hl
  exact lv_ifnullN hx hb hdg ht (k H locs ls hP hS hl)
theorem z_ifnonnullN (C : zOk X w cc own rm)  {off : Int} (hdg : decode cc pc = .ok (.ifnonnull off, 3)) (k : Z X w I J (pc + 3) lv rest) : Z X w I J pc lv (.null :: rest) := by
  obtain ⟨p, l, e, R, s, m, args, below, meth, c, ⟨cells, slots⟩, Q, A⟩ := X
  obtain ⟨hx, hb, hts, hown, hK, hG, hA, hj, hlk, hR, hc1, hc2⟩ := C
  intro H locs ls hP hS hl
  exact lv_ifnonnullN hx hb hdg (k H locs ls hP hS hl)
theorem z_if_eq (C : zOk X w cc own rm)  {x : Int32} {off : Int} {tgt : Nat} (hdg : decode cc pc = .ok (.ifCond .eq off, 3)) (ht : (pc : Int) + off = (tgt : Int)) (kt : x = 0 → Z X w I J tgt lv rest) (kf : ¬ x = 0 → Z X w I J (pc + 3) lv rest) : Z X w I J pc lv (.int x :: rest) := by
  obtain ⟨p, l, e, R, s, m, args, below, meth, c, ⟨cells, slots⟩, Q, A⟩ := X
  obtain ⟨hx, hb, hts, hown, hK, hG, hA, hj, hlk, hR, hc1, hc2⟩ := C
  intro H locs ls hP hS hl
  exact lv_if_eq hx hb hdg ht (fun q => kt q H locs ls hP hS hl) (fun q => kf q H locs ls hP hS hl)
theorem z_icmp_eq (C : zOk X w cc own rm)  {x y : Int32} {off : Int} {tgt : Nat} (hdg : decode cc pc = .ok (.if_icmp .eq off, 3)) (ht : (pc : Int) + off = (tgt : Int)) (kt : x = y → Z X w I J tgt lv rest) (kf : ¬ x = y → Z X w I J (pc + 3) lv rest) : Z X w I J pc lv (.int y :: .int x :: rest) := by
  obtain ⟨p, l, e, R, s, m, args, below, meth, c, ⟨cells, slots⟩, Q, A⟩ := X
  obtain ⟨hx, hb, hts, hown, hK, hG, hA, hj, hlk, hR, hc1, hc2⟩ := C
  intro H locs ls hP hS hl
  exact lv_icmp_eq hx hb hdg ht (fun q => kt q H locs ls hP hS hl) (fun q => kf q H locs ls hP hS hl)
theorem z_if_ne (C : zOk X w cc own rm)  {x : Int32} {off : Int} {tgt : Nat} (hdg : decode cc pc = .ok (.ifCond .ne off, 3)) (ht : (pc : Int) + off = (tgt : Int)) (kt : ¬ x = 0 → Z X w I J tgt lv rest) (kf : x = 0 → Z X w I J (pc + 3) lv rest) : Z X w I J pc lv (.int x :: rest) := by
  obtain ⟨p, l, e, R, s, m, args, below, meth, c, ⟨cells, slots⟩, Q, A⟩ := X
  obtain ⟨hx, hb, hts, hown, hK, hG, hA, hj, hlk, hR, hc1, hc2⟩ := C
  intro H locs ls hP hS hl
  exact lv_if_ne hx hb hdg ht (fun q => kt q H locs ls hP hS hl) (fun q => kf q H locs ls hP hS hl)
theorem z_icmp_ne (C : zOk X w cc own rm)  {x y : Int32} {off : Int} {tgt : Nat} (hdg : decode cc pc = .ok (.if_icmp .ne off, 3)) (ht : (pc : Int) + off = (tgt : Int)) (kt : ¬ x = y → Z X w I J tgt lv rest) (kf : x = y → Z X w I J (pc + 3) lv rest) : Z X w I J pc lv (.int y :: .int x :: rest) := by
  obtain ⟨p, l, e, R, s, m, args, below, meth, c, ⟨cells, slots⟩, Q, A⟩ := X
  obtain ⟨hx, hb, hts, hown, hK, hG, hA, hj, hlk, hR, hc1, hc2⟩ := C
  intro H locs ls hP hS hl
  exact lv_icmp_ne hx hb hdg ht (fun q => kt q H locs ls hP hS hl) (fun q => kf q H locs ls hP hS hl)
theorem z_if_lt (C : zOk X w cc own rm)  {x : Int32} {off : Int} {tgt : Nat} (hdg : decode cc pc = .ok (.ifCond .lt off, 3)) (ht : (pc : Int) + off = (tgt : Int)) (kt : x < 0 → Z X w I J tgt lv rest) (kf : ¬ x < 0 → Z X w I J (pc + 3) lv rest) : Z X w I J pc lv (.int x :: rest) := by
  obtain ⟨p, l, e, R, s, m, args, below, meth, c, ⟨cells, slots⟩, Q, A⟩ := X
  obtain ⟨hx, hb, hts, hown, hK, hG, hA, hj, hlk, hR, hc1, hc2⟩ := C
  intro H locs ls hP hS hl
  exact lv_if_lt hx hb hdg ht (fun q => kt q H locs ls hP hS hl) (fun q => kf q H locs ls hP hS hl)
theorem z_icmp_lt (C : zOk X w cc own rm)  {x y : Int32} {off : Int} {tgt : Nat} (hdg : decode cc pc = .ok (.if_icmp .lt off, 3)) (ht : (pc : Int) + off = (tgt : Int)) (kt : x < y → Z X w I J tgt lv rest) (kf : ¬ x < y → Z X w I J (pc + 3) lv rest) : Z X w I J pc lv (.int y :: .int x :: rest) := by
  obtain ⟨p, l, e, R, s, m, args, below, meth, c, ⟨cells, slots⟩, Q, A⟩ := X
  obtain ⟨hx, hb, hts, hown, hK, hG, hA, hj, hlk, hR, hc1, hc2⟩ := C
  intro H locs ls hP hS hl
  exact lv_icmp_lt hx hb hdg ht (fun q => kt q H locs ls hP hS hl) (fun q => kf q H locs ls hP hS hl)
theorem z_if_ge (C : zOk X w cc own rm)  {x : Int32} {off : Int} {tgt : Nat} (hdg : decode cc pc = .ok (.ifCond .ge off, 3)) (ht : (pc : Int) + off = (tgt : Int)) (kt : 0 ≤ x → Z X w I J tgt lv rest) (kf : ¬ 0 ≤ x → Z X w I J (pc + 3) lv rest) : Z X w I J pc lv (.int x :: rest) := by
  obtain ⟨p, l, e, R, s, m, args, below, meth, c, ⟨cells, slots⟩, Q, A⟩ := X
  obtain ⟨hx, hb, hts, hown, hK, hG, hA, hj, hlk, hR, hc1, hc2⟩ := C
  intro H locs ls hP hS hl
  exact lv_if_ge hx hb hdg ht (fun q => kt q H locs ls hP hS hl) (fun q => kf q H locs ls hP hS hl)
theorem z_icmp_ge (C : zOk X w cc own rm)  {x y : Int32} {off : Int} {tgt : Nat} (hdg : decode cc pc = .ok (.if_icmp .ge off, 3)) (ht : (pc : Int) + off = (tgt : Int)) (kt : y ≤ x → Z X w I J tgt lv rest) (kf : ¬ y ≤ x → Z X w I J (pc + 3) lv rest) : Z X w I J pc lv (.int y :: .int x :: rest) := by
  obtain ⟨p, l, e, R, s, m, args, below, meth, c, ⟨cells, slots⟩, Q, A⟩ := X
  obtain ⟨hx, hb, hts, hown, hK, hG, hA, hj, hlk, hR, hc1, hc2⟩ := C
  intro H locs ls hP hS hl
  exact lv_icmp_ge hx hb hdg ht (fun q => kt q H locs ls hP hS hl) (fun q => kf q H locs ls hP hS hl)
theorem z_if_gt (C : zOk X w cc own rm)  {x : Int32} {off : Int} {tgt : Nat} (hdg : decode cc pc = .ok (.ifCond .gt off, 3)) (ht : (pc : Int) + off = (tgt : Int)) (kt : 0 < x → Z X w I J tgt lv rest) (kf : ¬ 0 < x → Z X w I J (pc + 3) lv rest) : Z X w I J pc lv (.int x :: rest) := by
  obtain ⟨p, l, e, R, s, m, args, below, meth, c, ⟨cells, slots⟩, Q, A⟩ := X
  obtain ⟨hx, hb, hts, hown, hK, hG, hA, hj, hlk, hR, hc1, hc2⟩ := C
  intro H locs ls hP hS hl
  exact lv_if_gt hx hb hdg ht (fun q => kt q H locs ls hP hS hl) (fun q => kf q H locs ls hP hS hl)
theorem z_icmp_gt (C : zOk X w cc own rm)  {x y : Int32} {off : Int} {tgt : Nat} (hdg : decode cc pc = .ok (.if_icmp .gt off, 3)) (ht : (pc : Int) + off = (tgt : Int)) (kt : y < x → Z X w I J tgt lv rest) (kf : ¬ y < x → Z X w I J (pc + 3) lv rest) : Z X w I J pc lv (.int y :: .int x :: rest) := by
  obtain ⟨p, l, e, R, s, m, args, below, meth, c, ⟨cells, slots⟩, Q, A⟩ := X
  obtain ⟨hx, hb, hts, hown, hK, hG, hA, hj, hlk, hR, hc1, hc2⟩ := C
  intro H locs ls hP hS hl
  exact lv_icmp_gt hx hb hdg ht (fun q => kt q H locs ls hP hS hl) (fun q => kf q H locs ls hP hS hl)
theorem z_if_le (C : zOk X w cc own rm)  {x : Int32} {off : Int} {tgt : Nat} (hdg : decode cc pc = .ok (.ifCond .le off, 3)) (ht : (pc : Int) + off = (tgt : Int)) (kt : x ≤ 0 → Z X w I J tgt lv rest) (kf : ¬ x ≤ 0 → Z X w I J (pc + 3) lv rest) : Z X w I J pc lv (.int x :: rest) := by
  obtain ⟨p, l, e, R, s, m, args, below, meth, c, ⟨cells, slots⟩, Q, A⟩ := X
  obtain ⟨hx, hb, hts, hown, hK, hG, hA, hj, hlk, hR, hc1, hc2⟩ := C
  intro H locs ls hP hS hl
  exact lv_if_le hx hb hdg ht (fun q => kt q H locs ls hP hS hl) (fun q => kf q H locs ls hP hS hl)
theorem z_icmp_le (C : zOk X w cc own rm)  {x y : Int32} {off : Int} {tgt : Nat} (hdg : decode cc pc = .ok (.if_icmp .le off, 3)) (ht : (pc : Int) + off = (tgt : Int)) (kt : x ≤ y → Z X w I J tgt lv rest) (kf : ¬ x ≤ y → Z X w I J (pc + 3) lv rest) : Z X w I J pc lv (.int y :: .int x :: rest) := by
  obtain ⟨p, l, e, R, s, m, args, below, meth, c, ⟨cells, slots⟩, Q, A⟩ := X
  obtain ⟨hx, hb, hts, hown, hK, hG, hA, hj, hlk, hR, hc1, hc2⟩ := C
  intro H locs ls hP hS hl
  exact lv_icmp_le hx hb hdg ht (fun q => kt q H locs ls hP hS hl) (fun q => kf q H locs ls hP hS hl)
theorem z_iload_n (C : zOk X w cc own rm) {k : Fin 4} {i : Nat} {x : Int32} (hdg : decode cc pc = .ok (.iload_n k, 1)) (hi : (k : Nat) = i) (q : Nat) (hl0 : lv[q]? = some (i, .int x)) (kk : Z X w I J (pc + 1) lv (.int x :: rest)) : Z X w I J pc lv rest := by
  obtain ⟨p, l, e, R, s, m, args, below, meth, c, ⟨cells, slots⟩, Q, A⟩ := X
  obtain ⟨hx, hb, hts, hown, hK, hG, hA, hj, hlk, hR, hc1, hc2⟩ := C
  intro H locs ls hP hS hl
  exact lv_iload_n hx hb hdg hi (lv_at hl q hl0) (kk H locs ls hP hS hl)
theorem z_iload (C : zOk X w cc own rm) {i : Nat} {x : Int32} (hdg : decode cc pc = .ok (.iload i, 2)) (q : Nat) (hl0 : lv[q]? = some (i, .int x)) (kk : Z X w I J (pc + 2) lv (.int x :: rest)) : Z X w I J pc lv rest := by
  obtain ⟨p, l, e, R, s, m, args, below, meth, c, ⟨cells, slots⟩, Q, A⟩ := X
  obtain ⟨hx, hb, hts, hown, hK, hG, hA, hj, hlk, hR, hc1, hc2⟩ := C
  intro H locs ls hP hS hl
  exact lv_iload hx hb hdg (lv_at hl q hl0) (kk H locs ls hP hS hl)
theorem z_lload_n (C : zOk X w cc own rm) {k : Fin 4} {i : Nat} {x : Int64} (hdg : decode cc pc = .ok (.lload_n k, 1)) (hi : (k : Nat) = i) (q : Nat) (hl0 : lv[q]? = some (i, .long x)) (kk : Z X w I J (pc + 1) lv (.long x :: rest)) : Z X w I J pc lv rest := by
  obtain ⟨p, l, e, R, s, m, args, below, meth, c, ⟨cells, slots⟩, Q, A⟩ := X
  obtain ⟨hx, hb, hts, hown, hK, hG, hA, hj, hlk, hR, hc1, hc2⟩ := C
  intro H locs ls hP hS hl
  exact lv_lload_n hx hb hdg hi (lv_at hl q hl0) (kk H locs ls hP hS hl)
theorem z_lload (C : zOk X w cc own rm) {i : Nat} {x : Int64} (hdg : decode cc pc = .ok (.lload i, 2)) (q : Nat) (hl0 : lv[q]? = some (i, .long x)) (kk : Z X w I J (pc + 2) lv (.long x :: rest)) : Z X w I J pc lv rest := by
  obtain ⟨p, l, e, R, s, m, args, below, meth, c, ⟨cells, slots⟩, Q, A⟩ := X
  obtain ⟨hx, hb, hts, hown, hK, hG, hA, hj, hlk, hR, hc1, hc2⟩ := C
  intro H locs ls hP hS hl
  exact lv_lload hx hb hdg (lv_at hl q hl0) (kk H locs ls hP hS hl)
theorem z_aload_n (C : zOk X w cc own rm) {k : Fin 4} {i : Nat} {x : Nat} (hdg : decode cc pc = .ok (.aload_n k, 1)) (hi : (k : Nat) = i) (q : Nat) (hl0 : lv[q]? = some (i, .ref x)) (kk : Z X w I J (pc + 1) lv (.ref x :: rest)) : Z X w I J pc lv rest := by
  obtain ⟨p, l, e, R, s, m, args, below, meth, c, ⟨cells, slots⟩, Q, A⟩ := X
  obtain ⟨hx, hb, hts, hown, hK, hG, hA, hj, hlk, hR, hc1, hc2⟩ := C
  intro H locs ls hP hS hl
  exact lv_aload_n hx hb hdg hi (lv_at hl q hl0) (kk H locs ls hP hS hl)
theorem z_aload (C : zOk X w cc own rm) {i : Nat} {x : Nat} (hdg : decode cc pc = .ok (.aload i, 2)) (q : Nat) (hl0 : lv[q]? = some (i, .ref x)) (kk : Z X w I J (pc + 2) lv (.ref x :: rest)) : Z X w I J pc lv rest := by
  obtain ⟨p, l, e, R, s, m, args, below, meth, c, ⟨cells, slots⟩, Q, A⟩ := X
  obtain ⟨hx, hb, hts, hown, hK, hG, hA, hj, hlk, hR, hc1, hc2⟩ := C
  intro H locs ls hP hS hl
  exact lv_aload hx hb hdg (lv_at hl q hl0) (kk H locs ls hP hS hl)
theorem z_aload_nN (C : zOk X w cc own rm) {k : Fin 4} {i : Nat} (hdg : decode cc pc = .ok (.aload_n k, 1)) (hi : (k : Nat) = i) (q : Nat) (hl0 : lv[q]? = some (i, .null)) (kk : Z X w I J (pc + 1) lv (.null :: rest)) : Z X w I J pc lv rest := by
  obtain ⟨p, l, e, R, s, m, args, below, meth, c, ⟨cells, slots⟩, Q, A⟩ := X
  obtain ⟨hx, hb, hts, hown, hK, hG, hA, hj, hlk, hR, hc1, hc2⟩ := C
  intro H locs ls hP hS hl
  exact lv_aload_nN hx hb hdg hi (lv_at hl q hl0) (kk H locs ls hP hS hl)
theorem z_aloadN (C : zOk X w cc own rm) {i : Nat} (hdg : decode cc pc = .ok (.aload i, 2)) (q : Nat) (hl0 : lv[q]? = some (i, .null)) (kk : Z X w I J (pc + 2) lv (.null :: rest)) : Z X w I J pc lv rest := by
  obtain ⟨p, l, e, R, s, m, args, below, meth, c, ⟨cells, slots⟩, Q, A⟩ := X
  obtain ⟨hx, hb, hts, hown, hK, hG, hA, hj, hlk, hR, hc1, hc2⟩ := C
  intro H locs ls hP hS hl
  exact lv_aloadN hx hb hdg (lv_at hl q hl0) (kk H locs ls hP hS hl)
theorem z_istore_n (C : zOk X w cc own rm) (hm : zML X c0) {k : Fin 4} {i : Nat} {x : Int32} {lv' : List (Nat × Value)} (hdg : decode cc pc = .ok (.istore_n k, 1)) (hi : (k : Nat) = i) (hn : i < c0) (hl0 : (i, Value.int x) :: lv.filter (fun q : Nat × Value => !(q.1 == i) && !(q.1 + 1 == i && q.2.category == 2)) = lv') (kk : Z X w I J (pc + 1) lv' rest) : Z X w I J pc lv (.int x :: rest) := by
  obtain ⟨p, l, e, R, s, m, args, below, meth, c, ⟨cells, slots⟩, Q, A⟩ := X
  obtain ⟨hx, hb, hts, hown, hK, hG, hA, hj, hlk, hR, hc1, hc2⟩ := C
  intro H locs ls hP hS hl
  exact lv_istore_n hx hb hdg hi hl (by rw [show c.maxLocals = c0 from hm]; exact hn) hl0 (fun ls' h' => kk H locs ls' hP hS h')
theorem z_istore (C : zOk X w cc own rm) (hm : zML X c0) {i : Nat} {x : Int32} {lv' : List (Nat × Value)} (hdg : decode cc pc = .ok (.istore i, 2)) (hn : i < c0) (hl0 : (i, Value.int x) :: lv.filter (fun q : Nat × Value => !(q.1 == i) && !(q.1 + 1 == i && q.2.category == 2)) = lv') (kk : Z X w I J (pc + 2) lv' rest) : Z X w I J pc lv (.int x :: rest) := by
  obtain ⟨p, l, e, R, s, m, args, below, meth, c, ⟨cells, slots⟩, Q, A⟩ := X
  obtain ⟨hx, hb, hts, hown, hK, hG, hA, hj, hlk, hR, hc1, hc2⟩ := C
  intro H locs ls hP hS hl
  exact lv_istore hx hb hdg hl (by rw [show c.maxLocals = c0 from hm]; exact hn) hl0 (fun ls' h' => kk H locs ls' hP hS h')
theorem z_astore_n (C : zOk X w cc own rm) (hm : zML X c0) {k : Fin 4} {i : Nat} {x : Nat} {lv' : List (Nat × Value)} (hdg : decode cc pc = .ok (.astore_n k, 1)) (hi : (k : Nat) = i) (hn : i < c0) (hl0 : (i, Value.ref x) :: lv.filter (fun q : Nat × Value => !(q.1 == i) && !(q.1 + 1 == i && q.2.category == 2)) = lv') (kk : Z X w I J (pc + 1) lv' rest) : Z X w I J pc lv (.ref x :: rest) := by
  obtain ⟨p, l, e, R, s, m, args, below, meth, c, ⟨cells, slots⟩, Q, A⟩ := X
  obtain ⟨hx, hb, hts, hown, hK, hG, hA, hj, hlk, hR, hc1, hc2⟩ := C
  intro H locs ls hP hS hl
  exact lv_astore_n hx hb hdg hi hl (by rw [show c.maxLocals = c0 from hm]; exact hn) hl0 (fun ls' h' => kk H locs ls' hP hS h')
theorem z_astore (C : zOk X w cc own rm) (hm : zML X c0) {i : Nat} {x : Nat} {lv' : List (Nat × Value)} (hdg : decode cc pc = .ok (.astore i, 2)) (hn : i < c0) (hl0 : (i, Value.ref x) :: lv.filter (fun q : Nat × Value => !(q.1 == i) && !(q.1 + 1 == i && q.2.category == 2)) = lv') (kk : Z X w I J (pc + 2) lv' rest) : Z X w I J pc lv (.ref x :: rest) := by
  obtain ⟨p, l, e, R, s, m, args, below, meth, c, ⟨cells, slots⟩, Q, A⟩ := X
  obtain ⟨hx, hb, hts, hown, hK, hG, hA, hj, hlk, hR, hc1, hc2⟩ := C
  intro H locs ls hP hS hl
  exact lv_astore hx hb hdg hl (by rw [show c.maxLocals = c0 from hm]; exact hn) hl0 (fun ls' h' => kk H locs ls' hP hS h')
theorem z_lstore_n (C : zOk X w cc own rm) (hm : zML X c0) {k : Fin 4} {i : Nat} {x : Int64} {lv' : List (Nat × Value)} (hdg : decode cc pc = .ok (.lstore_n k, 1)) (hi : (k : Nat) = i) (hn : i + 1 < c0) (hl0 : (i, Value.long x) :: lv.filter (fun q : Nat × Value => !(q.1 == i) && (!(q.1 == i + 1) && !(q.1 + 1 == i && q.2.category == 2))) = lv') (kk : Z X w I J (pc + 1) lv' rest) : Z X w I J pc lv (.long x :: rest) := by
  obtain ⟨p, l, e, R, s, m, args, below, meth, c, ⟨cells, slots⟩, Q, A⟩ := X
  obtain ⟨hx, hb, hts, hown, hK, hG, hA, hj, hlk, hR, hc1, hc2⟩ := C
  intro H locs ls hP hS hl
  exact lv_lstore_n hx hb hdg hi hl (by rw [show c.maxLocals = c0 from hm]; exact hn) hl0 (fun ls' h' => kk H locs ls' hP hS h')
theorem z_lstore (C : zOk X w cc own rm) (hm : zML X c0) {i : Nat} {x : Int64} {lv' : List (Nat × Value)} (hdg : decode cc pc = .ok (.lstore i, 2)) (hn : i + 1 < c0) (hl0 : (i, Value.long x) :: lv.filter (fun q : Nat × Value => !(q.1 == i) && (!(q.1 == i + 1) && !(q.1 + 1 == i && q.2.category == 2))) = lv') (kk : Z X w I J (pc + 2) lv' rest) : Z X w I J pc lv (.long x :: rest) := by
  obtain ⟨p, l, e, R, s, m, args, below, meth, c, ⟨cells, slots⟩, Q, A⟩ := X
  obtain ⟨hx, hb, hts, hown, hK, hG, hA, hj, hlk, hR, hc1, hc2⟩ := C
  intro H locs ls hP hS hl
  exact lv_lstore hx hb hdg hl (by rw [show c.maxLocals = c0 from hm]; exact hn) hl0 (fun ls' h' => kk H locs ls' hP hS h')
theorem z_astore_nN (C : zOk X w cc own rm) (hm : zML X c0) {k : Fin 4} {i : Nat} {lv' : List (Nat × Value)} (hdg : decode cc pc = .ok (.astore_n k, 1)) (hi : (k : Nat) = i) (hn : i < c0) (hl0 : (i, Value.null) :: lv.filter (fun q : Nat × Value => !(q.1 == i) && !(q.1 + 1 == i && q.2.category == 2)) = lv') (kk : Z X w I J (pc + 1) lv' rest) : Z X w I J pc lv (.null :: rest) := by
  obtain ⟨p, l, e, R, s, m, args, below, meth, c, ⟨cells, slots⟩, Q, A⟩ := X
  obtain ⟨hx, hb, hts, hown, hK, hG, hA, hj, hlk, hR, hc1, hc2⟩ := C
  intro H locs ls hP hS hl
  exact lv_astore_nN hx hb hdg hi hl (by rw [show c.maxLocals = c0 from hm]; exact hn) hl0 (fun ls' h' => kk H locs ls' hP hS h')
theorem z_astoreN (C : zOk X w cc own rm) (hm : zML X c0) {i : Nat} {lv' : List (Nat × Value)} (hdg : decode cc pc = .ok (.astore i, 2)) (hn : i < c0) (hl0 : (i, Value.null) :: lv.filter (fun q : Nat × Value => !(q.1 == i) && !(q.1 + 1 == i && q.2.category == 2)) = lv') (kk : Z X w I J (pc + 2) lv' rest) : Z X w I J pc lv (.null :: rest) := by
  obtain ⟨p, l, e, R, s, m, args, below, meth, c, ⟨cells, slots⟩, Q, A⟩ := X
  obtain ⟨hx, hb, hts, hown, hK, hG, hA, hj, hlk, hR, hc1, hc2⟩ := C
  intro H locs ls hP hS hl
  exact lv_astoreN hx hb hdg hl (by rw [show c.maxLocals = c0 from hm]; exact hn) hl0 (fun ls' h' => kk H locs ls' hP hS h')
theorem z_iinc (C : zOk X w cc own rm) (hm : zML X c0) {i : Nat} (k : Nat) {n : Int} {x v : Int32} {lv' : List (Nat × Value)} (hdg : decode cc pc = .ok (.iinc i n, 3)) (hk : lv[k]? = some (i, .int x)) (hv : x + Int32.ofInt n = v) (hn : i < c0) (hl0 : (i, Value.int v) :: lv.filter (fun q : Nat × Value => !(q.1 == i) && !(q.1 + 1 == i && q.2.category == 2)) = lv') (kk : Z X w I J (pc + 3) lv' rest) : Z X w I J pc lv rest := by
  obtain ⟨p, l, e, R, s, m, args, below, meth, c, ⟨cells, slots⟩, Q, A⟩ := X
  obtain ⟨hx, hb, hts, hown, hK, hG, hA, hj, hlk, hR, hc1, hc2⟩ := C
  intro H locs ls hP hS hl
  exact lv_iinc hx hb hdg hl hk hv (by rw [show c.maxLocals = c0 from hm]; exact hn) hl0 (fun ls' h' => kk H locs ls' hP hS h')
theorem z_lcmp (C : zOk X w cc own rm) {x y : Int64} (hdg : decode cc pc = .ok (.lcmp, 1)) (k : Z X w I J (pc + 1) lv (.int (lg_cmp x y) :: rest)) : Z X w I J pc lv (.long y :: .long x :: rest) := by
  obtain ⟨p, l, e, R, s, m, args, below, meth, c, ⟨cells, slots⟩, Q, A⟩ := X
  obtain ⟨hx, hb, hts, hown, hK, hG, hA, hj, hlk, hR, hc1, hc2⟩ := C
  intro H locs ls hP hS hl
  exact W.lcmp hx hb hdg (k H locs ls hP hS hl)
/-- a link to a field: own place, its number, the kind, which field, its type, whether final -/
def zFd (own : String) (index ci j : Nat) (ty : FieldType) (fin : Bool) : Prop := ∃ (Cn : String) (T : u_T) (Nf : Nat) (ty0 : Nat → FieldType), vwCl[ci]? = some (Cn, T, Nf) ∧ (∀ t ∈ u_ws Cn T Nf, t ∈ zT) ∧ j < Nf ∧ Cond.fieldLink own index (T j).1 (T j).2.1 (T j).2.2.1 ∈ zT ∧ (∀ k, k < Nf → parseFieldDescriptor (T k).2.2.1 = some (ty0 k)) ∧ (∀ a, a < Nf → ∀ b, b < Nf → a ≠ b → (T a).2.1 ≠ (T b).2.1) ∧ (T j).2.2.2 = fin ∧ ty0 j = ty
theorem z_get {index ci j : Nat} {ty : FieldType} {fin : Bool} (C : zOk X w cc own rm) (F : zFd own index ci j ty fin) (a : Nat) (ha : a < zN) {fs : List (Nat × Nat)} (hs : zsh a = .inr (ci, fs)) {f : Nat × Nat} (hf : fs[j]? = some f) {v : Value} (hv : zfv w I J a j f = v) (hd : decode cc pc = .ok (.getfield index, 3)) (kk : Z X w I J (pc + 3) lv (v :: rest)) : Z X w I J pc lv (.ref (zad w a) :: rest) := by
  obtain ⟨p, l, e, R, s, m, args, below, meth, c, ⟨cells, slots⟩, Q, A⟩ := X
  obtain ⟨hx, hb, hts, hown, hK, hG, hA, hj, hlk, hR, hc1, hc2⟩ := C
  obtain ⟨Cn, T, Nf, ty0, h1, h2, h3, h4, h5, h6, h7, h8⟩ := F
  intro H locs ls hP hS hl
  refine va_get hx hb (Ts := zT) hts h2 hown hK hP a (fs := zfs w I J a 0 fs) (by rw [zws_at ha, hs]; rfl) h1 j h3 (hts _ h4) (fun _ h => h) (v := v) ?_ hd (kk H locs ls hP hS hl)
  rw [zfs_at fs 0 j hf, Nat.zero_add, hv]
theorem z_puti {index ci j : Nat} {ty : FieldType} (C : zOk X w cc own rm) (F : zFd own index ci j ty false) (a : Nat) (ha : a < zN) {fs : List (Nat × Nat)} (hs : zsh a = .inr (ci, fs)) {n0 : Nat} (hf : fs[j]? = some (0, n0)) {x : Int32} (hn : narrow ty (.int x) = .int x) (hfit : fits ty (.int x) = true) (hd : decode cc pc = .ok (.putfield index, 3)) (kk : Z X w (zup I a (upd (I a) j x)) J (pc + 3) lv rest) : Z X w I J pc lv (.int x :: .ref (zad w a) :: rest) := by
  obtain ⟨p, l, e, R, s, m, args, below, meth, c, ⟨cells, slots⟩, Q, A⟩ := X
  obtain ⟨hx, hb, hts, hown, hK, hG, hA, hj, hlk, hR, hc1, hc2⟩ := C
  obtain ⟨Cn, T, Nf, ty0, h1, h2, h3, h4, h5, h6, h7, h8⟩ := F
  intro H locs ls hP hS hl
  refine va_put hx hb (Ts := zT) hts h2 ty0 h5 h6 hown hK hP (zD_of hA hj) hS a (fs := zfs w I J a 0 fs) (by rw [zws_at ha, hs]; rfl) h1 j h3 (hts _ h4) (fun _ h => h) h7 (ty := ty) (by rw [← h8]; exact h5 j h3) hn hfit (by rw [zfs_len]; exact (List.getElem?_eq_some_iff.mp hf).1) hd (fun H1 locs1 hP1 _ hS1 => kk H1 locs1 ls (zSet (A := A) ha ?_ (fun k hk => ⟨zup_n hk, rfl⟩) hP1) hS1 hl)
  rw [hs]
  simp only [zE]
  rw [zfs_set (I := I) (J := J) fs 0 j hf (v := .int x) (by simp [zfv, zup_s, upd]) (fun i g hi _ => by simp only [Nat.zero_add, zfv, zup_s]; rw [show upd (I a) j x i = I a i from if_neg hi])]
theorem z_putl {index ci j : Nat} {ty : FieldType} (C : zOk X w cc own rm) (F : zFd own index ci j ty false) (a : Nat) (ha : a < zN) {fs : List (Nat × Nat)} (hs : zsh a = .inr (ci, fs)) {n0 : Nat} (hf : fs[j]? = some (1, n0)) {x : Int64} (hn : narrow ty (.long x) = .long x) (hfit : fits ty (.long x) = true) (hd : decode cc pc = .ok (.putfield index, 3)) (kk : Z X w I (zupJ J a (vp_updL (J a) j x)) (pc + 3) lv rest) : Z X w I J pc lv (.long x :: .ref (zad w a) :: rest) := by
  obtain ⟨p, l, e, R, s, m, args, below, meth, c, ⟨cells, slots⟩, Q, A⟩ := X
  obtain ⟨hx, hb, hts, hown, hK, hG, hA, hj, hlk, hR, hc1, hc2⟩ := C
  obtain ⟨Cn, T, Nf, ty0, h1, h2, h3, h4, h5, h6, h7, h8⟩ := F
  intro H locs ls hP hS hl
  refine va_put hx hb (Ts := zT) hts h2 ty0 h5 h6 hown hK hP (zD_of hA hj) hS a (fs := zfs w I J a 0 fs) (by rw [zws_at ha, hs]; rfl) h1 j h3 (hts _ h4) (fun _ h => h) h7 (ty := ty) (by rw [← h8]; exact h5 j h3) hn hfit (by rw [zfs_len]; exact (List.getElem?_eq_some_iff.mp hf).1) hd (fun H1 locs1 hP1 _ hS1 => kk H1 locs1 ls (zSet (A := A) ha ?_ (fun k hk => ⟨rfl, zupJ_n hk⟩) hP1) hS1 hl)
  rw [hs]
  simp only [zE]
  rw [zfs_set (I := I) (J := J) fs 0 j hf (v := .long x) (by simp [zfv, zupJ_s, vp_updL]) (fun i g hi _ => by simp only [Nat.zero_add, zfv, zupJ_s]; rw [show vp_updL (J a) j x i = J a i from if_neg hi])]
/-- a law is put where one is held -/
theorem z_puth {index ci j : Nat} {ty : FieldType} (C : zOk X w cc own rm) (F : zFd own index ci j ty false) (a : Nat) (ha : a < zN) {fs : List (Nat × Nat)} (hs : zsh a = .inr (ci, fs)) {n0 : Nat} (hf : fs[j]? = some (3, n0)) {x : Int32} {q : Nat} (hq : zad w (zhd x) = q) (hn : narrow ty (.ref q) = .ref q) (hfit : fits ty (.ref q) = true) (hd : decode cc pc = .ok (.putfield index, 3)) (kk : Z X w (zup I a (upd (I a) j x)) J (pc + 3) lv rest) : Z X w I J pc lv (.ref q :: .ref (zad w a) :: rest) := by
  obtain ⟨p, l, e, R, s, m, args, below, meth, c, ⟨cells, slots⟩, Q, A⟩ := X
  obtain ⟨hx, hb, hts, hown, hK, hG, hA, hj, hlk, hR, hc1, hc2⟩ := C
  obtain ⟨Cn, T, Nf, ty0, h1, h2, h3, h4, h5, h6, h7, h8⟩ := F
  intro H locs ls hP hS hl
  refine va_put hx hb (Ts := zT) hts h2 ty0 h5 h6 hown hK hP (zD_of hA hj) hS a (fs := zfs w I J a 0 fs) (by rw [zws_at ha, hs]; rfl) h1 j h3 (hts _ h4) (fun _ h => h) h7 (ty := ty) (by rw [← h8]; exact h5 j h3) hn hfit (by rw [zfs_len]; exact (List.getElem?_eq_some_iff.mp hf).1) hd (fun H1 locs1 hP1 _ hS1 => kk H1 locs1 ls (zSet (A := A) ha ?_ (fun k hk => ⟨zup_n hk, rfl⟩) hP1) hS1 hl)
  rw [hs]
  simp only [zE]
  rw [zfs_set (I := I) (J := J) fs 0 j hf (v := .ref q) (by simp [zfv, zup_s, upd, hq]) (fun i g hi _ => by simp only [Nat.zero_add, zfv, zup_s]; rw [show upd (I a) j x i = I a i from if_neg hi])]
theorem z_iald (C : zOk X w cc own rm) (a : Nat) (ha : a < zN) {n : Nat} {r : Nat → Option Nat} (hs : zsh a = .inl (0, n, 0, r)) (k : Nat) (hk : k < n) (hn : n < 2 ^ 31) {i : Int32} (hi : i = nI k) {v : Int32} (hv : I a k = v) (hd : decode cc pc = .ok (.iaload, 1)) (kk : Z X w I J (pc + 1) lv (.int v :: rest)) : Z X w I J pc lv (.int i :: .ref (zad w a) :: rest) := by
  obtain ⟨p, l, e, R, s, m, args, below, meth, c, ⟨cells, slots⟩, Q, A⟩ := X
  obtain ⟨hx, hb, hts, hown, hK, hG, hA, hj, hlk, hR, hc1, hc2⟩ := C
  intro H locs ls hP hS hl
  subst hi; subst hv
  refine va_iald hx hb hK hP a 0 (cA := w.2.1 0) (n := n) (f := I a) (by rw [zws_at ha, hs]; rfl) rfl (vp_in_nI hk hn) hd ?_
  rw [nI_clamp (by omega)]
  exact kk H locs ls hP hS hl
theorem z_zald (C : zOk X w cc own rm) (a : Nat) (ha : a < zN) {n : Nat} {r : Nat → Option Nat} (hs : zsh a = .inl (2, n, 0, r)) (k : Nat) (hk : k < n) (hn : n < 2 ^ 31) {i : Int32} (hi : i = nI k) {v : Int32} (hv : I a k = v) (hd : decode cc pc = .ok (.baload, 1)) (kk : Z X w I J (pc + 1) lv (.int v :: rest)) : Z X w I J pc lv (.int i :: .ref (zad w a) :: rest) := by
  obtain ⟨p, l, e, R, s, m, args, below, meth, c, ⟨cells, slots⟩, Q, A⟩ := X
  obtain ⟨hx, hb, hts, hown, hK, hG, hA, hj, hlk, hR, hc1, hc2⟩ := C
  intro H locs ls hP hS hl
  subst hi; subst hv
  refine va_zald hx hb hK hP a 2 (cA := w.2.1 2) (n := n) (f := I a) (by rw [zws_at ha, hs]; rfl) rfl (vp_in_nI hk hn) hd ?_
  rw [nI_clamp (by omega)]
  exact kk H locs ls hP hS hl
theorem z_lald (C : zOk X w cc own rm) (a : Nat) (ha : a < zN) {n : Nat} {r : Nat → Option Nat} (hs : zsh a = .inl (1, n, 1, r)) (k : Nat) (hk : k < n) (hn : n < 2 ^ 31) {i : Int32} (hi : i = nI k) {v : Int64} (hv : J a k = v) (hd : decode cc pc = .ok (.laload, 1)) (kk : Z X w I J (pc + 1) lv (.long v :: rest)) : Z X w I J pc lv (.int i :: .ref (zad w a) :: rest) := by
  obtain ⟨p, l, e, R, s, m, args, below, meth, c, ⟨cells, slots⟩, Q, A⟩ := X
  obtain ⟨hx, hb, hts, hown, hK, hG, hA, hj, hlk, hR, hc1, hc2⟩ := C
  intro H locs ls hP hS hl
  subst hi; subst hv
  refine va_lald hx hb hK hP a 1 (cA := w.2.1 1) (n := n) (f := J a) (by rw [zws_at ha, hs]; rfl) rfl (vp_in_nI hk hn) hd ?_
  rw [nI_clamp (by omega)]
  exact kk H locs ls hP hS hl
theorem z_iast (C : zOk X w cc own rm) (a : Nat) (ha : a < zN) {n : Nat} {r : Nat → Option Nat} (hs : zsh a = .inl (0, n, 0, r)) (k : Nat) (hk : k < n) (hn : n < 2 ^ 31) {i x : Int32} (hi : i = nI k) (hd : decode cc pc = .ok (.iastore, 1)) (kk : Z X w (zup I a (upd (I a) k x)) J (pc + 1) lv rest) : Z X w I J pc lv (.int x :: .int i :: .ref (zad w a) :: rest) := by
  obtain ⟨p, l, e, R, s, m, args, below, meth, c, ⟨cells, slots⟩, Q, A⟩ := X
  obtain ⟨hx, hb, hts, hown, hK, hG, hA, hj, hlk, hR, hc1, hc2⟩ := C
  intro H locs ls hP hS hl
  subst hi
  refine va_iast hx hb hK hP (zD_of hA hj) hS a 0 (cA := w.2.1 0) (n := n) (f := I a) (by rw [zws_at ha, hs]; rfl) rfl (vp_in_nI hk hn) hd (fun H1 locs1 hP1 _ hS1 => kk H1 locs1 ls (zSet (A := A) ha ?_ (fun k hk => ⟨zup_n hk, rfl⟩) hP1) hS1 hl)
  rw [hs, nI_clamp (by omega)]
  simp only [zE, zcont, zup_s]
theorem z_zast (C : zOk X w cc own rm) (a : Nat) (ha : a < zN) {n : Nat} {r : Nat → Option Nat} (hs : zsh a = .inl (2, n, 0, r)) (k : Nat) (hk : k < n) (hn : n < 2 ^ 31) {i x : Int32} (hi : i = nI k) (hx0 : vp_nar .boolean x = x) (hd : decode cc pc = .ok (.bastore, 1)) (kk : Z X w (zup I a (upd (I a) k x)) J (pc + 1) lv rest) : Z X w I J pc lv (.int x :: .int i :: .ref (zad w a) :: rest) := by
  obtain ⟨p, l, e, R, s, m, args, below, meth, c, ⟨cells, slots⟩, Q, A⟩ := X
  obtain ⟨hx, hb, hts, hown, hK, hG, hA, hj, hlk, hR, hc1, hc2⟩ := C
  intro H locs ls hP hS hl
  subst hi
  refine va_zast hx hb hK hP (zD_of hA hj) hS a 2 (cA := w.2.1 2) (n := n) (f := I a) (by rw [zws_at ha, hs]; rfl) rfl (vp_in_nI hk hn) hd (fun H1 locs1 hP1 _ hS1 => kk H1 locs1 ls (zSet (A := A) ha ?_ (fun k hk => ⟨zup_n hk, rfl⟩) hP1) hS1 hl)
  rw [hs, nI_clamp (by omega), hx0]
  simp only [zE, zcont, zup_s]
theorem z_last (C : zOk X w cc own rm) (a : Nat) (ha : a < zN) {n : Nat} {r : Nat → Option Nat} (hs : zsh a = .inl (1, n, 1, r)) (k : Nat) (hk : k < n) (hn : n < 2 ^ 31) {i : Int32} {x : Int64} (hi : i = nI k) (hd : decode cc pc = .ok (.lastore, 1)) (kk : Z X w I (zupJ J a (vp_updL (J a) k x)) (pc + 1) lv rest) : Z X w I J pc lv (.long x :: .int i :: .ref (zad w a) :: rest) := by
  obtain ⟨p, l, e, R, s, m, args, below, meth, c, ⟨cells, slots⟩, Q, A⟩ := X
  obtain ⟨hx, hb, hts, hown, hK, hG, hA, hj, hlk, hR, hc1, hc2⟩ := C
  intro H locs ls hP hS hl
  subst hi
  refine va_last hx hb hK hP (zD_of hA hj) hS a 1 (cA := w.2.1 1) (n := n) (f := J a) (by rw [zws_at ha, hs]; rfl) rfl (vp_in_nI hk hn) hd (fun H1 locs1 hP1 _ hS1 => kk H1 locs1 ls (zSet (A := A) ha ?_ (fun k hk => ⟨rfl, zupJ_n hk⟩) hP1) hS1 hl)
  rw [hs, nI_clamp (by omega)]
  simp only [zE, zcont, zupJ_s]
theorem z_aald (C : zOk X w cc own rm) (a : Nat) (ha : a < zN) {n : Nat} {r : Nat → Option Nat} (t : Nat) (ht : t = 3 ∨ t = 4) (hs : zsh a = .inl (t, n, 2, r)) (k : Nat) (hk : k < n) (hn : n < 2 ^ 31) {i : Int32} (hi : i = nI k) {q : Nat} (hq : r k = some q) (hd : decode cc pc = .ok (.aaload, 1)) (kk : Z X w I J (pc + 1) lv (.ref (zad w q) :: rest)) : Z X w I J pc lv (.int i :: .ref (zad w a) :: rest) := by
  obtain ⟨p, l, e, R, s, m, args, below, meth, c, ⟨cells, slots⟩, Q, A⟩ := X
  obtain ⟨hx, hb, hts, hown, hK, hG, hA, hj, hlk, hR, hc1, hc2⟩ := C
  intro H locs ls hP hS hl
  subst hi
  have key : ∀ Cn, (ztys w)[t]? = some (w.2.1 t, .object Cn) → W p l e R s m args below meth c H locs cells slots Q (F0 m pc ls (.int (nI k) :: .ref (zad w a) :: rest)) := by
    intro Cn hC
    refine va_aldq hx hb hK hP a t (cA := w.2.1 t) (n := n) (f := fun i => (r i).map (zad w)) (by rw [zws_at ha, hs]; rfl) hC (vp_in_nI hk hn) hd ?_
    rw [nI_clamp (by omega), hq]
    exact kk H locs ls hP hS hl
  rcases ht with rfl | rfl
  · exact key _ rfl
  · exact key _ rfl
theorem z_alen (C : zOk X w cc own rm) (a : Nat) (ha : a < zN) {n t kd : Nat} {r : Nat → Option Nat} (hs : zsh a = .inl (t, n, kd, r)) (ht : t < 5) {v : Int32} (hv : Int32.ofNat n = v) (hd : decode cc pc = .ok (.arraylength, 1)) (kk : Z X w I J (pc + 1) lv (.int v :: rest)) : Z X w I J pc lv (.ref (zad w a) :: rest) := by
  obtain ⟨p, l, e, R, s, m, args, below, meth, c, ⟨cells, slots⟩, Q, A⟩ := X
  obtain ⟨hx, hb, hts, hown, hK, hG, hA, hj, hlk, hR, hc1, hc2⟩ := C
  intro H locs ls hP hS hl
  obtain ⟨ty, hty⟩ : ∃ ty, (ztys w)[t]? = some (w.2.1 t, ty) := by
    match t, ht with
    | 0, _ => exact ⟨_, rfl⟩
    | 1, _ => exact ⟨_, rfl⟩
    | 2, _ => exact ⟨_, rfl⟩
    | 3, _ => exact ⟨_, rfl⟩
    | 4, _ => exact ⟨_, rfl⟩
  exact va_alen (x := (n, zcont w I J a kd r)) hx hb hK hP a t (by rw [zws_at ha, hs]; rfl) hty hv hd (kk H locs ls hP hS hl)
theorem z_ldc {index : Nat} {v : Int32} (C : zOk X w cc own rm) (h : Cond.constant own index v ∈ zT) (hd : decode cc pc = .ok (.ldc index, 2)) (kk : Z X w I J (pc + 2) lv (.int v :: rest)) : Z X w I J pc lv rest := by
  obtain ⟨p, l, e, R, s, m, args, below, meth, c, ⟨cells, slots⟩, Q, A⟩ := X
  obtain ⟨hx, hb, hts, hown, hK, hG, hA, hj, hlk, hR, hc1, hc2⟩ := C
  intro H locs ls hP hS hl
  exact lv_ldc hx hb hown (hts _ h) hd (kk H locs ls hP hS hl)
theorem z_ldcw {index : Nat} {v : Int32} (C : zOk X w cc own rm) (h : Cond.constant own index v ∈ zT) (hd : decode cc pc = .ok (.ldc_w index, 3)) (kk : Z X w I J (pc + 3) lv (.int v :: rest)) : Z X w I J pc lv rest := by
  obtain ⟨p, l, e, R, s, m, args, below, meth, c, ⟨cells, slots⟩, Q, A⟩ := X
  obtain ⟨hx, hb, hts, hown, hK, hG, hA, hj, hlk, hR, hc1, hc2⟩ := C
  intro H locs ls hP hS hl
  exact lv_ldcw hx hb hown (hts _ h) hd (kk H locs ls hP hS hl)
theorem z_ldc2 {index : Nat} {v : Int64} (C : zOk X w cc own rm) (h : Cond.constantLong own index v ∈ zT) (hd : decode cc pc = .ok (.ldc2_w index, 3)) (kk : Z X w I J (pc + 3) lv (.long v :: rest)) : Z X w I J pc lv rest := by
  obtain ⟨p, l, e, R, s, m, args, below, meth, c, ⟨cells, slots⟩, Q, A⟩ := X
  obtain ⟨hx, hb, hts, hown, hK, hG, hA, hj, hlk, hR, hc1, hc2⟩ := C
  intro H locs ls hP hS hl
  exact lv_ldc2 hx hb hown (hts _ h) hd (kk H locs ls hP hS hl)
/-- getstatic of a table, by a plain link; its items -/
theorem z_tabs {Cn n : String} {index t : Nat} (C : zOk X w cc own rm) (hT : zGG w X.2.2.2.2.2.2.2.2.2.2.2.2 X.2.2.2.2.1 X.2.2.2.2.1.heap → va_Z Cn n "[I" (.ref (zst w t)) X.2.2.2.2.2.2.2.2.2.2.2.2 X.2.2.2.2.1 X.2.2.2.2.1.heap) (hlink : Cond.fieldLink own index Cn n "[I" ∈ zT) (hd : decode cc pc = .ok (.getstatic index, 3)) (kk : Z X w I J (pc + 3) lv (.ref (zst w t) :: rest)) : Z X w I J pc lv rest := by
  obtain ⟨p, l, e, R, s, m, args, below, meth, c, ⟨cells, slots⟩, Q, A⟩ := X
  obtain ⟨hx, hb, hts, hown, hK, hG, hA, hj, hlk, hR, hc1, hc2⟩ := C
  intro H locs ls hP hS hl
  exact va_gets hx hb (hT hG) hS hown (hts _ hlink) (fun _ h => h) hd (kk H locs ls hP hS hl)
theorem z_tabN {index : Nat} (C : zOk X w cc own rm) (hT : zGG w X.2.2.2.2.2.2.2.2.2.2.2.2 X.2.2.2.2.1 X.2.2.2.2.1.heap → va_Nw (.fieldLinkNest own index "TuesdayKnew" "ABOVE" "[I" "TuesdayKnew") X.2.2.2.2.1) (hd : decode cc pc = .ok (.getstatic index, 3)) (kk : Z X w I J (pc + 3) lv (.ref (zst w 0) :: rest)) : Z X w I J pc lv rest := by
  obtain ⟨p, l, e, R, s, m, args, below, meth, c, ⟨cells, slots⟩, Q, A⟩ := X
  obtain ⟨hx, hb, hts, hown, hK, hG, hA, hj, hlk, hR, hc1, hc2⟩ := C
  intro H locs ls hP hS hl
  exact va_getsN hx hb hG.1 hS hown (va_Nw.use rfl (hT hG)) (fun _ h => h) hd (kk H locs ls hP hS hl)
theorem z_tabi {t N : Nat} {f : Nat → Int32} (C : zOk X w cc own rm) (hT : zGG w X.2.2.2.2.2.2.2.2.2.2.2.2 X.2.2.2.2.1 X.2.2.2.2.1.heap → va_T .int (zst w t) N (fun j => .int (f j)) X.2.2.2.2.2.2.2.2.2.2.2.2 X.2.2.2.2.1 X.2.2.2.2.1.heap) (k : Nat) (hk : k < N) (hN : N < 2 ^ 31) {i : Int32} (hi : i = nI k) (hd : decode cc pc = .ok (.iaload, 1)) (kk : Z X w I J (pc + 1) lv (.int (f k) :: rest)) : Z X w I J pc lv (.int i :: .ref (zst w t) :: rest) := by
  obtain ⟨p, l, e, R, s, m, args, below, meth, c, ⟨cells, slots⟩, Q, A⟩ := X
  obtain ⟨hx, hb, hts, hown, hK, hG, hA, hj, hlk, hR, hc1, hc2⟩ := C
  intro H locs ls hP hS hl
  subst hi
  exact va_ti hx hb (hT hG) hS (vp_in_nI hk hN) (by show Value.int (f (nI k).toNatClampNeg) = _; rw [nI_clamp (by omega)]) hd (kk H locs ls hP hS hl)
/-- ends -/
theorem z_iret {ty : FieldType} {post : Option Value → zI → zJ → Prop} (C : zOk X w cc own rm) (hr : zRet X w (some ty) post) {x : Int32} (hn : narrow ty (.int x) = .int x) (hd : decode cc pc = .ok (.ireturn, 1)) (h : post (some (.int x)) I J) : Z X w I J pc lv [.int x] := by
  obtain ⟨p, l, e, R, s, m, args, below, meth, c, ⟨cells, slots⟩, Q, A⟩ := X
  obtain ⟨hx, hb, hts, hown, hK, hG, hA, hj, hlk, hR, hc1, hc2⟩ := C
  obtain ⟨rfl, hrt, rfl, rfl, rfl⟩ := hr
  intro H locs ls hP hS hl
  exact W.zret hx hb hrt hn (fun t ht hW => ⟨⟨_, I, J, rfl, h, by rw [ht]; exact hP⟩, hS.F ht⟩) hS.2.2 hd hlk
theorem z_lret {post : Option Value → zI → zJ → Prop} (C : zOk X w cc own rm) (hr : zRet X w (some .long) post) {x : Int64} (hd : decode cc pc = .ok (.lreturn, 1)) (h : post (some (.long x)) I J) : Z X w I J pc lv [.long x] := by
  obtain ⟨p, l, e, R, s, m, args, below, meth, c, ⟨cells, slots⟩, Q, A⟩ := X
  obtain ⟨hx, hb, hts, hown, hK, hG, hA, hj, hlk, hR, hc1, hc2⟩ := C
  obtain ⟨rfl, hrt, rfl, rfl, rfl⟩ := hr
  intro H locs ls hP hS hl
  exact W.lret hx hb hrt (fun t ht hW => ⟨⟨_, I, J, rfl, h, by rw [ht]; exact hP⟩, hS.F ht⟩) hS.2.2 hd hlk
theorem z_vret {post : Option Value → zI → zJ → Prop} (C : zOk X w cc own rm) (hr : zRet X w none post) (hd : decode cc pc = .ok (.return_, 1)) (h : post none I J) : Z X w I J pc lv [] := by
  obtain ⟨p, l, e, R, s, m, args, below, meth, c, ⟨cells, slots⟩, Q, A⟩ := X
  obtain ⟨hx, hb, hts, hown, hK, hG, hA, hj, hlk, hR, hc1, hc2⟩ := C
  obtain ⟨rfl, hrt, rfl, rfl, rfl⟩ := hr
  intro H locs ls hP hS hl
  exact W.vret hx hb hrt (fun t ht hW => ⟨⟨_, I, J, rfl, h, by rw [ht]; exact hP⟩, hS.F ht⟩) hS.2.2 hd hlk
theorem z_aret {n : String} {post : Option Value → zI → zJ → Prop} (C : zOk X w cc own rm) (hr : zRet X w (some (.object n)) post) {v : Value} (hv : v = .null ∨ ∃ a, v = .ref a) (hd : decode cc pc = .ok (.areturn, 1)) (h : post (some v) I J) : Z X w I J pc lv [v] := by
  obtain ⟨p, l, e, R, s, m, args, below, meth, c, ⟨cells, slots⟩, Q, A⟩ := X
  obtain ⟨hx, hb, hts, hown, hK, hG, hA, hj, hlk, hR, hc1, hc2⟩ := C
  obtain ⟨rfl, hrt, rfl, rfl, rfl⟩ := hr
  intro H locs ls hP hS hl
  exact W.aret hx hb hrt (Or.inl ⟨_, rfl⟩) hv (fun t ht hW => ⟨⟨_, I, J, rfl, h, by rw [ht]; exact hP⟩, hS.F ht⟩) hS.2.2 hd hlk
/-- calls -/
def zCl (own : String) (index : Nat) (y : MethodName) (cc : ByteArray) (maxL : Nat) (ret : Option FieldType) (n : Nat) : Prop := Cond.methodLink own index y ∈ zT ∧ Cond.initialized y.cls ∈ zT ∧ Cond.code y cc maxL ret ∈ zT ∧ (y.cls ≠ "java/lang/invoke/MethodHandle" ∧ y.cls ≠ "java/lang/invoke/VarHandle" ∧ (parseMethodDescriptor y.desc).map (fun d => d.parameters.length) = some n)
theorem zT_cons {y : MethodName} {bytes : ByteArray} {maxL : Nat} {ret : Option FieldType} (h : Cond.code y bytes maxL ret ∈ zT) : GoodIn zT (.code y bytes maxL ret :: zT) := fun t ht => (List.mem_cons.mp ht).elim (fun q => q ▸ zT_self _ h) (fun q => zT_self t q)
theorem zB_blind {As : List Value} {I0 : zI} {J0 : zJ} : FrameBlind (va_Pc As (zB w I0 J0)) := fun a U g mk q => by
  obtain ⟨q0, q1, q2, q3, q4⟩ := q
  exact ⟨q0, q1, va_K.moved (u := U) (U := U.calling g mk a) (Vm.Alike.refl U.vm) q2, q3.same rfl rfl, q4⟩
theorem zB_start {p : Program} {l : Launch} {e : Env} {R : Room} {s : State} {m : MethodId} {args : Array Value} {below : List Frame} {meth : Method} {c : Code} {cells slots : Nat} {Q : State → Prop} {A : Nat → Prop} (C : zOk (p, l, e, R, s, m, args, below, meth, c, (cells, slots), Q, A) w cc own rm) {H : Heap} {locs : List Loc} (hP : va_P w.1 vwCl (zws w I J) H) (hS : va_S A s.heap H locs) {U : State} (hU : U.heap = H) (hW : s.WarmedH U.vm) : zB w I J U := by
  obtain ⟨hx, hb, hts, hown, hK, hG, hA, hj, hlk, hR, hc1, hc2⟩ := C
  refine ⟨by rw [hU]; exact hP, va_K.moved hW.alike hK, ?_, hj⟩
  rw [hU]
  exact hG.kept hW hS.2.1 (fun q ⟨k, hk, e⟩ => e ▸ hA k hk)
theorem z_run {p : Program} {l : Launch} {e : Env} {R : Room} {s : State} {m : MethodId} {args : Array Value} {below : List Frame} {meth : Method} {c : Code} {H : Heap} {locs : List Loc} {cells slots : Nat} {Q : State → Prop} {A : Nat → Prop} {ls : Array Slot} {st : List Value} {a : Array Value} {post : Option Value → zI → zJ → Prop}
    (hr : va_Run p l e R s m args below meth c H locs cells slots 0 0 (F0 m pc ls st) rest (zQ w post a) (zFree w)) (hS : va_S A s.heap H locs) (hA : ∀ q, zFree w q → A q)
    (kk : ∀ r I' J' H1 locs1, post r I' J' → va_P w.1 vwCl (zws w I' J') H1 → va_S A s.heap H1 locs1 → W p l e R s m args below meth c H1 locs1 cells slots Q (F0 m (pc + 3) ls (r.toList ++ rest))) : W p l e R s m args below meth c H locs cells slots Q (F0 m pc ls st) := by
  intro T hT X
  obtain ⟨v, st₀, t, T', L, h0, X', hL, e1, e2, ⟨⟨r, I', J', hv, hp, hb⟩, hz, hk⟩, st⟩ := hr T hT X
  cases hv
  rw [h0] at hz hk
  obtain ⟨t2, a1, b1⟩ := kk v I' J' T'.heap (locs ++ L) hp (by rw [e1]; exact hb) ⟨Nat.le_trans hS.1 (by rw [e1]; exact hz), fun q h1 h2 => by rw [e1, hk q (Nat.lt_of_lt_of_le h1 hS.1) (fun z => h2 (hA q z))]; exact hS.2.1 q h1 h2, fun q hq => by
      rcases List.mem_append.mp hq with h | h
      · exact hS.2.2 q h
      · exact hA _ (hL q h)⟩ T' rfl X'
  exact ⟨t2, st t2 a1, b1⟩
theorem z_callV {index : Nat} {y : MethodName} {bytes : ByteArray} {maxL n : Nat} {ret : Option FieldType} {rmc : Room} {post : Option Value → zI → zJ → Prop} (C : zOk X w cc own rm) (hm : zML X c0) (hc : zCl own index y bytes maxL ret n) (hv : Cond.instanceMethod y ∈ zT ∧ Cond.selects y.cls y y ∈ zT) (a : Nat) (ha : a < zN) {ci : Nat} {fs : List (Nat × Nat)} (hs : zsh a = .inr (ci, fs)) (hcl : ∃ T N, vwCl[ci]? = some (y.cls, T, N)) (As : List Value) (hn : As.length = n) {st : List Value} (hst : st = As.reverse ++ .ref (zad w a) :: rest)
    (hM : zMet y bytes maxL ret rmc w (.ref (zad w a) :: As) I J post) (hrm : rmc.cells = 0 ∧ rmc.slots = 0 ∧ rmc.frames + 1 ≤ rm.frames ∧ 8 + (maxL + 11) + rmc.locals ≤ rm.locals) (hcat : (rest.map fun v => v.category).sum ≤ 8) (hd : decode cc pc = .ok (.invokevirtual index, 3))
    (kk : ∀ r I' J', post r I' J' → Z X w I' J' (pc + 3) lv (r.toList ++ rest)) : Z X w I J pc lv st := by
  obtain ⟨p, l, e, R, s, m, args, below, meth, c, ⟨cells, slots⟩, Q, A⟩ := X
  have C' := C
  obtain ⟨hx, hb, hts, hown, hK, hG, hA, hj, hlk, hR, hc1, hc2⟩ := C
  obtain ⟨g1, g2, g3, g4⟩ := hc
  obtain ⟨T, N, hcl⟩ := hcl
  intro H locs ls hP hS hl
  subst hR
  have hsz : ls.size = c0 := hl.1.trans hm
  refine z_run (va_runV (C := y.cls) (Ts := zT) (As := As) (rest := rest) (n := n) (nL := c0) ⟨hx, hb, hm, hown, hts⟩ (hM l) ⟨callB_of n hts (zT_cons g3) rfl hrm.1 hrm.2.1 (hts _ g2) (hts _ g1) g4 hrm.2.2, hts _ hv.1, hts _ hv.2⟩ ⟨zB_blind, ?_, fun U hU hW => ⟨rfl, zB_start C' hP hS hU hW⟩⟩ rfl hn hsz hst (lv_room hcat) hd ⟨hc1, hc2⟩) hS (fun q ⟨k, hk, e⟩ => e ▸ hA k hk) (fun r I' J' H1 locs1 hp hP1 hS1 => kk r I' J' hp H1 locs1 ls hP1 hS1 hl)
  exact va_recv hK hP (ci := ci) (q0 := a) (q := (y.cls, T, N)) hcl (fs := zfs w I J a 0 fs) (by rw [zws_at ha, hs]; rfl)
theorem z_callS {index : Nat} {y : MethodName} {bytes : ByteArray} {maxL n : Nat} {ret : Option FieldType} {rmc : Room} {post : Option Value → zI → zJ → Prop} (C : zOk X w cc own rm) (hm : zML X c0) (hc : zCl own index y bytes maxL ret n) (hv : Cond.static y ∈ zT) (As : List Value) (hn : As.length = n) {st : List Value} (hst : st = As.reverse ++ rest)
    (hM : zMet y bytes maxL ret rmc w As I J post) (hrm : rmc.cells = 0 ∧ rmc.slots = 0 ∧ rmc.frames + 1 ≤ rm.frames ∧ 8 + (maxL + 11) + rmc.locals ≤ rm.locals) (hcat : (rest.map fun v => v.category).sum ≤ 8) (hd : decode cc pc = .ok (.invokestatic index, 3))
    (kk : ∀ r I' J', post r I' J' → Z X w I' J' (pc + 3) lv (r.toList ++ rest)) : Z X w I J pc lv st := by
  obtain ⟨p, l, e, R, s, m, args, below, meth, c, ⟨cells, slots⟩, Q, A⟩ := X
  have C' := C
  obtain ⟨hx, hb, hts, hown, hK, hG, hA, hj, hlk, hR, hc1, hc2⟩ := C
  obtain ⟨g1, g2, g3, g4⟩ := hc
  intro H locs ls hP hS hl
  subst hR
  have hsz : ls.size = c0 := hl.1.trans hm
  exact z_run (va_runS (Ts := zT) (As := As) (rest := rest) (n := n) (nL := c0) ⟨hx, hb, hm, hown, hts⟩ (hM l) ⟨callB_of n hts (zT_cons g3) rfl hrm.1 hrm.2.1 (hts _ g2) (hts _ g1) g4 hrm.2.2, hts _ hv⟩ ⟨zB_blind, fun U hU hW => ⟨rfl, zB_start C' hP hS hU hW⟩⟩ rfl hn hsz hst (lv_room hcat) hd ⟨hc1, hc2⟩) hS (fun q ⟨k, hk, e⟩ => e ▸ hA k hk) (fun r I' J' H1 locs1 hp hP1 hS1 => kk r I' J' hp H1 locs1 ls hP1 hS1 hl)
/-- Math.max and min -/
theorem z_max {index : Nat} (C : zOk X w cc own rm) (hm : zML X c0) (h1 : Cond.methodLink own index Lib.Math.max.name ∈ zT) (h2 : Cond.static Lib.Math.max.name ∈ zT) (h3 : Cond.initialized "java/lang/Math" ∈ zT) (h4 : Cond.code Lib.Math.max.name Lib.Math.max.code 2 (some .int) ∈ zT) (hf : 1 ≤ rm.frames) (hlo : (rest.map fun v => v.category).sum + 13 ≤ rm.locals) {x y : Int32} (hd : decode cc pc = .ok (.invokestatic index, 3)) (kk : Z X w I J (pc + 3) lv (.int (if x < y then y else x) :: rest)) : Z X w I J pc lv (.int y :: .int x :: rest) := by
  obtain ⟨p, l, e, R, s, m, args, below, meth, c, ⟨cells, slots⟩, Q, A⟩ := X
  obtain ⟨hx, hb, hts, hown, hK, hG, hA, hj, hlk, hR, hc1, hc2⟩ := C
  intro H locs ls hP hS hl
  subst hR
  exact va_mmax hx hb hl.1.symm hown (hts _ h1) (hts _ h2) (hts _ h3) (hts _ h4) hf hlo hc1 hc2 hd (kk H locs ls hP hS hl)
theorem z_min {index : Nat} (C : zOk X w cc own rm) (hm : zML X c0) (h1 : Cond.methodLink own index Lib.Math.min.name ∈ zT) (h2 : Cond.static Lib.Math.min.name ∈ zT) (h3 : Cond.initialized "java/lang/Math" ∈ zT) (h4 : Cond.code Lib.Math.min.name Lib.Math.min.code 2 (some .int) ∈ zT) (hf : 1 ≤ rm.frames) (hlo : (rest.map fun v => v.category).sum + 13 ≤ rm.locals) {x y : Int32} (hd : decode cc pc = .ok (.invokestatic index, 3)) (kk : Z X w I J (pc + 3) lv (.int (if y < x then y else x) :: rest)) : Z X w I J pc lv (.int y :: .int x :: rest) := by
  obtain ⟨p, l, e, R, s, m, args, below, meth, c, ⟨cells, slots⟩, Q, A⟩ := X
  obtain ⟨hx, hb, hts, hown, hK, hG, hA, hj, hlk, hR, hc1, hc2⟩ := C
  intro H locs ls hP hS hl
  subst hR
  exact va_mmin hx hb hl.1.symm hown (hts _ h1) (hts _ h2) (hts _ h3) (hts _ h4) hf hlo hc1 hc2 hd (kk H locs ls hP hS hl)
theorem z_minl {index : Nat} (C : zOk X w cc own rm) (hm : zML X c0) (h1 : Cond.methodLink own index Lib.MathLoose.min_long.x ∈ zT) (h2 : Cond.static Lib.MathLoose.min_long.x ∈ zT) (h3 : Cond.initialized "java/lang/Math" ∈ zT) (h4 : Cond.code Lib.MathLoose.min_long.x Lib.MathLoose.min_long.code 4 (some .long) ∈ zT) (hf : 1 ≤ rm.frames) (hlo : (rest.map fun v => v.category).sum + 15 ≤ rm.locals) {x y : Int64} (hd : decode cc pc = .ok (.invokestatic index, 3)) (kk : Z X w I J (pc + 3) lv (.long (if y < x then y else x) :: rest)) : Z X w I J pc lv (.long y :: .long x :: rest) := by
  obtain ⟨p, l, e, R, s, m, args, below, meth, c, ⟨cells, slots⟩, Q, A⟩ := X
  obtain ⟨hx, hb, hts, hown, hK, hG, hA, hj, hlk, hR, hc1, hc2⟩ := C
  intro H locs ls hP hS hl
  subst hR
  exact va_mmin_long hx hb hl.1.symm hown (hts _ h1) (hts _ h2) (hts _ h3) (hts _ h4) hf hlo hc1 hc2 hd (kk H locs ls hP hS hl)
/-- System.arraycopy of ints, of longs -/
theorem z_copyi {index : Nat} (C : zOk X w cc own rm) (h1 : Cond.methodLink own index arraycopyName ∈ zT) (h2 : Cond.native arraycopyName ∈ zT) (h3 : Cond.static arraycopyName ∈ zT) (h4 : Cond.initialized "java/lang/System" ∈ zT) (a0 a : Nat) (ha0 : a0 < zN) (ha : a < zN) {n0 n1 : Nat} {r0 r1 : Nat → Option Nat} (hs0 : zsh a0 = .inl (0, n0, 0, r0)) (hs1 : zsh a = .inl (0, n1, 0, r1)) {sp dp n : Int32} (sp' dp' n' : Nat) (e1 : sp = nI sp') (e2 : dp = nI dp') (e3 : n = nI n') (b1 : sp' + n' ≤ n0) (b2 : dp' + n' ≤ n1) (b3 : n0 < 2 ^ 31) (b4 : n1 < 2 ^ 31)
    (hf : 1 ≤ rm.frames) (hlo : (rest.map fun v => v.category).sum + (nativeFrameWords "java/lang/System" "arraycopy" 5 + 11) ≤ rm.locals) (hd : decode cc pc = .ok (.invokestatic index, 3)) (kk : Z X w (zup I a (va_cpy (I a0) (I a) sp' dp' n')) J (pc + 3) lv rest) : Z X w I J pc lv (.int n :: .int dp :: .ref (zad w a) :: .int sp :: .ref (zad w a0) :: rest) := by
  obtain ⟨p, l, e, R, s, m, args, below, meth, c, ⟨cells, slots⟩, Q, A⟩ := X
  obtain ⟨hx, hb, hts, hown, hK, hG, hA, hj, hlk, hR, hc1, hc2⟩ := C
  intro H locs ls hP hS hl
  subst hR; subst e1; subst e2; subst e3
  refine va_copyi hx hb hl.1.symm hown (hts _ h1) (hts _ h2) (hts _ h3) (hts _ h4) hK hP (zD_of hA hj) hS a0 a 0 0 (a0 := zad w a0) (a := zad w a) (c0 := w.2.1 0) (c1 := w.2.1 0) (n0 := n0) (n1 := n1) (f := I a0) (g := I a) (ty := .int) (by rw [zws_at ha0, hs0]; rfl) (by rw [zws_at ha, hs1]; rfl) rfl rfl rfl (nI_pos (by omega)) (nI_pos (by omega)) (nI_pos (by omega)) (by rw [nI_clamp (by omega), nI_clamp (by omega)]; exact b1) (by rw [nI_clamp (by omega), nI_clamp (by omega)]; exact b2) (fun _ _ => rfl) hf hlo hd (fun H1 locs1 hP1 _ hS1 => kk H1 locs1 ls (zSet (A := A) ha ?_ (fun k hk => ⟨zup_n hk, rfl⟩) hP1) hS1 hl)
  rw [hs1, nI_clamp (by omega), nI_clamp (by omega), nI_clamp (by omega)]
  simp only [zE, zcont, zup_s]
theorem z_copyl {index : Nat} (C : zOk X w cc own rm) (h1 : Cond.methodLink own index arraycopyName ∈ zT) (h2 : Cond.native arraycopyName ∈ zT) (h3 : Cond.static arraycopyName ∈ zT) (h4 : Cond.initialized "java/lang/System" ∈ zT) (a0 a : Nat) (ha0 : a0 < zN) (ha : a < zN) {n0 n1 : Nat} {r0 r1 : Nat → Option Nat} (hs0 : zsh a0 = .inl (1, n0, 1, r0)) (hs1 : zsh a = .inl (1, n1, 1, r1)) {sp dp n : Int32} (sp' dp' n' : Nat) (e1 : sp = nI sp') (e2 : dp = nI dp') (e3 : n = nI n') (b1 : sp' + n' ≤ n0) (b2 : dp' + n' ≤ n1) (b3 : n0 < 2 ^ 31) (b4 : n1 < 2 ^ 31)
    (hf : 1 ≤ rm.frames) (hlo : (rest.map fun v => v.category).sum + (nativeFrameWords "java/lang/System" "arraycopy" 5 + 11) ≤ rm.locals) (hd : decode cc pc = .ok (.invokestatic index, 3)) (kk : Z X w I (zupJ J a (va_cpy (J a0) (J a) sp' dp' n')) (pc + 3) lv rest) : Z X w I J pc lv (.int n :: .int dp :: .ref (zad w a) :: .int sp :: .ref (zad w a0) :: rest) := by
  obtain ⟨p, l, e, R, s, m, args, below, meth, c, ⟨cells, slots⟩, Q, A⟩ := X
  obtain ⟨hx, hb, hts, hown, hK, hG, hA, hj, hlk, hR, hc1, hc2⟩ := C
  intro H locs ls hP hS hl
  subst hR; subst e1; subst e2; subst e3
  refine va_copyl hx hb hl.1.symm hown (hts _ h1) (hts _ h2) (hts _ h3) (hts _ h4) hK hP (zD_of hA hj) hS a0 a 1 1 (a0 := zad w a0) (a := zad w a) (c0 := w.2.1 1) (c1 := w.2.1 1) (n0 := n0) (n1 := n1) (f := J a0) (g := J a) (ty := .long) (by rw [zws_at ha0, hs0]; rfl) (by rw [zws_at ha, hs1]; rfl) rfl rfl rfl (nI_pos (by omega)) (nI_pos (by omega)) (nI_pos (by omega)) (by rw [nI_clamp (by omega), nI_clamp (by omega)]; exact b1) (by rw [nI_clamp (by omega), nI_clamp (by omega)]; exact b2) (fun _ _ => rfl) hf hlo hd (fun H1 locs1 hP1 _ hS1 => kk H1 locs1 ls (zSet (A := A) ha ?_ (fun k hk => ⟨rfl, zupJ_n hk⟩) hP1) hS1 hl)
  rw [hs1, nI_clamp (by omega), nI_clamp (by omega), nI_clamp (by omega)]
  simp only [zE, zcont, zupJ_s]
/-- reads by the field's sort -/
theorem z_geti {index ci j : Nat} {ty : FieldType} {fin : Bool} (C : zOk X w cc own rm) (F : zFd own index ci j ty fin) (a : Nat) (ha : a < zN) {fs : List (Nat × Nat)} (hs : zsh a = .inr (ci, fs)) (hf : fs[j]? = some (0, 0)) {v : Int32} (hv : I a j = v) (hd : decode cc pc = .ok (.getfield index, 3)) (kk : Z X w I J (pc + 3) lv (.int v :: rest)) : Z X w I J pc lv (.ref (zad w a) :: rest) := z_get C F a ha hs hf (by rw [← hv]; rfl) hd kk
theorem z_getl {index ci j : Nat} {ty : FieldType} {fin : Bool} (C : zOk X w cc own rm) (F : zFd own index ci j ty fin) (a : Nat) (ha : a < zN) {fs : List (Nat × Nat)} (hs : zsh a = .inr (ci, fs)) (hf : fs[j]? = some (1, 0)) {v : Int64} (hv : J a j = v) (hd : decode cc pc = .ok (.getfield index, 3)) (kk : Z X w I J (pc + 3) lv (.long v :: rest)) : Z X w I J pc lv (.ref (zad w a) :: rest) := z_get C F a ha hs hf (by rw [← hv]; rfl) hd kk
theorem z_getr {index ci j : Nat} {ty : FieldType} {fin : Bool} (C : zOk X w cc own rm) (F : zFd own index ci j ty fin) (a : Nat) (ha : a < zN) {fs : List (Nat × Nat)} (hs : zsh a = .inr (ci, fs)) {q : Nat} (hf : fs[j]? = some (2, q)) (hd : decode cc pc = .ok (.getfield index, 3)) (kk : Z X w I J (pc + 3) lv (.ref (zad w q) :: rest)) : Z X w I J pc lv (.ref (zad w a) :: rest) := z_get C F a ha hs hf rfl hd kk
theorem z_geth {index ci j : Nat} {ty : FieldType} {fin : Bool} (C : zOk X w cc own rm) (F : zFd own index ci j ty fin) (a : Nat) (ha : a < zN) {fs : List (Nat × Nat)} (hs : zsh a = .inr (ci, fs)) (hf : fs[j]? = some (3, 0)) {q : Nat} (hq : zhd (I a j) = q) (hd : decode cc pc = .ok (.getfield index, 3)) (kk : Z X w I J (pc + 3) lv (.ref (zad w q) :: rest)) : Z X w I J pc lv (.ref (zad w a) :: rest) := z_get C F a ha hs hf (by rw [← hq]; rfl) hd kk
/-- the same state under another name -/
theorem z_I {I' : zI} (h : I = I') (k : Z X w I' J pc lv rest) : Z X w I J pc lv rest := by subst h; exact k
theorem z_J {J' : zJ} (h : J = J') (k : Z X w I J' pc lv rest) : Z X w I J pc lv rest := by subst h; exact k
theorem z_ti {x y : Int32} (h : x = y) (k : Z X w I J pc lv (.int y :: rest)) : Z X w I J pc lv (.int x :: rest) := by subst h; exact k
theorem z_tl {x y : Int64} (h : x = y) (k : Z X w I J pc lv (.long y :: rest)) : Z X w I J pc lv (.long x :: rest) := by subst h; exact k
/-- answers by sort -/
theorem z_callVi {index : Nat} {y : MethodName} {bytes : ByteArray} {maxL n : Nat} {ret : Option FieldType} {rmc : Room} {f : Int32 → zI → zJ → Prop} (C : zOk X w cc own rm) (hm : zML X c0) (hc : zCl own index y bytes maxL ret n) (hv : Cond.instanceMethod y ∈ zT ∧ Cond.selects y.cls y y ∈ zT) (a : Nat) (ha : a < zN) {ci : Nat} {fs : List (Nat × Nat)} (hs : zsh a = .inr (ci, fs)) (hcl : ∃ T N, vwCl[ci]? = some (y.cls, T, N)) (As : List Value) (hn : As.length = n) {st : List Value} (hst : st = As.reverse ++ .ref (zad w a) :: rest)
    (hM : zMet y bytes maxL ret rmc w (.ref (zad w a) :: As) I J (zpi f)) (hrm : rmc.cells = 0 ∧ rmc.slots = 0 ∧ rmc.frames + 1 ≤ rm.frames ∧ 8 + (maxL + 11) + rmc.locals ≤ rm.locals) (hcat : (rest.map fun v => v.category).sum ≤ 8) (hd : decode cc pc = .ok (.invokevirtual index, 3))
    (kk : ∀ v I' J', f v I' J' → Z X w I' J' (pc + 3) lv (.int v :: rest)) : Z X w I J pc lv st := z_callV C hm hc hv a ha hs hcl As hn hst hM hrm hcat hd (fun r I' J' ⟨v, e, h⟩ => by subst e; exact kk v I' J' h)
theorem z_callVl {index : Nat} {y : MethodName} {bytes : ByteArray} {maxL n : Nat} {ret : Option FieldType} {rmc : Room} {f : Int64 → zI → zJ → Prop} (C : zOk X w cc own rm) (hm : zML X c0) (hc : zCl own index y bytes maxL ret n) (hv : Cond.instanceMethod y ∈ zT ∧ Cond.selects y.cls y y ∈ zT) (a : Nat) (ha : a < zN) {ci : Nat} {fs : List (Nat × Nat)} (hs : zsh a = .inr (ci, fs)) (hcl : ∃ T N, vwCl[ci]? = some (y.cls, T, N)) (As : List Value) (hn : As.length = n) {st : List Value} (hst : st = As.reverse ++ .ref (zad w a) :: rest)
    (hM : zMet y bytes maxL ret rmc w (.ref (zad w a) :: As) I J (zpl f)) (hrm : rmc.cells = 0 ∧ rmc.slots = 0 ∧ rmc.frames + 1 ≤ rm.frames ∧ 8 + (maxL + 11) + rmc.locals ≤ rm.locals) (hcat : (rest.map fun v => v.category).sum ≤ 8) (hd : decode cc pc = .ok (.invokevirtual index, 3))
    (kk : ∀ v I' J', f v I' J' → Z X w I' J' (pc + 3) lv (.long v :: rest)) : Z X w I J pc lv st := z_callV C hm hc hv a ha hs hcl As hn hst hM hrm hcat hd (fun r I' J' ⟨v, e, h⟩ => by subst e; exact kk v I' J' h)
theorem z_callVv {index : Nat} {y : MethodName} {bytes : ByteArray} {maxL n : Nat} {ret : Option FieldType} {rmc : Room} {f : zI → zJ → Prop} (C : zOk X w cc own rm) (hm : zML X c0) (hc : zCl own index y bytes maxL ret n) (hv : Cond.instanceMethod y ∈ zT ∧ Cond.selects y.cls y y ∈ zT) (a : Nat) (ha : a < zN) {ci : Nat} {fs : List (Nat × Nat)} (hs : zsh a = .inr (ci, fs)) (hcl : ∃ T N, vwCl[ci]? = some (y.cls, T, N)) (As : List Value) (hn : As.length = n) {st : List Value} (hst : st = As.reverse ++ .ref (zad w a) :: rest)
    (hM : zMet y bytes maxL ret rmc w (.ref (zad w a) :: As) I J (zpv f)) (hrm : rmc.cells = 0 ∧ rmc.slots = 0 ∧ rmc.frames + 1 ≤ rm.frames ∧ 8 + (maxL + 11) + rmc.locals ≤ rm.locals) (hcat : (rest.map fun v => v.category).sum ≤ 8) (hd : decode cc pc = .ok (.invokevirtual index, 3))
    (kk : ∀ I' J', f I' J' → Z X w I' J' (pc + 3) lv rest) : Z X w I J pc lv st := z_callV C hm hc hv a ha hs hcl As hn hst hM hrm hcat hd (fun r I' J' ⟨e, h⟩ => by subst e; exact kk I' J' h)
theorem z_callVr {index : Nat} {y : MethodName} {bytes : ByteArray} {maxL n : Nat} {ret : Option FieldType} {rmc : Room} {f : Value → zI → zJ → Prop} (C : zOk X w cc own rm) (hm : zML X c0) (hc : zCl own index y bytes maxL ret n) (hv : Cond.instanceMethod y ∈ zT ∧ Cond.selects y.cls y y ∈ zT) (a : Nat) (ha : a < zN) {ci : Nat} {fs : List (Nat × Nat)} (hs : zsh a = .inr (ci, fs)) (hcl : ∃ T N, vwCl[ci]? = some (y.cls, T, N)) (As : List Value) (hn : As.length = n) {st : List Value} (hst : st = As.reverse ++ .ref (zad w a) :: rest)
    (hM : zMet y bytes maxL ret rmc w (.ref (zad w a) :: As) I J (zpr f)) (hrm : rmc.cells = 0 ∧ rmc.slots = 0 ∧ rmc.frames + 1 ≤ rm.frames ∧ 8 + (maxL + 11) + rmc.locals ≤ rm.locals) (hcat : (rest.map fun v => v.category).sum ≤ 8) (hd : decode cc pc = .ok (.invokevirtual index, 3))
    (kk : ∀ v I' J', f v I' J' → Z X w I' J' (pc + 3) lv (v :: rest)) : Z X w I J pc lv st := z_callV C hm hc hv a ha hs hcl As hn hst hM hrm hcat hd (fun r I' J' ⟨v, e, h⟩ => by subst e; exact kk v I' J' h)
theorem z_callSi {index : Nat} {y : MethodName} {bytes : ByteArray} {maxL n : Nat} {ret : Option FieldType} {rmc : Room} {f : Int32 → zI → zJ → Prop} (C : zOk X w cc own rm) (hm : zML X c0) (hc : zCl own index y bytes maxL ret n) (hv : Cond.static y ∈ zT) (As : List Value) (hn : As.length = n) {st : List Value} (hst : st = As.reverse ++ rest)
    (hM : zMet y bytes maxL ret rmc w As I J (zpi f)) (hrm : rmc.cells = 0 ∧ rmc.slots = 0 ∧ rmc.frames + 1 ≤ rm.frames ∧ 8 + (maxL + 11) + rmc.locals ≤ rm.locals) (hcat : (rest.map fun v => v.category).sum ≤ 8) (hd : decode cc pc = .ok (.invokestatic index, 3))
    (kk : ∀ v I' J', f v I' J' → Z X w I' J' (pc + 3) lv (.int v :: rest)) : Z X w I J pc lv st := z_callS C hm hc hv As hn hst hM hrm hcat hd (fun r I' J' ⟨v, e, h⟩ => by subst e; exact kk v I' J' h)
theorem z_callSl {index : Nat} {y : MethodName} {bytes : ByteArray} {maxL n : Nat} {ret : Option FieldType} {rmc : Room} {f : Int64 → zI → zJ → Prop} (C : zOk X w cc own rm) (hm : zML X c0) (hc : zCl own index y bytes maxL ret n) (hv : Cond.static y ∈ zT) (As : List Value) (hn : As.length = n) {st : List Value} (hst : st = As.reverse ++ rest)
    (hM : zMet y bytes maxL ret rmc w As I J (zpl f)) (hrm : rmc.cells = 0 ∧ rmc.slots = 0 ∧ rmc.frames + 1 ≤ rm.frames ∧ 8 + (maxL + 11) + rmc.locals ≤ rm.locals) (hcat : (rest.map fun v => v.category).sum ≤ 8) (hd : decode cc pc = .ok (.invokestatic index, 3))
    (kk : ∀ v I' J', f v I' J' → Z X w I' J' (pc + 3) lv (.long v :: rest)) : Z X w I J pc lv st := z_callS C hm hc hv As hn hst hM hrm hcat hd (fun r I' J' ⟨v, e, h⟩ => by subst e; exact kk v I' J' h)
theorem z_callSv {index : Nat} {y : MethodName} {bytes : ByteArray} {maxL n : Nat} {ret : Option FieldType} {rmc : Room} {f : zI → zJ → Prop} (C : zOk X w cc own rm) (hm : zML X c0) (hc : zCl own index y bytes maxL ret n) (hv : Cond.static y ∈ zT) (As : List Value) (hn : As.length = n) {st : List Value} (hst : st = As.reverse ++ rest)
    (hM : zMet y bytes maxL ret rmc w As I J (zpv f)) (hrm : rmc.cells = 0 ∧ rmc.slots = 0 ∧ rmc.frames + 1 ≤ rm.frames ∧ 8 + (maxL + 11) + rmc.locals ≤ rm.locals) (hcat : (rest.map fun v => v.category).sum ≤ 8) (hd : decode cc pc = .ok (.invokestatic index, 3))
    (kk : ∀ I' J', f I' J' → Z X w I' J' (pc + 3) lv rest) : Z X w I J pc lv st := z_callS C hm hc hv As hn hst hM hrm hcat hd (fun r I' J' ⟨e, h⟩ => by subst e; exact kk I' J' h)
theorem z_callSr {index : Nat} {y : MethodName} {bytes : ByteArray} {maxL n : Nat} {ret : Option FieldType} {rmc : Room} {f : Value → zI → zJ → Prop} (C : zOk X w cc own rm) (hm : zML X c0) (hc : zCl own index y bytes maxL ret n) (hv : Cond.static y ∈ zT) (As : List Value) (hn : As.length = n) {st : List Value} (hst : st = As.reverse ++ rest)
    (hM : zMet y bytes maxL ret rmc w As I J (zpr f)) (hrm : rmc.cells = 0 ∧ rmc.slots = 0 ∧ rmc.frames + 1 ≤ rm.frames ∧ 8 + (maxL + 11) + rmc.locals ≤ rm.locals) (hcat : (rest.map fun v => v.category).sum ≤ 8) (hd : decode cc pc = .ok (.invokestatic index, 3))
    (kk : ∀ v I' J', f v I' J' → Z X w I' J' (pc + 3) lv (v :: rest)) : Z X w I J pc lv st := z_callS C hm hc hv As hn hst hM hrm hcat hd (fun r I' J' ⟨v, e, h⟩ => by subst e; exact kk v I' J' h)
/-- branches: on a truth told as a number; on numbers told as naturals -/
theorem z_ifeq_b {P : Prop} {off : Int} {tgt : Nat} (C : zOk X w cc own rm) (hd : decode cc pc = .ok (.ifCond .eq off, 3)) (ht : (pc : Int) + off = (tgt : Int)) (kt : ¬ P → Z X w I J tgt lv rest) (kf : P → Z X w I J (pc + 3) lv rest) : Z X w I J pc lv (.int (bI P) :: rest) := z_if_eq C hd ht (fun h => kt (bI_0.mp h)) (fun h => kf (bI_1.mp h))
theorem z_ifne_b {P : Prop} {off : Int} {tgt : Nat} (C : zOk X w cc own rm) (hd : decode cc pc = .ok (.ifCond .ne off, 3)) (ht : (pc : Int) + off = (tgt : Int)) (kt : P → Z X w I J tgt lv rest) (kf : ¬ P → Z X w I J (pc + 3) lv rest) : Z X w I J pc lv (.int (bI P) :: rest) := z_if_ne C hd ht (fun h => kt (bI_1.mp h)) (fun h => kf (bI_0.mp h))
theorem z_icmp_eq_n (a b : Nat) {off : Int} {tgt : Nat} (C : zOk X w cc own rm) {x y : Int32} (hx : x = nI a) (hy : y = nI b) (ha : a < 2 ^ 31) (hb : b < 2 ^ 31) (hd : decode cc pc = .ok (.if_icmp .eq off, 3)) (ht : (pc : Int) + off = (tgt : Int)) (kt : a = b → Z X w I J tgt lv rest) (kf : a ≠ b → Z X w I J (pc + 3) lv rest) : Z X w I J pc lv (.int y :: .int x :: rest) := by
  subst hx; subst hy
  refine z_icmp_eq C hd ht (fun h => kt ?_) (fun h => kf ?_)
  · first | exact (nI_eq ha hb).mp h | exact fun q => h (by rw [q]) | exact (nI_ltI ha hb).mp h | exact (nI_ltI hb ha).mp h | exact (nI_leI ha hb).mp h | exact (nI_leI hb ha).mp h
  · first | exact (nI_eq ha hb).mp h | exact fun q => h (by rw [q]) | exact Classical.not_not.mp (fun q => h (fun z => q ((nI_eq ha hb).mp z))) | exact Nat.not_lt.mp (fun q => h ((nI_ltI ha hb).mpr q)) | exact Nat.not_lt.mp (fun q => h ((nI_ltI hb ha).mpr q)) | exact Nat.not_le.mp (fun q => h ((nI_leI ha hb).mpr q)) | exact Nat.not_le.mp (fun q => h ((nI_leI hb ha).mpr q))
theorem z_icmp_ne_n (a b : Nat) {off : Int} {tgt : Nat} (C : zOk X w cc own rm) {x y : Int32} (hx : x = nI a) (hy : y = nI b) (ha : a < 2 ^ 31) (hb : b < 2 ^ 31) (hd : decode cc pc = .ok (.if_icmp .ne off, 3)) (ht : (pc : Int) + off = (tgt : Int)) (kt : a ≠ b → Z X w I J tgt lv rest) (kf : a = b → Z X w I J (pc + 3) lv rest) : Z X w I J pc lv (.int y :: .int x :: rest) := by
  subst hx; subst hy
  refine z_icmp_ne C hd ht (fun h => kt ?_) (fun h => kf ?_)
  · first | exact (nI_eq ha hb).mp h | exact fun q => h (by rw [q]) | exact (nI_ltI ha hb).mp h | exact (nI_ltI hb ha).mp h | exact (nI_leI ha hb).mp h | exact (nI_leI hb ha).mp h
  · first | exact (nI_eq ha hb).mp h | exact fun q => h (by rw [q]) | exact Classical.not_not.mp (fun q => h (fun z => q ((nI_eq ha hb).mp z))) | exact Nat.not_lt.mp (fun q => h ((nI_ltI ha hb).mpr q)) | exact Nat.not_lt.mp (fun q => h ((nI_ltI hb ha).mpr q)) | exact Nat.not_le.mp (fun q => h ((nI_leI ha hb).mpr q)) | exact Nat.not_le.mp (fun q => h ((nI_leI hb ha).mpr q))
theorem z_icmp_lt_n (a b : Nat) {off : Int} {tgt : Nat} (C : zOk X w cc own rm) {x y : Int32} (hx : x = nI a) (hy : y = nI b) (ha : a < 2 ^ 31) (hb : b < 2 ^ 31) (hd : decode cc pc = .ok (.if_icmp .lt off, 3)) (ht : (pc : Int) + off = (tgt : Int)) (kt : a < b → Z X w I J tgt lv rest) (kf : b ≤ a → Z X w I J (pc + 3) lv rest) : Z X w I J pc lv (.int y :: .int x :: rest) := by
  subst hx; subst hy
  refine z_icmp_lt C hd ht (fun h => kt ?_) (fun h => kf ?_)
  · first | exact (nI_eq ha hb).mp h | exact fun q => h (by rw [q]) | exact (nI_ltI ha hb).mp h | exact (nI_ltI hb ha).mp h | exact (nI_leI ha hb).mp h | exact (nI_leI hb ha).mp h
  · first | exact (nI_eq ha hb).mp h | exact fun q => h (by rw [q]) | exact Classical.not_not.mp (fun q => h (fun z => q ((nI_eq ha hb).mp z))) | exact Nat.not_lt.mp (fun q => h ((nI_ltI ha hb).mpr q)) | exact Nat.not_lt.mp (fun q => h ((nI_ltI hb ha).mpr q)) | exact Nat.not_le.mp (fun q => h ((nI_leI ha hb).mpr q)) | exact Nat.not_le.mp (fun q => h ((nI_leI hb ha).mpr q))
theorem z_icmp_ge_n (a b : Nat) {off : Int} {tgt : Nat} (C : zOk X w cc own rm) {x y : Int32} (hx : x = nI a) (hy : y = nI b) (ha : a < 2 ^ 31) (hb : b < 2 ^ 31) (hd : decode cc pc = .ok (.if_icmp .ge off, 3)) (ht : (pc : Int) + off = (tgt : Int)) (kt : b ≤ a → Z X w I J tgt lv rest) (kf : a < b → Z X w I J (pc + 3) lv rest) : Z X w I J pc lv (.int y :: .int x :: rest) := by
  subst hx; subst hy
  refine z_icmp_ge C hd ht (fun h => kt ?_) (fun h => kf ?_)
  · first | exact (nI_eq ha hb).mp h | exact fun q => h (by rw [q]) | exact (nI_ltI ha hb).mp h | exact (nI_ltI hb ha).mp h | exact (nI_leI ha hb).mp h | exact (nI_leI hb ha).mp h
  · first | exact (nI_eq ha hb).mp h | exact fun q => h (by rw [q]) | exact Classical.not_not.mp (fun q => h (fun z => q ((nI_eq ha hb).mp z))) | exact Nat.not_lt.mp (fun q => h ((nI_ltI ha hb).mpr q)) | exact Nat.not_lt.mp (fun q => h ((nI_ltI hb ha).mpr q)) | exact Nat.not_le.mp (fun q => h ((nI_leI ha hb).mpr q)) | exact Nat.not_le.mp (fun q => h ((nI_leI hb ha).mpr q))
theorem z_icmp_gt_n (a b : Nat) {off : Int} {tgt : Nat} (C : zOk X w cc own rm) {x y : Int32} (hx : x = nI a) (hy : y = nI b) (ha : a < 2 ^ 31) (hb : b < 2 ^ 31) (hd : decode cc pc = .ok (.if_icmp .gt off, 3)) (ht : (pc : Int) + off = (tgt : Int)) (kt : b < a → Z X w I J tgt lv rest) (kf : a ≤ b → Z X w I J (pc + 3) lv rest) : Z X w I J pc lv (.int y :: .int x :: rest) := by
  subst hx; subst hy
  refine z_icmp_gt C hd ht (fun h => kt ?_) (fun h => kf ?_)
  · first | exact (nI_eq ha hb).mp h | exact fun q => h (by rw [q]) | exact (nI_ltI ha hb).mp h | exact (nI_ltI hb ha).mp h | exact (nI_leI ha hb).mp h | exact (nI_leI hb ha).mp h
  · first | exact (nI_eq ha hb).mp h | exact fun q => h (by rw [q]) | exact Classical.not_not.mp (fun q => h (fun z => q ((nI_eq ha hb).mp z))) | exact Nat.not_lt.mp (fun q => h ((nI_ltI ha hb).mpr q)) | exact Nat.not_lt.mp (fun q => h ((nI_ltI hb ha).mpr q)) | exact Nat.not_le.mp (fun q => h ((nI_leI ha hb).mpr q)) | exact Nat.not_le.mp (fun q => h ((nI_leI hb ha).mpr q))
theorem z_icmp_le_n (a b : Nat) {off : Int} {tgt : Nat} (C : zOk X w cc own rm) {x y : Int32} (hx : x = nI a) (hy : y = nI b) (ha : a < 2 ^ 31) (hb : b < 2 ^ 31) (hd : decode cc pc = .ok (.if_icmp .le off, 3)) (ht : (pc : Int) + off = (tgt : Int)) (kt : a ≤ b → Z X w I J tgt lv rest) (kf : b < a → Z X w I J (pc + 3) lv rest) : Z X w I J pc lv (.int y :: .int x :: rest) := by
  subst hx; subst hy
  refine z_icmp_le C hd ht (fun h => kt ?_) (fun h => kf ?_)
  · first | exact (nI_eq ha hb).mp h | exact fun q => h (by rw [q]) | exact (nI_ltI ha hb).mp h | exact (nI_ltI hb ha).mp h | exact (nI_leI ha hb).mp h | exact (nI_leI hb ha).mp h
  · first | exact (nI_eq ha hb).mp h | exact fun q => h (by rw [q]) | exact Classical.not_not.mp (fun q => h (fun z => q ((nI_eq ha hb).mp z))) | exact Nat.not_lt.mp (fun q => h ((nI_ltI ha hb).mpr q)) | exact Nat.not_lt.mp (fun q => h ((nI_ltI hb ha).mpr q)) | exact Nat.not_le.mp (fun q => h ((nI_leI ha hb).mpr q)) | exact Nat.not_le.mp (fun q => h ((nI_leI hb ha).mpr q))
end ZROWS
