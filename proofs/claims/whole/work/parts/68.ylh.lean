/-! the world at the start: its places -/
def zI0 : Nat → Nat → Int32 := fun a => match a with
  | 7 => zfill (-5) (fun _ => 0) 8
  | 16 => zfill (-5) (fun _ => 0) 8
  | 35 => upd (fun _ => 0) 0 (-1)
  | 37 => upd (fun _ => 0) 0 (-1)
  | 39 => upd (fun _ => 0) 0 (-1)
  | 41 => upd (fun _ => 0) 0 (-1)
  | 43 => upd (fun _ => 0) 0 (-1)
  | 45 => upd (fun _ => 0) 0 (-1)
  | 82 => upd (upd (upd (fun _ => 0) 5 (-1)) 25 9) 41 (-1)
  | 85 => upd (upd (upd (upd (upd (upd (upd (upd (fun _ => 0) 0 (-1)) 1 (-1)) 2 (-1)) 3 (-1)) 4 (-1)) 5 (-1)) 6 (-1)) 7 (-1)
  | 119 => upd (upd (upd (upd (upd (upd (fun _ => 0) 0 (-1)) 1 (-1)) 2 (-1)) 3 (-1)) 4 (-1)) 5 (-1)
  | _ => fun _ => 0
def zJ0 : Nat → Nat → Int64 := fun a => match a with
  | 82 => fun _ => 1
  | _ => fun _ => 0
def zPi : List Nat := [0, 0, 1, 2, 3, 63, 64, 65, 66, 67, 68, 69, 70, 71, 72, 73, 74, 75, 76, 77, 78, 79, 80, 4, 5, 6, 7, 8, 9, 10, 11, 12, 13, 14, 15, 51, 52, 53, 54, 55, 56, 57, 58, 59, 60, 61, 62, 16, 17, 18, 19, 20, 21, 22, 23, 24, 25, 26, 27, 28, 29, 30, 31, 32, 33, 34, 35, 36, 37, 38, 39, 40, 41, 42, 43, 44, 45, 46, 47, 48, 49, 50]
def zAdr (h7 h8 : Nat) (q7 q8 : Nat → Nat) (a : Nat) : Nat := if a = 0 then h7 else if a < 82 then q7 (List.getD zPi a 0) else if a = 82 then h8 else q8 (a - 83)
def zIx : List Nat := [0, 1, 2, 3, 4, 64, 65, 72, 66, 67, 68, 69, 70, 71, 73, 74, 81, 75, 76, 77, 78, 79, 80, 5, 6, 7, 8, 9, 10, 11, 12, 13, 14, 15, 16, 52, 53, 54, 55, 56, 57, 58, 59, 60, 61, 62, 63, 17, 18, 19, 20, 21, 22, 23, 24, 25, 26, 27, 28, 29, 30, 31, 32, 33, 34, 35, 36, 37, 38, 39, 40, 41, 42, 43, 44, 45, 46, 47, 48, 49, 50, 51, 82, 83, 84, 85, 86, 87, 88, 89, 90, 91, 92, 93, 94, 95, 96, 97, 98, 99, 100, 101, 102, 103, 104, 105, 106, 107, 108, 109, 110, 111, 112, 113, 114, 115, 116, 117, 118, 119, 120, 121, 122]
set_option maxRecDepth 100000 in
set_option maxHeartbeats 2000000 in
theorem z0_at (D : va_G) (ct : Nat → ClassId) (h7 h8 : Nat) (q7 q8 tx tr sts : Nat → Nat) : ∀ k, k < 123 → k ≠ 4 → k ≠ 34 → (F_X7_init ct h7 q7 ++ F_X8_init ct h8 q8)[List.getD zIx k 0]? = some (zad (D, ct, zAdr h7 h8 q7 q8, tx, tr, sts) k, zE (D, ct, zAdr h7 h8 q7 q8, tx, tr, sts) zI0 zJ0 k (zsh k)) := fun k hk n4 n34 => by
  match k, hk, n4, n34 with
  | 0, _, _, _ => rfl
  | 1, _, _, _ => rfl
  | 2, _, _, _ => rfl
  | 3, _, _, _ => rfl
  | 4, _, h, _ => exact absurd rfl h
  | 5, _, _, _ => rfl
  | 6, _, _, _ => rfl
  | 7, _, _, _ => rfl
  | 8, _, _, _ => rfl
  | 9, _, _, _ => rfl
  | 10, _, _, _ => rfl
  | 11, _, _, _ => rfl
  | 12, _, _, _ => rfl
  | 13, _, _, _ => rfl
  | 14, _, _, _ => rfl
  | 15, _, _, _ => rfl
  | 16, _, _, _ => rfl
  | 17, _, _, _ => rfl
  | 18, _, _, _ => rfl
  | 19, _, _, _ => rfl
  | 20, _, _, _ => rfl
  | 21, _, _, _ => rfl
  | 22, _, _, _ => rfl
  | 23, _, _, _ => rfl
  | 24, _, _, _ => rfl
  | 25, _, _, _ => rfl
  | 26, _, _, _ => rfl
  | 27, _, _, _ => rfl
  | 28, _, _, _ => rfl
  | 29, _, _, _ => rfl
  | 30, _, _, _ => rfl
  | 31, _, _, _ => rfl
  | 32, _, _, _ => rfl
  | 33, _, _, _ => rfl
  | 34, _, _, h => exact absurd rfl h
  | 35, _, _, _ => rfl
  | 36, _, _, _ => rfl
  | 37, _, _, _ => rfl
  | 38, _, _, _ => rfl
  | 39, _, _, _ => rfl
  | 40, _, _, _ => rfl
  | 41, _, _, _ => rfl
  | 42, _, _, _ => rfl
  | 43, _, _, _ => rfl
  | 44, _, _, _ => rfl
  | 45, _, _, _ => rfl
  | 46, _, _, _ => rfl
  | 47, _, _, _ => rfl
  | 48, _, _, _ => rfl
  | 49, _, _, _ => rfl
  | 50, _, _, _ => rfl
  | 51, _, _, _ => rfl
  | 52, _, _, _ => rfl
  | 53, _, _, _ => rfl
  | 54, _, _, _ => rfl
  | 55, _, _, _ => rfl
  | 56, _, _, _ => rfl
  | 57, _, _, _ => rfl
  | 58, _, _, _ => rfl
  | 59, _, _, _ => rfl
  | 60, _, _, _ => rfl
  | 61, _, _, _ => rfl
  | 62, _, _, _ => rfl
  | 63, _, _, _ => rfl
  | 64, _, _, _ => rfl
  | 65, _, _, _ => rfl
  | 66, _, _, _ => rfl
  | 67, _, _, _ => rfl
  | 68, _, _, _ => rfl
  | 69, _, _, _ => rfl
  | 70, _, _, _ => rfl
  | 71, _, _, _ => rfl
  | 72, _, _, _ => rfl
  | 73, _, _, _ => rfl
  | 74, _, _, _ => rfl
  | 75, _, _, _ => rfl
  | 76, _, _, _ => rfl
  | 77, _, _, _ => rfl
  | 78, _, _, _ => rfl
  | 79, _, _, _ => rfl
  | 80, _, _, _ => rfl
  | 81, _, _, _ => rfl
  | 82, _, _, _ => rfl
  | 83, _, _, _ => rfl
  | 84, _, _, _ => rfl
  | 85, _, _, _ => rfl
  | 86, _, _, _ => rfl
  | 87, _, _, _ => rfl
  | 88, _, _, _ => rfl
  | 89, _, _, _ => rfl
  | 90, _, _, _ => rfl
  | 91, _, _, _ => rfl
  | 92, _, _, _ => rfl
  | 93, _, _, _ => rfl
  | 94, _, _, _ => rfl
  | 95, _, _, _ => rfl
  | 96, _, _, _ => rfl
  | 97, _, _, _ => rfl
  | 98, _, _, _ => rfl
  | 99, _, _, _ => rfl
  | 100, _, _, _ => rfl
  | 101, _, _, _ => rfl
  | 102, _, _, _ => rfl
  | 103, _, _, _ => rfl
  | 104, _, _, _ => rfl
  | 105, _, _, _ => rfl
  | 106, _, _, _ => rfl
  | 107, _, _, _ => rfl
  | 108, _, _, _ => rfl
  | 109, _, _, _ => rfl
  | 110, _, _, _ => rfl
  | 111, _, _, _ => rfl
  | 112, _, _, _ => rfl
  | 113, _, _, _ => rfl
  | 114, _, _, _ => rfl
  | 115, _, _, _ => rfl
  | 116, _, _, _ => rfl
  | 117, _, _, _ => rfl
  | 118, _, _, _ => rfl
  | 119, _, _, _ => rfl
  | 120, _, _, _ => rfl
  | 121, _, _, _ => rfl
  | 122, _, _, _ => rfl
  | k + 123, h, _, _ => exact absurd h (by omega)
set_option maxRecDepth 100000 in
set_option maxHeartbeats 1000000 in
theorem z0_at4 (D : va_G) (ct : Nat → ClassId) (h7 h8 : Nat) (q7 q8 tx tr sts : Nat → Nat) : ∃ f : Nat → Option Nat, (F_X7_init ct h7 q7 ++ F_X8_init ct h8 q8)[List.getD zIx 4 0]? = some (zad (D, ct, zAdr h7 h8 q7 q8, tx, tr, sts) 4, .inl (ct 3, 7, .inr (.inr (.inr (.inr f))))) ∧ ∀ i, i < 7 → f i = some (zad (D, ct, zAdr h7 h8 q7 q8, tx, tr, sts) (47 + 5 * i)) := ⟨_, rfl, fun i hi => by
  match i, hi with
  | 0, _ => rfl
  | 1, _ => rfl
  | 2, _ => rfl
  | 3, _ => rfl
  | 4, _ => rfl
  | 5, _ => rfl
  | 6, _ => rfl⟩
set_option maxRecDepth 100000 in
set_option maxHeartbeats 1000000 in
theorem z0_at34 (D : va_G) (ct : Nat → ClassId) (h7 h8 : Nat) (q7 q8 tx tr sts : Nat → Nat) : ∃ f : Nat → Option Nat, (F_X7_init ct h7 q7 ++ F_X8_init ct h8 q8)[List.getD zIx 34 0]? = some (zad (D, ct, zAdr h7 h8 q7 q8, tx, tr, sts) 34, .inl (ct 4, 6, .inr (.inr (.inr (.inr f))))) ∧ ∀ i, i < 6 → f i = some (zad (D, ct, zAdr h7 h8 q7 q8, tx, tr, sts) (35 + 2 * i)) := ⟨_, rfl, fun i hi => by
  match i, hi with
  | 0, _ => rfl
  | 1, _ => rfl
  | 2, _ => rfl
  | 3, _ => rfl
  | 4, _ => rfl
  | 5, _ => rfl⟩
theorem z0_nd : va_nd ((List.range 123).map (fun k => List.getD zIx k 0)) = true := by decide +kernel
theorem arrV_q {cA : ClassId} {n : Nat} {f g : Nat → Option Nat} (h : ∀ i, i < n → f i = g i) : vp_cell cA (n, .inr (.inr (.inr (.inr f)))) = vp_cell cA (n, .inr (.inr (.inr (.inr g)))) := by
  rw [vp_cell_q, vp_cell_q]
  unfold arrV
  congr 1
  congr 1
  funext j
  show va_rf (f j.val) = va_rf (g j.val)
  rw [h j.val j.isLt]
/-- both constructors' cells are the world's -/
theorem z0_P {D : va_G} {ct : Nat → ClassId} {h7 h8 : Nat} {q7 q8 tx tr sts : Nat → Nat} {H : Heap} (hP : va_P D vwCl (F_X7_init ct h7 q7 ++ F_X8_init ct h8 q8) H) : va_P D vwCl (zws (D, ct, zAdr h7 h8 q7 q8, tx, tr, sts) zI0 zJ0) H := by
  intro k q hk
  obtain ⟨hk1, rfl⟩ := zws_of hk
  by_cases e4 : k = 4
  · subst e4
    obtain ⟨f, h1, h2⟩ := z0_at4 D ct h7 h8 q7 q8 tx tr sts
    have h3 : H[zad (D, ct, zAdr h7 h8 q7 q8, tx, tr, sts) 4]? = some (vp_cell (ct 3) (7, .inr (.inr (.inr (.inr f))))) := hP _ _ h1
    rw [arrV_q h2] at h3
    exact h3
  · by_cases e34 : k = 34
    · subst e34
      obtain ⟨f, h1, h2⟩ := z0_at34 D ct h7 h8 q7 q8 tx tr sts
      have h3 : H[zad (D, ct, zAdr h7 h8 q7 q8, tx, tr, sts) 34]? = some (vp_cell (ct 4) (6, .inr (.inr (.inr (.inr f))))) := hP _ _ h1
      rw [arrV_q h2] at h3
      exact h3
    · exact hP _ _ (z0_at D ct h7 h8 q7 q8 tx tr sts k hk1 e4 e34)
theorem z0_some {D : va_G} {ct : Nat → ClassId} {h7 h8 : Nat} {q7 q8 tx tr sts : Nat → Nat} {k : Nat} (hk : k < 123) : ∃ e, (F_X7_init ct h7 q7 ++ F_X8_init ct h8 q8)[List.getD zIx k 0]? = some (zad (D, ct, zAdr h7 h8 q7 q8, tx, tr, sts) k, e) := by
  by_cases e4 : k = 4
  · subst e4
    obtain ⟨f, h1, _⟩ := z0_at4 D ct h7 h8 q7 q8 tx tr sts
    exact ⟨_, h1⟩
  · by_cases e34 : k = 34
    · subst e34
      obtain ⟨f, h1, _⟩ := z0_at34 D ct h7 h8 q7 q8 tx tr sts
      exact ⟨_, h1⟩
    · exact ⟨_, z0_at D ct h7 h8 q7 q8 tx tr sts k hk e4 e34⟩
theorem z0_D {A : Nat → Prop} {D : va_G} {ct : Nat → ClassId} {h7 h8 : Nat} {q7 q8 tx tr sts : Nat → Nat} (hD : va_D A (F_X7_init ct h7 q7 ++ F_X8_init ct h8 q8)) : zInj (D, ct, zAdr h7 h8 q7 q8, tx, tr, sts) ∧ ∀ k, k < zN → A (zad (D, ct, zAdr h7 h8 q7 q8, tx, tr, sts) k) := by
  refine ⟨fun i j hi hj e => ?_, fun k hk => ?_⟩
  · obtain ⟨e1, h1⟩ := z0_some (D := D) (ct := ct) (h7 := h7) (h8 := h8) (q7 := q7) (q8 := q8) (tx := tx) (tr := tr) (sts := sts) hi
    obtain ⟨e2, h2⟩ := z0_some (D := D) (ct := ct) (h7 := h7) (h8 := h8) (q7 := q7) (q8 := q8) (tx := tx) (tr := tr) (sts := sts) hj
    have h3 := hD.1 _ _ _ _ h1 h2 e
    have g : ∀ k, k < 123 → ((List.range 123).map (fun k => List.getD zIx k 0))[k]? = some (List.getD zIx k 0) := fun k hk => by
      rw [List.getElem?_map, List.getElem?_range hk]
      rfl
    exact va_nd_inj _ z0_nd i j (List.getD zIx i 0) (g i hi) (by rw [h3]; exact g j hj)
  · obtain ⟨e1, h1⟩ := z0_some (D := D) (ct := ct) (h7 := h7) (h8 := h8) (q7 := q7) (q8 := q8) (tx := tx) (tr := tr) (sts := sts) hk
    exact hD.2 _ _ h1
