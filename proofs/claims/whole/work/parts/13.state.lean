section KW
/-- what an object of the system holds: field F, of the thing i, at the place j -/
abbrev kS : Type := Nat → Nat → Nat → Int32
def ku (u : kS) (F i j : Nat) (v : Int32) : kS := fun F' i' j' => if F' = F ∧ i' = i ∧ j' = j then v else u F' i' j'
theorem ku_s (u : kS) (F i j : Nat) (v : Int32) : ku u F i j v F i j = v := by simp [ku]
theorem ku_F {u : kS} {F F' i j i' j' : Nat} {v : Int32} (h : F' ≠ F) : ku u F i j v F' i' j' = u F' i' j' := by simp [ku, h]
theorem ku_i {u : kS} {F F' i j i' j' : Nat} {v : Int32} (h : i' ≠ i) : ku u F i j v F' i' j' = u F' i' j' := by simp [ku, h]
theorem ku_j {u : kS} {F F' i j i' j' : Nat} {v : Int32} (h : j' ≠ j) : ku u F i j v F' i' j' = u F' i' j' := by simp [ku, h]
/-- the row of nine numbers (G, b) is laid over (F, a) -/
def kcp (u : kS) (F a G b : Nat) : kS := fun F' i j => if F' = F ∧ i = a ∧ j < 9 then u G b j else u F' i j
/-- x at the first N places of the column F -/
def kfl (u : kS) (F N : Nat) (x : Int32) : kS := fun F' i j => if F' = F ∧ i < N ∧ j = 0 then x else u F' i j
/-- x at the first N places of the row (F, a) -/
def kfr (u : kS) (F a N : Nat) (x : Int32) : kS := fun F' i j => if F' = F ∧ i = a ∧ j < N then x else u F' i j
/-- the classes of the arrays -/
def kty (c : Nat → ClassId) : List (ClassId × FieldType) := [(c 0, .int), (c 1, .boolean), (c 2, .object RX0), (c 3, .array .int), (c 4, .long)]
/-- ClockPool's cells: ad k i is the address of the i-th of kind k. Fields: 0 disk, 1 page, 2 pins, 3 dirty, 4 marked, 5 row, 6 hand, 7 written, 8 come, 9 cells, 10 undone, 11 lastUpdate, 12 lastOver, 13 openUpdates, 14 size, 15 flushed, 16 active, 17 abortBegun, 18 crashes, 19 undoneByCrash -/
def kw_f (ad : Nat → Nat → Nat) (c : Nat → ClassId) (n : Nat) (u : kS) : va_W := [
  (ad 0 0, .inr (3, [.ref (ad 1 0), .ref (ad 2 0), .ref (ad 5 0), .ref (ad 6 0), .int (u 18 0 0), .int (u 19 0 0)])),
  (ad 1 0, .inr (2, [.ref (ad 3 0), .ref (ad 4 0), .int (u 6 0 0), .int (u 7 0 0), .int (u 8 0 0)])),
  (ad 2 0, .inr (1, [.ref (ad 7 0), .ref (ad 8 0), .ref (ad 9 0), .ref (ad 10 0), .ref (ad 11 0), .int (u 14 0 0), .int (u 15 0 0)])),
  (ad 3 0, .inl (c 3, 32, .inr (.inr (.inr (.inr (fun i => if i < 32 then some (ad 12 i) else none)))))),
  (ad 4 0, .inl (c 2, n, .inr (.inr (.inr (.inr (fun i => if i < n then some (ad 13 i) else none)))))),
  (ad 5 0, .inl (c 1, 8, .inl (fun j => u 16 j 0))),
  (ad 6 0, .inl (c 1, 8, .inl (fun j => u 17 j 0))),
  (ad 7 0, .inl (c 0, 2807, .inl (fun j => u 9 (j / 7) (j % 7)))),
  (ad 8 0, .inl (c 1, 401, .inl (fun j => u 10 j 0))),
  (ad 9 0, .inl (c 0, 8, .inl (fun j => u 11 j 0))),
  (ad 10 0, .inl (c 0, 8, .inl (fun j => u 12 j 0))),
  (ad 11 0, .inl (c 0, 8, .inl (fun j => u 13 j 0)))]
def kw_d (ad : Nat → Nat → Nat) (c : Nat → ClassId) (u : kS) (i : Nat) : Nat × va_E := (ad 12 i, .inl (c 0, 9, .inl (fun k => u 0 i k)))
def kw_o (ad : Nat → Nat → Nat) (u : kS) (i : Nat) : Nat × va_E := (ad 13 i, .inr (0, [.ref (ad 14 i), .int (u 1 i 0), .int (u 2 i 0), .int (u 3 i 0), .int (u 4 i 0)]))
def kw_r (ad : Nat → Nat → Nat) (c : Nat → ClassId) (u : kS) (i : Nat) : Nat × va_E := (ad 14 i, .inl (c 0, 9, .inl (fun k => u 5 i k)))
def kw (ad : Nat → Nat → Nat) (c : Nat → ClassId) (n : Nat) (u : kS) : va_W := kw_f ad c n u ++ ((List.range 32).map (kw_d ad c u) ++ ((List.range n).map (kw_o ad u) ++ (List.range n).map (kw_r ad c u)))
variable {ad : Nat → Nat → Nat} {c : Nat → ClassId} {n : Nat} {u : kS}
theorem kr_at {α : Type} (f : Nat → α) {n i : Nat} (h : i < n) : ((List.range n).map f)[i]? = some (f i) := by
  rw [List.getElem?_map, List.getElem?_range h]
  rfl
theorem kr_set {α : Type} {f g : Nat → α} {n i : Nat} {x : α} (hx : x = g i) (ho : ∀ j, j ≠ i → f j = g j) : ((List.range n).map f).set i x = (List.range n).map g := by
  apply List.ext_getElem?
  intro k
  by_cases e : k = i
  · subst e
    by_cases h : k < n
    · rw [List.getElem?_set_self (by simpa using h), kr_at g h, hx]
    · rw [List.getElem?_eq_none (by simpa using Nat.not_lt.mp h), List.getElem?_eq_none (by simpa using Nat.not_lt.mp h)]
  · rw [List.getElem?_set_ne (Ne.symm e), List.getElem?_map, List.getElem?_map]
    cases hk : (List.range n)[k]? with
    | none => rfl
    | some j =>
      have hj : j = k := by
        have h1 := (List.getElem?_eq_some_iff.mp hk)
        obtain ⟨h2, h3⟩ := h1
        rw [← h3]; simp
      subst hj
      show some (f j) = some (g j)
      rw [ho j e]
theorem kw_adr (u v : kS) : (kw ad c n u).map Prod.fst = (kw ad c n v).map Prod.fst := by
  simp [kw, kw_f, kw_d, kw_o, kw_r, Function.comp_def]
theorem kw_at_d {i : Nat} (h : i < 32) : (kw ad c n u)[12 + i]? = some (kw_d ad c u i) := by
  unfold kw
  rw [List.getElem?_append_right (by simp [kw_f])]
  rw [show 12 + i - (kw_f ad c n u).length = i by simp [kw_f]]
  rw [List.getElem?_append_left (by simpa using h)]
  exact kr_at _ h
theorem kw_at_o {i : Nat} (h : i < n) : (kw ad c n u)[44 + i]? = some (kw_o ad u i) := by
  unfold kw
  rw [List.getElem?_append_right (by simp [kw_f]; omega)]
  rw [show 44 + i - (kw_f ad c n u).length = 32 + i by simp [kw_f]; omega]
  rw [List.getElem?_append_right (by simp)]
  rw [show 32 + i - ((List.range 32).map (kw_d ad c u)).length = i by simp]
  rw [List.getElem?_append_left (by simpa using h)]
  exact kr_at _ h
theorem kw_at_r {i : Nat} (h : i < n) : (kw ad c n u)[44 + n + i]? = some (kw_r ad c u i) := by
  unfold kw
  rw [List.getElem?_append_right (by simp [kw_f]; omega)]
  rw [show 44 + n + i - (kw_f ad c n u).length = 32 + n + i by simp [kw_f]; omega]
  rw [List.getElem?_append_right (by simp; omega)]
  rw [show 32 + n + i - ((List.range 32).map (kw_d ad c u)).length = n + i by simp; omega]
  rw [List.getElem?_append_right (by simp)]
  rw [show n + i - ((List.range n).map (kw_o ad u)).length = i by simp]
  exact kr_at _ h
theorem kw_set_f {i : Nat} {x : Nat × va_E} {v : kS} (hi : i < 12) (h1 : (kw_f ad c n u).set i x = kw_f ad c n v) (h2 : kw_d ad c u = kw_d ad c v) (h3 : kw_o ad u = kw_o ad v) (h4 : kw_r ad c u = kw_r ad c v) : (kw ad c n u).set i x = kw ad c n v := by
  unfold kw
  rw [List.set_append_left _ _ (by simp [kw_f]; omega), h1, h2, h3, h4]
theorem kw_set_d {i : Nat} {x : Nat × va_E} {v : kS} (h1 : kw_f ad c n u = kw_f ad c n v) (h2 : x = kw_d ad c v i) (h2o : ∀ j, j ≠ i → kw_d ad c u j = kw_d ad c v j) (hi : i < 32) (h3 : kw_o ad u = kw_o ad v) (h4 : kw_r ad c u = kw_r ad c v) : (kw ad c n u).set (12 + i) x = kw ad c n v := by
  unfold kw
  rw [List.set_append_right _ _ (by simp [kw_f]), show 12 + i - (kw_f ad c n u).length = i by simp [kw_f], List.set_append_left _ _ (by simpa using hi), kr_set h2 h2o, h1, h3, h4]
theorem kw_set_o {i : Nat} {x : Nat × va_E} {v : kS} (h1 : kw_f ad c n u = kw_f ad c n v) (h2 : kw_d ad c u = kw_d ad c v) (h3 : x = kw_o ad v i) (h3o : ∀ j, j ≠ i → kw_o ad u j = kw_o ad v j) (hi : i < n) (h4 : kw_r ad c u = kw_r ad c v) : (kw ad c n u).set (44 + i) x = kw ad c n v := by
  unfold kw
  rw [List.set_append_right _ _ (by simp [kw_f]; omega), show 44 + i - (kw_f ad c n u).length = 32 + i by simp [kw_f]; omega, List.set_append_right _ _ (by simp), show 32 + i - ((List.range 32).map (kw_d ad c u)).length = i by simp, List.set_append_left _ _ (by simpa using hi), kr_set h3 h3o, h1, h2, h4]
theorem kw_set_r {i : Nat} {x : Nat × va_E} {v : kS} (h1 : kw_f ad c n u = kw_f ad c n v) (h2 : kw_d ad c u = kw_d ad c v) (h3 : kw_o ad u = kw_o ad v) (h4 : x = kw_r ad c v i) (h4o : ∀ j, j ≠ i → kw_r ad c u j = kw_r ad c v j) : (kw ad c n u).set (44 + n + i) x = kw ad c n v := by
  unfold kw
  rw [List.set_append_right _ _ (by simp [kw_f]; omega), show 44 + n + i - (kw_f ad c n u).length = 32 + n + i by simp [kw_f]; omega, List.set_append_right _ _ (by simp; omega), show 32 + n + i - ((List.range 32).map (kw_d ad c u)).length = n + i by simp; omega, List.set_append_right _ _ (by simp), show n + i - ((List.range n).map (kw_o ad u)).length = i by simp, kr_set h4 h4o, h1, h2, h3]
theorem ks_crashes (x : Int32) : (kw ad c n u).set 0 (ad 0 0, .inr (3, [.ref (ad 1 0), .ref (ad 2 0), .ref (ad 5 0), .ref (ad 6 0), .int x, .int (u 19 0 0)])) = kw ad c n (ku u 18 0 0 x) := kw_set_f (by decide) (by simp [kw_f, ku]) (by funext i; simp [kw_d, ku]) (by funext i; simp [kw_o, ku]) (by funext i; simp [kw_r, ku])
theorem ks_undoneByCrash (x : Int32) : (kw ad c n u).set 0 (ad 0 0, .inr (3, [.ref (ad 1 0), .ref (ad 2 0), .ref (ad 5 0), .ref (ad 6 0), .int (u 18 0 0), .int x])) = kw ad c n (ku u 19 0 0 x) := kw_set_f (by decide) (by simp [kw_f, ku]) (by funext i; simp [kw_d, ku]) (by funext i; simp [kw_o, ku]) (by funext i; simp [kw_r, ku])
theorem ks_hand (x : Int32) : (kw ad c n u).set 1 (ad 1 0, .inr (2, [.ref (ad 3 0), .ref (ad 4 0), .int x, .int (u 7 0 0), .int (u 8 0 0)])) = kw ad c n (ku u 6 0 0 x) := kw_set_f (by decide) (by simp [kw_f, ku]) (by funext i; simp [kw_d, ku]) (by funext i; simp [kw_o, ku]) (by funext i; simp [kw_r, ku])
theorem ks_written (x : Int32) : (kw ad c n u).set 1 (ad 1 0, .inr (2, [.ref (ad 3 0), .ref (ad 4 0), .int (u 6 0 0), .int x, .int (u 8 0 0)])) = kw ad c n (ku u 7 0 0 x) := kw_set_f (by decide) (by simp [kw_f, ku]) (by funext i; simp [kw_d, ku]) (by funext i; simp [kw_o, ku]) (by funext i; simp [kw_r, ku])
theorem ks_come (x : Int32) : (kw ad c n u).set 1 (ad 1 0, .inr (2, [.ref (ad 3 0), .ref (ad 4 0), .int (u 6 0 0), .int (u 7 0 0), .int x])) = kw ad c n (ku u 8 0 0 x) := kw_set_f (by decide) (by simp [kw_f, ku]) (by funext i; simp [kw_d, ku]) (by funext i; simp [kw_o, ku]) (by funext i; simp [kw_r, ku])
theorem ks_size (x : Int32) : (kw ad c n u).set 2 (ad 2 0, .inr (1, [.ref (ad 7 0), .ref (ad 8 0), .ref (ad 9 0), .ref (ad 10 0), .ref (ad 11 0), .int x, .int (u 15 0 0)])) = kw ad c n (ku u 14 0 0 x) := kw_set_f (by decide) (by simp [kw_f, ku]) (by funext i; simp [kw_d, ku]) (by funext i; simp [kw_o, ku]) (by funext i; simp [kw_r, ku])
theorem ks_flushed (x : Int32) : (kw ad c n u).set 2 (ad 2 0, .inr (1, [.ref (ad 7 0), .ref (ad 8 0), .ref (ad 9 0), .ref (ad 10 0), .ref (ad 11 0), .int (u 14 0 0), .int x])) = kw ad c n (ku u 15 0 0 x) := kw_set_f (by decide) (by simp [kw_f, ku]) (by funext i; simp [kw_d, ku]) (by funext i; simp [kw_o, ku]) (by funext i; simp [kw_r, ku])
theorem ks_active (i : Nat) (x : Int32) : (kw ad c n u).set 5 (ad 5 0, .inl (c 1, 8, .inl (upd (fun j => u 16 j 0) i x))) = kw ad c n (ku u 16 i 0 x) := kw_set_f (by decide) (by simp [kw_f, ku]; rfl) (by funext i; simp [kw_d, ku]) (by funext i; simp [kw_o, ku]) (by funext i; simp [kw_r, ku])
theorem ks_fill_active (N : Nat) (x : Int32) : (kw ad c n u).set 5 (ad 5 0, .inl (c 1, 8, .inl (fun j => if j < N then x else u 16 j 0))) = kw ad c n (kfl u 16 N x) := kw_set_f (by decide) (by simp [kw_f, kfl]) (by funext i; simp [kw_d, kfl]) (by funext i; simp [kw_o, kfl]) (by funext i; simp [kw_r, kfl])
theorem ks_abortBegun (i : Nat) (x : Int32) : (kw ad c n u).set 6 (ad 6 0, .inl (c 1, 8, .inl (upd (fun j => u 17 j 0) i x))) = kw ad c n (ku u 17 i 0 x) := kw_set_f (by decide) (by simp [kw_f, ku]; rfl) (by funext i; simp [kw_d, ku]) (by funext i; simp [kw_o, ku]) (by funext i; simp [kw_r, ku])
theorem ks_fill_abortBegun (N : Nat) (x : Int32) : (kw ad c n u).set 6 (ad 6 0, .inl (c 1, 8, .inl (fun j => if j < N then x else u 17 j 0))) = kw ad c n (kfl u 17 N x) := kw_set_f (by decide) (by simp [kw_f, kfl]) (by funext i; simp [kw_d, kfl]) (by funext i; simp [kw_o, kfl]) (by funext i; simp [kw_r, kfl])
theorem ks_undone (i : Nat) (x : Int32) : (kw ad c n u).set 8 (ad 8 0, .inl (c 1, 401, .inl (upd (fun j => u 10 j 0) i x))) = kw ad c n (ku u 10 i 0 x) := kw_set_f (by decide) (by simp [kw_f, ku]; rfl) (by funext i; simp [kw_d, ku]) (by funext i; simp [kw_o, ku]) (by funext i; simp [kw_r, ku])
theorem ks_fill_undone (N : Nat) (x : Int32) : (kw ad c n u).set 8 (ad 8 0, .inl (c 1, 401, .inl (fun j => if j < N then x else u 10 j 0))) = kw ad c n (kfl u 10 N x) := kw_set_f (by decide) (by simp [kw_f, kfl]) (by funext i; simp [kw_d, kfl]) (by funext i; simp [kw_o, kfl]) (by funext i; simp [kw_r, kfl])
theorem ks_lastUpdate (i : Nat) (x : Int32) : (kw ad c n u).set 9 (ad 9 0, .inl (c 0, 8, .inl (upd (fun j => u 11 j 0) i x))) = kw ad c n (ku u 11 i 0 x) := kw_set_f (by decide) (by simp [kw_f, ku]; rfl) (by funext i; simp [kw_d, ku]) (by funext i; simp [kw_o, ku]) (by funext i; simp [kw_r, ku])
theorem ks_fill_lastUpdate (N : Nat) (x : Int32) : (kw ad c n u).set 9 (ad 9 0, .inl (c 0, 8, .inl (fun j => if j < N then x else u 11 j 0))) = kw ad c n (kfl u 11 N x) := kw_set_f (by decide) (by simp [kw_f, kfl]) (by funext i; simp [kw_d, kfl]) (by funext i; simp [kw_o, kfl]) (by funext i; simp [kw_r, kfl])
theorem ks_lastOver (i : Nat) (x : Int32) : (kw ad c n u).set 10 (ad 10 0, .inl (c 0, 8, .inl (upd (fun j => u 12 j 0) i x))) = kw ad c n (ku u 12 i 0 x) := kw_set_f (by decide) (by simp [kw_f, ku]; rfl) (by funext i; simp [kw_d, ku]) (by funext i; simp [kw_o, ku]) (by funext i; simp [kw_r, ku])
theorem ks_fill_lastOver (N : Nat) (x : Int32) : (kw ad c n u).set 10 (ad 10 0, .inl (c 0, 8, .inl (fun j => if j < N then x else u 12 j 0))) = kw ad c n (kfl u 12 N x) := kw_set_f (by decide) (by simp [kw_f, kfl]) (by funext i; simp [kw_d, kfl]) (by funext i; simp [kw_o, kfl]) (by funext i; simp [kw_r, kfl])
theorem ks_openUpdates (i : Nat) (x : Int32) : (kw ad c n u).set 11 (ad 11 0, .inl (c 0, 8, .inl (upd (fun j => u 13 j 0) i x))) = kw ad c n (ku u 13 i 0 x) := kw_set_f (by decide) (by simp [kw_f, ku]; rfl) (by funext i; simp [kw_d, ku]) (by funext i; simp [kw_o, ku]) (by funext i; simp [kw_r, ku])
theorem ks_fill_openUpdates (N : Nat) (x : Int32) : (kw ad c n u).set 11 (ad 11 0, .inl (c 0, 8, .inl (fun j => if j < N then x else u 13 j 0))) = kw ad c n (kfl u 13 N x) := kw_set_f (by decide) (by simp [kw_f, kfl]) (by funext i; simp [kw_d, kfl]) (by funext i; simp [kw_o, kfl]) (by funext i; simp [kw_r, kfl])
theorem ks_cells (i k : Nat) (hk : k < 7) (x : Int32) : (kw ad c n u).set 7 (ad 7 0, .inl (c 0, 2807, .inl (upd (fun j => u 9 (j / 7) (j % 7)) (i * 7 + k) x))) = kw ad c n (ku u 9 i k x) := by
  refine kw_set_f (by decide) ?_ (by funext i; simp [kw_d, ku]) (by funext i; simp [kw_o, ku]) (by funext i; simp [kw_r, ku])
  have e : upd (fun j => u 9 (j / 7) (j % 7)) (i * 7 + k) x = fun j => ku u 9 i k x 9 (j / 7) (j % 7) := by
    funext j
    by_cases h : j = i * 7 + k
    · have h1 : j / 7 = i := by omega
      have h2 : j % 7 = k := by omega
      simp [upd, ku, h1, h2, h]
      intro h3
      omega
    · have h1 : ¬ (j / 7 = i ∧ j % 7 = k) := by omega
      simp [upd, ku, h, h1]
  rw [e]
  simp [kw_f, ku]
theorem ks_page {i : Nat} (hi : i < n) (x : Int32) : (kw ad c n u).set (44 + i) (ad 13 i, .inr (0, [.ref (ad 14 i), .int x, .int (u 2 i 0), .int (u 3 i 0), .int (u 4 i 0)])) = kw ad c n (ku u 1 i 0 x) := kw_set_o (by simp [kw_f, ku]) (by funext i; simp [kw_d, ku]) (by simp [kw_o, ku]) (fun j hj => by simp [kw_o, ku, hj]) hi (by funext i; simp [kw_r, ku])
theorem ks_pins {i : Nat} (hi : i < n) (x : Int32) : (kw ad c n u).set (44 + i) (ad 13 i, .inr (0, [.ref (ad 14 i), .int (u 1 i 0), .int x, .int (u 3 i 0), .int (u 4 i 0)])) = kw ad c n (ku u 2 i 0 x) := kw_set_o (by simp [kw_f, ku]) (by funext i; simp [kw_d, ku]) (by simp [kw_o, ku]) (fun j hj => by simp [kw_o, ku, hj]) hi (by funext i; simp [kw_r, ku])
theorem ks_dirty {i : Nat} (hi : i < n) (x : Int32) : (kw ad c n u).set (44 + i) (ad 13 i, .inr (0, [.ref (ad 14 i), .int (u 1 i 0), .int (u 2 i 0), .int x, .int (u 4 i 0)])) = kw ad c n (ku u 3 i 0 x) := kw_set_o (by simp [kw_f, ku]) (by funext i; simp [kw_d, ku]) (by simp [kw_o, ku]) (fun j hj => by simp [kw_o, ku, hj]) hi (by funext i; simp [kw_r, ku])
theorem ks_marked {i : Nat} (hi : i < n) (x : Int32) : (kw ad c n u).set (44 + i) (ad 13 i, .inr (0, [.ref (ad 14 i), .int (u 1 i 0), .int (u 2 i 0), .int (u 3 i 0), .int x])) = kw ad c n (ku u 4 i 0 x) := kw_set_o (by simp [kw_f, ku]) (by funext i; simp [kw_d, ku]) (by simp [kw_o, ku]) (fun j hj => by simp [kw_o, ku, hj]) hi (by funext i; simp [kw_r, ku])
theorem ks_disk {i : Nat} (hi : i < 32) (k : Nat) (x : Int32) : (kw ad c n u).set (12 + i) (ad 12 i, .inl (c 0, 9, .inl (upd (fun k => u 0 i k) k x))) = kw ad c n (ku u 0 i k x) := kw_set_d (by simp [kw_f, ku]) (by simp [kw_d, ku]; funext j; simp [upd]) (fun j hj => by simp [kw_d, ku, hj]) hi (by funext i; simp [kw_o, ku]) (by funext i; simp [kw_r, ku])
theorem ks_row {i : Nat} (k : Nat) (x : Int32) : (kw ad c n u).set (44 + n + i) (ad 14 i, .inl (c 0, 9, .inl (upd (fun k => u 5 i k) k x))) = kw ad c n (ku u 5 i k x) := kw_set_r (by simp [kw_f, ku]) (by funext i; simp [kw_d, ku]) (by funext i; simp [kw_o, ku]) (by simp [kw_r, ku]; funext j; simp [upd]) (fun j hj => by simp [kw_r, ku, hj])
theorem ks_fill_row {i : Nat} (N : Nat) (x : Int32) : (kw ad c n u).set (44 + n + i) (ad 14 i, .inl (c 0, 9, .inl (fun j => if j < N then x else u 5 i j))) = kw ad c n (kfr u 5 i N x) := kw_set_r (by simp [kw_f, kfr]) (by funext i; simp [kw_d, kfr]) (by funext i; simp [kw_o, kfr]) (by simp [kw_r, kfr]) (fun j hj => by simp [kw_r, kfr, hj])
theorem ks_load {i p : Nat} : (kw ad c n u).set (44 + n + i) (ad 14 i, .inl (c 0, 9, .inl (va_cpy (fun k => u 0 p k) (fun k => u 5 i k) 0 0 9))) = kw ad c n (kcp u 5 i 0 p) := kw_set_r (by simp [kw_f, kcp]) (by funext i; simp [kw_d, kcp]) (by funext i; simp [kw_o, kcp]) (by simp [kw_r, kcp]; funext j; simp [va_cpy]) (fun j hj => by simp [kw_r, kcp, hj])
theorem ks_back {i p : Nat} (hp : p < 32) : (kw ad c n u).set (12 + p) (ad 12 p, .inl (c 0, 9, .inl (va_cpy (fun k => u 5 i k) (fun k => u 0 p k) 0 0 9))) = kw ad c n (kcp u 0 p 5 i) := kw_set_d (by simp [kw_f, kcp]) (by simp [kw_d, kcp]; funext j; simp [va_cpy]) (fun j hj => by simp [kw_d, kcp, hj]) hp (by funext i; simp [kw_o, kcp]) (by funext i; simp [kw_r, kcp])
end KW
