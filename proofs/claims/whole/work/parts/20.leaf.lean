theorem k_set_adr {w : va_W} {q a : Nat} {e0 e : va_E} (h : w[q]? = some (a, e0)) : (w.set q (a, e)).map Prod.fst = w.map Prod.fst := by
  rw [List.map_set]
  apply List.ext_getElem?
  intro k
  by_cases hk : k = q
  · subst hk
    have hl := (List.getElem?_eq_some_iff.mp h).1
    rw [List.getElem?_set_self (by simpa using hl), List.getElem?_map, h]
    rfl
  · rw [List.getElem?_set_ne (Ne.symm hk)]
theorem k_set_self {α : Type} {w : List α} {q : Nat} {x : α} (h : w[q]? = some x) : w.set q x = w := by
  obtain ⟨hl, he⟩ := List.getElem?_eq_some_iff.mp h
  rw [← he]
  exact List.set_getElem_self hl
theorem k_len {α : Type} {w : List α} {q : Nat} {x : α} (h : w[q]? = some x) : q < w.length := (List.getElem?_eq_some_iff.mp h).1
/-- 1 for what holds, 0 for what doesn't -/
def kb (P : Prop) [Decidable P] : Int32 := if P then 1 else 0
theorem kb_1 {P : Prop} [Decidable P] (h : P) : kb P = 1 := if_pos h
theorem kb_0 {P : Prop} [Decidable P] (h : ¬ P) : kb P = 0 := if_neg h
theorem kb_nar (P : Prop) [Decidable P] : narrow .boolean (.int (kb P)) = .int (kb P) := by unfold kb; split <;> decide
theorem nar_1 : narrow .boolean (.int 1) = .int 1 := by decide
theorem nar_0 : narrow .boolean (.int 0) = .int 0 := by decide
set_option maxHeartbeats 4000000 in
set_option maxRecDepth 100000 in
/-- Arrays.fill: x at every place of an array, whatever else there is -/
theorem c_fill (l : Launch) (D : va_G) (c : Nat → ClassId) {ws : va_W} {q0 a N : Nat} {f : Nat → Int32} (x : Int32) (ha : ws[q0]? = some (a, .inl (c 0, N, .inl f))) (hN : N < 2 ^ 31) : kc l yJ7_fill_53178 (Cond.code yJ7_fill_53178 cJ7_fill_53178 4 none) 0 0 D (kty c) ws [.ref a, .int x] (fun _ : Unit => ws.set q0 (a, .inl (c 0, N, .inl (fun j => if j < N then x else f j)))) (fun v _ => v = none) := by
  refine kc.mk (by decide) (by simp [Value.category]) (Nat.le_of_ble_eq_true rfl) ?_
  intro p e s m args below meth c9 cx hr
  refine kg_iconst (v := 0) cx dJ7_fill_53178_0 (by decide) ?_
  refine kg_istore_n cx dJ7_fill_53178_1 (by decide) ?_
  refine kg_aload_n cx dJ7_fill_53178_2 rfl ?_
  refine kg_alen (v := nI N) cx q0 0 rfl ha rfl dJ7_fill_53178_3 ?_
  refine kg_istore_n cx dJ7_fill_53178_4 (by decide) ?_
  have loop : ∀ (k i : Nat) (g : Nat → Int32), N - i = k → i ≤ N → (∀ j, g j = if j < i then x else f j) → kg p l e (kc_rm 0 0) s m args below meth c9 4 D (va_A ws s.heap.size) (MQ below (kc_Q (fun _ : Unit => ws.set q0 (a, .inl (c 0, N, .inl (fun j => if j < N then x else f j)))) D (fun v _ => v = none) (va_A ws s.heap.size)) args s 0 0 (va_A ws s.heap.size)) 0 0 (ws.set q0 (a, .inl (c 0, N, .inl g))) 5 [some (.ref a), some (.int x), some (.int (nI i)), some (.int (nI N))] [] := by
    intro k
    induction k with
    | zero =>
      intro i g hk hi hg
      refine kg_iload_n cx dJ7_fill_53178_5 rfl ?_
      refine kg_iload_n cx dJ7_fill_53178_6 rfl ?_
      refine kg_icmp_ge cx 20 dJ7_fill_53178_7 (by decide) (fun h => ?_) (fun h => absurd (nI_le (show N ≤ i by omega) (by omega)) h)
      have e : g = fun j => if j < N then x else f j := by
        funext j
        rw [hg j, show i = N by omega]
      subst e
      exact kg_return cx hr () rfl rfl dJ7_fill_53178_20
    | succ k ih =>
      intro i g hk hi hg
      refine kg_iload_n cx dJ7_fill_53178_5 rfl ?_
      refine kg_iload_n cx dJ7_fill_53178_6 rfl ?_
      refine kg_icmp_ge cx 20 dJ7_fill_53178_7 (by decide) (fun h => absurd h (nI_ge (show i < N by omega) hN)) (fun h => ?_)
      refine kg_aload_n cx dJ7_fill_53178_10 rfl ?_
      refine kg_iload_n cx dJ7_fill_53178_11 rfl ?_
      refine kg_iload_n cx dJ7_fill_53178_12 rfl ?_
      refine kg_iastN cx q0 0 i rfl (List.getElem?_set_self (k_len ha)) rfl (by omega) hN (List.set_set _) dJ7_fill_53178_13 ?_
      refine kg_iinc (v := nI (i + 1)) cx dJ7_fill_53178_14 rfl (nI_1 i) (by decide) ?_
      refine kg_goto cx 5 dJ7_fill_53178_17 (by decide) ?_
      refine ih (i + 1) (upd g i x) (by omega) (by omega) (fun j => ?_)
      unfold upd
      rw [hg j]
      by_cases h1 : j = i
      · subst h1
        simp
      · by_cases h2 : j < i
        · simp [h1, h2, Nat.lt_succ_of_lt h2]
        · simp [h1, h2, show ¬ j < i + 1 by omega]
  refine kg_eq (k_set_self ha).symm rfl rfl rfl ?_
  exact loop N 0 f rfl (Nat.zero_le _) (fun j => by simp)
set_option maxHeartbeats 4000000 in
set_option maxRecDepth 100000 in
/-- Log.value: the column k of the record i -/
theorem c_X1_value (l : Launch) (D : va_G) (c : Nat → ClassId) (ad : Nat → Nat → Nat) (n : Nat) (u : kS) (i k : Nat) (hi : i ≤ 400) (hk : k < 7) : kC l D c ad n yX1_value (Cond.code yX1_value cX1_value 3 (some .int)) 0 0 u [.ref (ad 2 0), .int (nI i), .int (nI k)] (fun v u9 => v = some (.int (u 9 i k)) ∧ u9 = u) := by
  refine kC.mk (by decide) (by simp [Value.category]) (Nat.le_of_ble_eq_true rfl) ?_
  intro p e s m args below meth c9 cx hr
  refine kg_aload_n cx dX1_value_0 rfl ?_
  refine kg_get (ci := 1) cx 2 0 kfs_X1 rfl (by decide) rfl rfl kf_X1_9 dX1_value_1 ?_
  refine kg_iload_n cx dX1_value_4 rfl ?_
  refine kg_bipush (v := (nI 7)) cx dX1_value_5 (by decide) ?_
  refine kg_imul cx dX1_value_7 ?_
  refine kg_top (nI (i * 7)) (pk_mul i 7) ?_
  refine kg_iload_n cx dX1_value_8 rfl ?_
  refine kg_iadd cx dX1_value_9 ?_
  refine kg_top (nI (i * 7 + k)) (nI_add _ _) ?_
  refine kg_ialdN cx 7 0 (i * 7 + k) rfl rfl (rfl) (by omega) (by decide) (by show u 9 ((i * 7 + k) / 7) ((i * 7 + k) % 7) = u 9 i k; rw [show (i * 7 + k) / 7 = i by omega, show (i * 7 + k) % 7 = k by omega]) dX1_value_10 ?_
  exact kg_ireturn cx hr (rfl) _ rfl (⟨rfl, rfl⟩) dX1_value_11
set_option maxHeartbeats 4000000 in
set_option maxRecDepth 100000 in
/-- Frame.change: the number k becomes x, the LSN y, dirty -/
theorem c_X0_change (l : Launch) (D : va_G) (c : Nat → ClassId) (ad : Nat → Nat → Nat) (n : Nat) (u : kS) (f k : Nat) (x y : Int32) (hf : f < n) (hk : k < 8) : kC l D c ad n yX0_change (Cond.code yX0_change cX0_change 4 none) 0 0 u [.ref (ad 13 f), .int (nI k), .int x, .int y] (fun v u9 => v = none ∧ u9 = ku (ku (ku u 5 f k x) 5 f 8 y) 3 f 0 1) := by
  refine kC.mk (by decide) (by simp [Value.category]) (Nat.le_of_ble_eq_true rfl) ?_
  intro p e s m args below meth c9 cx hr
  refine kg_aload_n cx dX0_change_0 rfl ?_
  refine kg_get (ci := 0) cx (44 + f) 0 kfs_X0 rfl (by decide) (kw_at_o hf) rfl kf_X0_9 dX0_change_1 ?_
  refine kg_iload_n cx dX0_change_4 rfl ?_
  refine kg_iload_n cx dX0_change_5 rfl ?_
  refine kg_iastN cx (44 + n + f) 0 k rfl (kw_at_r hf) (rfl) (by omega) (by decide) (ks_row k _) dX0_change_6 ?_
  refine kg_aload_n cx dX0_change_7 rfl ?_
  refine kg_get (ci := 0) cx (44 + f) 0 kfs_X0 rfl (by decide) (kw_at_o hf) rfl kf_X0_9 dX0_change_8 ?_
  refine kg_bipush (v := (nI 8)) cx dX0_change_11 (by decide) ?_
  refine kg_iload_n cx dX0_change_13 rfl ?_
  refine kg_iastN cx (44 + n + f) 0 8 rfl (kw_at_r hf) (rfl) (by decide) (by decide) (ks_row 8 _) dX0_change_14 ?_
  refine kg_aload_n cx dX0_change_15 rfl ?_
  refine kg_iconst (v := 1) cx dX0_change_16 (by decide) ?_
  refine kg_put (ci := 0) (ty := .boolean) cx (44 + f) 3 kfs_X0 tyX0 tyX0_ok nmX0 rfl (by decide) (kw_at_o hf) (Nat.le_of_ble_eq_true rfl) kf_X0_19 rfl (by decide +kernel) rfl rfl (ks_dirty hf _) dX0_change_17 ?_
  exact kg_return cx hr _ rfl (⟨rfl, rfl⟩) dX0_change_20
/-- the frame f may be taken: no pins, and not dirty or with an LSN not above fl -/
abbrev kMay (u : kS) (f : Nat) (fl : Int32) : Prop := u 2 f 0 = 0 ∧ (u 3 f 0 = 0 ∨ u 5 f 8 ≤ fl)
set_option maxHeartbeats 4000000 in
set_option maxRecDepth 100000 in
/-- Frame.mayBeTaken -/
theorem c_X0_mayBeTaken (l : Launch) (D : va_G) (c : Nat → ClassId) (ad : Nat → Nat → Nat) (n : Nat) (u : kS) (f : Nat) (fl : Int32) (hf : f < n) : kC l D c ad n yX0_mayBeTaken (Cond.code yX0_mayBeTaken cX0_mayBeTaken 2 (some .boolean)) 0 0 u [.ref (ad 13 f), .int fl] (fun v u9 => v = some (.int (kb (kMay u f fl))) ∧ u9 = u) := by
  refine kC.mk (by decide) (by simp [Value.category]) (Nat.le_of_ble_eq_true rfl) ?_
  intro p e s m args below meth c9 cx hr
  refine kg_aload_n cx dX0_mayBeTaken_0 rfl ?_
  refine kg_get (ci := 0) cx (44 + f) 2 kfs_X0 rfl (by decide) (kw_at_o hf) rfl kf_X0_23 dX0_mayBeTaken_1 ?_
  refine kg_if_ne cx 29 dX0_mayBeTaken_4 (by decide) (fun h1 => ?_) (fun h1 => ?_)
  · refine kg_iconst (v := 0) cx dX0_mayBeTaken_29 (by decide) ?_
    refine kg_top (kb (kMay u f fl)) (kb_0 (fun q => h1 q.1)).symm ?_
    exact kg_ireturn cx hr (kb_nar _) _ rfl (⟨rfl, rfl⟩) dX0_mayBeTaken_30
  · refine kg_aload_n cx dX0_mayBeTaken_7 rfl ?_
    refine kg_get (ci := 0) cx (44 + f) 3 kfs_X0 rfl (by decide) (kw_at_o hf) rfl kf_X0_19 dX0_mayBeTaken_8 ?_
    refine kg_if_eq cx 25 dX0_mayBeTaken_11 (by decide) (fun h2 => ?_) (fun h2 => ?_)
    · refine kg_iconst (v := 1) cx dX0_mayBeTaken_25 (by decide) ?_
      refine kg_goto cx 30 dX0_mayBeTaken_26 (by decide) ?_
      refine kg_top (kb (kMay u f fl)) (kb_1 (⟨h1, Or.inl h2⟩)).symm ?_
      exact kg_ireturn cx hr (kb_nar _) _ rfl (⟨rfl, rfl⟩) dX0_mayBeTaken_30
    · refine kg_aload_n cx dX0_mayBeTaken_14 rfl ?_
      refine kg_get (ci := 0) cx (44 + f) 0 kfs_X0 rfl (by decide) (kw_at_o hf) rfl kf_X0_9 dX0_mayBeTaken_15 ?_
      refine kg_bipush (v := (nI 8)) cx dX0_mayBeTaken_18 (by decide) ?_
      refine kg_ialdN cx (44 + n + f) 0 8 rfl (kw_at_r hf) (rfl) (by decide) (by decide) (rfl) dX0_mayBeTaken_20 ?_
      refine kg_iload_n cx dX0_mayBeTaken_21 rfl ?_
      refine kg_icmp_gt cx 29 dX0_mayBeTaken_22 (by decide) (fun h3 => ?_) (fun h3 => ?_)
      · refine kg_iconst (v := 0) cx dX0_mayBeTaken_29 (by decide) ?_
        refine kg_top (kb (kMay u f fl)) (kb_0 (fun q => q.2.elim h2 (fun q => absurd h3 (Int32.not_lt.mpr q)))).symm ?_
        exact kg_ireturn cx hr (kb_nar _) _ rfl (⟨rfl, rfl⟩) dX0_mayBeTaken_30
      · refine kg_iconst (v := 1) cx dX0_mayBeTaken_25 (by decide) ?_
        refine kg_goto cx 30 dX0_mayBeTaken_26 (by decide) ?_
        refine kg_top (kb (kMay u f fl)) (kb_1 (⟨h1, Or.inr (Int32.not_lt.mp h3)⟩)).symm ?_
        exact kg_ireturn cx hr (kb_nar _) _ rfl (⟨rfl, rfl⟩) dX0_mayBeTaken_30
set_option maxHeartbeats 4000000 in
set_option maxRecDepth 100000 in
/-- Log.changesPage -/
theorem c_X1_changesPage (l : Launch) (D : va_G) (c : Nat → ClassId) (ad : Nat → Nat → Nat) (n : Nat) (u : kS) (i : Nat) (hi : i ≤ 400) : kC l D c ad n yX1_changesPage (Cond.code yX1_changesPage cX1_changesPage 3 (some .boolean)) 1 22 u [.ref (ad 2 0), .int (nI i)] (fun v u9 => v = some (.int (kb (u 9 i 0 = 0 ∨ u 9 i 0 = 1))) ∧ u9 = u) := by
  refine kC.mk (by decide) (by simp [Value.category]) (Nat.le_of_ble_eq_true rfl) ?_
  intro p e s m args below meth c9 cx hr
  refine kg_aload_n cx dX1_changesPage_0 rfl ?_
  refine kg_iload_n cx dX1_changesPage_1 rfl ?_
  refine kg_iconst (v := 0) cx dX1_changesPage_2 (by decide) ?_
  refine kg_callV (ci := 1) (na := 2) cx (c_X1_value l D c ad n u i 0 hi (by decide)) 2 rfl rfl kcd_X1_value km_X1_28 kin_X1 kim_X1_value ksl_X1_value (by decide +kernel) rfl (by decide) (by decide) rfl (Nat.le_of_ble_eq_true rfl) dX1_changesPage_3 (fun _ => kw_adr _ _) (fun v9 u9 h9 => ?_)
  obtain ⟨rfl, h9⟩ := h9
  subst u9
  refine kg_istore_n cx dX1_changesPage_6 (by decide) ?_
  refine kg_iload_n cx dX1_changesPage_7 rfl ?_
  refine kg_if_eq cx 16 dX1_changesPage_8 (by decide) (fun h1 => ?_) (fun h1 => ?_)
  · refine kg_iconst (v := 1) cx dX1_changesPage_16 (by decide) ?_
    refine kg_goto cx 21 dX1_changesPage_17 (by decide) ?_
    refine kg_top (kb (u 9 i 0 = 0 ∨ u 9 i 0 = 1)) (kb_1 (Or.inl h1)).symm ?_
    exact kg_ireturn cx hr (kb_nar _) _ rfl (⟨rfl, rfl⟩) dX1_changesPage_21
  · refine kg_iload_n cx dX1_changesPage_11 rfl ?_
    refine kg_iconst (v := 1) cx dX1_changesPage_12 (by decide) ?_
    refine kg_icmp_ne cx 20 dX1_changesPage_13 (by decide) (fun h2 => ?_) (fun h2 => ?_)
    · refine kg_iconst (v := 0) cx dX1_changesPage_20 (by decide) ?_
      refine kg_top (kb (u 9 i 0 = 0 ∨ u 9 i 0 = 1)) (kb_0 (fun q => q.elim h1 h2)).symm ?_
      exact kg_ireturn cx hr (kb_nar _) _ rfl (⟨rfl, rfl⟩) dX1_changesPage_21
    · refine kg_iconst (v := 1) cx dX1_changesPage_16 (by decide) ?_
      refine kg_goto cx 21 dX1_changesPage_17 (by decide) ?_
      refine kg_top (kb (u 9 i 0 = 0 ∨ u 9 i 0 = 1)) (kb_1 (Or.inr h2)).symm ?_
      exact kg_ireturn cx hr (kb_nar _) _ rfl (⟨rfl, rfl⟩) dX1_changesPage_21
/-- record i, of transaction t, is an UPDATE that undoing would undo -/
abbrev kOpen (u : kS) (i t : Nat) : Prop := u 9 i 0 = 0 ∧ u 10 i 0 = 0 ∧ u 12 t 0 < nI i
set_option maxHeartbeats 4000000 in
set_option maxRecDepth 100000 in
/-- Log.isOpen -/
theorem c_X1_isOpen (l : Launch) (D : va_G) (c : Nat → ClassId) (ad : Nat → Nat → Nat) (n : Nat) (u : kS) (i t : Nat) (hi : i ≤ 400) (ht : t < 8) (hT : u 9 i 1 = nI t) : kC l D c ad n yX1_isOpen (Cond.code yX1_isOpen cX1_isOpen 2 (some .boolean)) 1 22 u [.ref (ad 2 0), .int (nI i)] (fun v u9 => v = some (.int (kb (kOpen u i t))) ∧ u9 = u) := by
  refine kC.mk (by decide) (by simp [Value.category]) (Nat.le_of_ble_eq_true rfl) ?_
  intro p e s m args below meth c9 cx hr
  refine kg_aload_n cx dX1_isOpen_0 rfl ?_
  refine kg_iload_n cx dX1_isOpen_1 rfl ?_
  refine kg_iconst (v := 0) cx dX1_isOpen_2 (by decide) ?_
  refine kg_callV (ci := 1) (na := 2) cx (c_X1_value l D c ad n u i 0 hi (by decide)) 2 rfl rfl kcd_X1_value km_X1_28 kin_X1 kim_X1_value ksl_X1_value (by decide +kernel) rfl (by decide) (by decide) rfl (Nat.le_of_ble_eq_true rfl) dX1_isOpen_3 (fun _ => kw_adr _ _) (fun v9 u9 h9 => ?_)
  obtain ⟨rfl, h9⟩ := h9
  subst u9
  refine kg_if_ne cx 37 dX1_isOpen_6 (by decide) (fun h1 => ?_) (fun h1 => ?_)
  · refine kg_iconst (v := 0) cx dX1_isOpen_37 (by decide) ?_
    refine kg_top (kb (kOpen u i t)) (kb_0 (fun q => h1 q.1)).symm ?_
    exact kg_ireturn cx hr (kb_nar _) _ rfl (⟨rfl, rfl⟩) dX1_isOpen_38
  · refine kg_aload_n cx dX1_isOpen_9 rfl ?_
    refine kg_get (ci := 1) cx 2 1 kfs_X1 rfl (by decide) rfl rfl kf_X1_15 dX1_isOpen_10 ?_
    refine kg_iload_n cx dX1_isOpen_13 rfl ?_
    refine kg_zaldN cx 8 1 i rfl rfl (rfl) (by omega) (by decide) (rfl) dX1_isOpen_14 ?_
    refine kg_if_ne cx 37 dX1_isOpen_15 (by decide) (fun h2 => ?_) (fun h2 => ?_)
    · refine kg_iconst (v := 0) cx dX1_isOpen_37 (by decide) ?_
      refine kg_top (kb (kOpen u i t)) (kb_0 (fun q => h2 q.2.1)).symm ?_
      exact kg_ireturn cx hr (kb_nar _) _ rfl (⟨rfl, rfl⟩) dX1_isOpen_38
    · refine kg_iload_n cx dX1_isOpen_18 rfl ?_
      refine kg_aload_n cx dX1_isOpen_19 rfl ?_
      refine kg_get (ci := 1) cx 2 3 kfs_X1 rfl (by decide) rfl rfl kf_X1_22 dX1_isOpen_20 ?_
      refine kg_aload_n cx dX1_isOpen_23 rfl ?_
      refine kg_iload_n cx dX1_isOpen_24 rfl ?_
      refine kg_iconst (v := 1) cx dX1_isOpen_25 (by decide) ?_
      refine kg_callV (ci := 1) (na := 2) cx (c_X1_value l D c ad n u i 1 hi (by decide)) 2 rfl rfl kcd_X1_value km_X1_28 kin_X1 kim_X1_value ksl_X1_value (by decide +kernel) rfl (by decide) (by decide) rfl (Nat.le_of_ble_eq_true rfl) dX1_isOpen_26 (fun _ => kw_adr _ _) (fun v9 u9 h9 => ?_)
      obtain ⟨rfl, h9⟩ := h9
      subst u9
      refine kg_ialdN cx 10 0 t rfl rfl (hT) (ht) (by decide) (rfl) dX1_isOpen_29 ?_
      refine kg_icmp_le cx 37 dX1_isOpen_30 (by decide) (fun h3 => ?_) (fun h3 => ?_)
      · refine kg_iconst (v := 0) cx dX1_isOpen_37 (by decide) ?_
        refine kg_top (kb (kOpen u i t)) (kb_0 (fun q => absurd q.2.2 (Int32.not_lt.mpr h3))).symm ?_
        exact kg_ireturn cx hr (kb_nar _) _ rfl (⟨rfl, rfl⟩) dX1_isOpen_38
      · refine kg_iconst (v := 1) cx dX1_isOpen_33 (by decide) ?_
        refine kg_goto cx 38 dX1_isOpen_34 (by decide) ?_
        refine kg_top (kb (kOpen u i t)) (kb_1 (⟨h1, h2, Int32.not_le.mp h3⟩)).symm ?_
        exact kg_ireturn cx hr (kb_nar _) _ rfl (⟨rfl, rfl⟩) dX1_isOpen_38
set_option maxHeartbeats 4000000 in
set_option maxRecDepth 100000 in
/-- Log.isUnended -/
theorem c_X1_isUnended (l : Launch) (D : va_G) (c : Nat → ClassId) (ad : Nat → Nat → Nat) (n : Nat) (u : kS) (t : Nat) (ht : t < 8) : kC l D c ad n yX1_isUnended (Cond.code yX1_isUnended cX1_isUnended 2 (some .boolean)) 0 0 u [.ref (ad 2 0), .int (nI t)] (fun v u9 => v = some (.int (kb (u 12 t 0 < u 11 t 0))) ∧ u9 = u) := by
  refine kC.mk (by decide) (by simp [Value.category]) (Nat.le_of_ble_eq_true rfl) ?_
  intro p e s m args below meth c9 cx hr
  refine kg_aload_n cx dX1_isUnended_0 rfl ?_
  refine kg_get (ci := 1) cx 2 2 kfs_X1 rfl (by decide) rfl rfl kf_X1_19 dX1_isUnended_1 ?_
  refine kg_iload_n cx dX1_isUnended_4 rfl ?_
  refine kg_ialdN cx 9 0 t rfl rfl (rfl) (ht) (by decide) (rfl) dX1_isUnended_5 ?_
  refine kg_aload_n cx dX1_isUnended_6 rfl ?_
  refine kg_get (ci := 1) cx 2 3 kfs_X1 rfl (by decide) rfl rfl kf_X1_22 dX1_isUnended_7 ?_
  refine kg_iload_n cx dX1_isUnended_10 rfl ?_
  refine kg_ialdN cx 10 0 t rfl rfl (rfl) (ht) (by decide) (rfl) dX1_isUnended_11 ?_
  refine kg_icmp_le cx 19 dX1_isUnended_12 (by decide) (fun h1 => ?_) (fun h1 => ?_)
  · refine kg_iconst (v := 0) cx dX1_isUnended_19 (by decide) ?_
    refine kg_top (kb (u 12 t 0 < u 11 t 0)) (kb_0 (fun q => absurd q (Int32.not_lt.mpr h1))).symm ?_
    exact kg_ireturn cx hr (kb_nar _) _ rfl (⟨rfl, rfl⟩) dX1_isUnended_20
  · refine kg_iconst (v := 1) cx dX1_isUnended_15 (by decide) ?_
    refine kg_goto cx 20 dX1_isUnended_16 (by decide) ?_
    refine kg_top (kb (u 12 t 0 < u 11 t 0)) (kb_1 (Int32.not_le.mp h1)).symm ?_
    exact kg_ireturn cx hr (kb_nar _) _ rfl (⟨rfl, rfl⟩) dX1_isUnended_20
/-- frame f empty -/
def kEmp (u : kS) (f : Nat) : kS := ku (ku (ku (ku (kfr u 5 f 9 0) 1 f 0 (-1)) 2 f 0 0) 3 f 0 0) 4 f 0 0
set_option maxHeartbeats 4000000 in
set_option maxRecDepth 100000 in
/-- Frame.makeEmpty -/
theorem c_X0_makeEmpty (l : Launch) (D : va_G) (c : Nat → ClassId) (ad : Nat → Nat → Nat) (n : Nat) (u : kS) (f : Nat) (hf : f < n) : kC l D c ad n yX0_makeEmpty (Cond.code yX0_makeEmpty cX0_makeEmpty 1 none) 1 23 u [.ref (ad 13 f)] (fun v u9 => v = none ∧ u9 = kEmp u f) := by
  refine kC.mk (by decide) (by simp [Value.category]) (Nat.le_of_ble_eq_true rfl) ?_
  intro p e s m args below meth c9 cx hr
  refine kg_aload_n cx dX0_makeEmpty_0 rfl ?_
  refine kg_get (ci := 0) cx (44 + f) 0 kfs_X0 rfl (by decide) (kw_at_o hf) rfl kf_X0_9 dX0_makeEmpty_1 ?_
  refine kg_iconst (v := 0) cx dX0_makeEmpty_4 (by decide) ?_
  refine kg_callS (na := 2) cx (c_fill l D c 0 (kw_at_r hf) (by decide)) kcd_J7_fill_53178 km_X0_26 kin_J7 kst_J7_fill_53178 (by decide +kernel) rfl (by decide) (by decide) rfl (Nat.le_of_ble_eq_true rfl) dX0_makeEmpty_5 (fun _ => k_set_adr (kw_at_r hf)) (fun v9 u9 h9 => ?_)
  obtain rfl := h9
  refine kg_eq (ks_fill_row 9 0) rfl rfl rfl ?_
  refine kg_aload_n cx dX0_makeEmpty_8 rfl ?_
  refine kg_iconst (v := (-1)) cx dX0_makeEmpty_9 (by decide) ?_
  refine kg_put (ci := 0) (ty := .int) cx (44 + f) 1 kfs_X0 tyX0 tyX0_ok nmX0 rfl (by decide) (kw_at_o hf) (Nat.le_of_ble_eq_true rfl) kf_X0_15 rfl (by decide +kernel) rfl rfl (ks_page hf _) dX0_makeEmpty_10 ?_
  refine kg_aload_n cx dX0_makeEmpty_13 rfl ?_
  refine kg_iconst (v := 0) cx dX0_makeEmpty_14 (by decide) ?_
  refine kg_put (ci := 0) (ty := .int) cx (44 + f) 2 kfs_X0 tyX0 tyX0_ok nmX0 rfl (by decide) (kw_at_o hf) (Nat.le_of_ble_eq_true rfl) kf_X0_23 rfl (by decide +kernel) rfl rfl (ks_pins hf _) dX0_makeEmpty_15 ?_
  refine kg_aload_n cx dX0_makeEmpty_18 rfl ?_
  refine kg_iconst (v := 0) cx dX0_makeEmpty_19 (by decide) ?_
  refine kg_put (ci := 0) (ty := .boolean) cx (44 + f) 3 kfs_X0 tyX0 tyX0_ok nmX0 rfl (by decide) (kw_at_o hf) (Nat.le_of_ble_eq_true rfl) kf_X0_19 rfl (by decide +kernel) rfl rfl (ks_dirty hf _) dX0_makeEmpty_20 ?_
  refine kg_aload_n cx dX0_makeEmpty_23 rfl ?_
  refine kg_iconst (v := 0) cx dX0_makeEmpty_24 (by decide) ?_
  refine kg_put (ci := 0) (ty := .boolean) cx (44 + f) 4 kfs_X0 tyX0 tyX0_ok nmX0 rfl (by decide) (kw_at_o hf) (Nat.le_of_ble_eq_true rfl) kf_X0_32 rfl (by decide +kernel) rfl rfl (ks_marked hf _) dX0_makeEmpty_25 ?_
  exact kg_return cx hr _ rfl (⟨rfl, rfl⟩) dX0_makeEmpty_28
