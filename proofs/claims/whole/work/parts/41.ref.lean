set_option maxHeartbeats 4000000 in
set_option maxRecDepth 100000 in
theorem r_thrown (l : Launch) (D : va_G) (c : Nat → ClassId) (rd : Nat → Nat) (u : kS) : kR l D c rd yX4_thrown (Cond.code yX4_thrown cX4_thrown 1 (some .int)) 0 0 u [.ref (rd 0)] (fun v u9 => v = some (.int (u 20 0 0)) ∧ u9 = u) := by
  refine kR.mk (by decide) (by simp [Value.category]) (Nat.le_of_ble_eq_true rfl) ?_
  intro p e s m args below meth c9 cx hr
  refine kg_aload_n cx dX4_thrown_0 rfl ?_
  refine kg_get (ci := 4) cx 0 0 kfs_X4 rfl (by decide) rfl rfl kf_X4_69 dX4_thrown_1 ?_
  exact kg_ireturn cx hr (rfl) _ rfl (⟨rfl, rfl⟩) dX4_thrown_4
set_option maxHeartbeats 4000000 in
set_option maxRecDepth 100000 in
theorem r_refused (l : Launch) (D : va_G) (c : Nat → ClassId) (rd : Nat → Nat) (u : kS) (x : Int32) : kR l D c rd yX4_refused (Cond.code yX4_refused cX4_refused 2 (some .boolean)) 0 0 u [.ref (rd 0), .int x] (fun v u9 => v = some (.int (kb (0 < x))) ∧ u9 = ku u 20 0 0 x) := by
  refine kR.mk (by decide) (by simp [Value.category]) (Nat.le_of_ble_eq_true rfl) ?_
  intro p e s m args below meth c9 cx hr
  refine kg_aload_n cx dX4_refused_0 rfl ?_
  refine kg_iload_n cx dX4_refused_1 rfl ?_
  refine kg_put (ci := 4) (ty := .int) cx 0 0 kfs_X4 tyX4 tyX4_ok nmX4 rfl (by decide) rfl (Nat.le_of_ble_eq_true rfl) kf_X4_69 rfl (by decide +kernel) rfl rfl (kq_refusal _) dX4_refused_2 ?_
  refine kg_iload_n cx dX4_refused_5 rfl ?_
  refine kg_if_le cx 13 dX4_refused_6 (by decide) (fun h1 => ?_) (fun h1 => ?_)
  · refine kg_iconst (v := 0) cx dX4_refused_13 (by decide) ?_
    refine kg_top (kb (0 < x)) (kb_0 (fun q => absurd q (Int32.not_lt.mpr h1))).symm ?_
    exact kg_ireturn cx hr (kb_nar _) _ rfl (⟨rfl, rfl⟩) dX4_refused_14
  · refine kg_iconst (v := 1) cx dX4_refused_9 (by decide) ?_
    refine kg_goto cx 14 dX4_refused_10 (by decide) ?_
    refine kg_top (kb (0 < x)) (kb_1 (Int32.not_le.mp h1)).symm ?_
    exact kg_ireturn cx hr (kb_nar _) _ rfl (⟨rfl, rfl⟩) dX4_refused_14
set_option maxHeartbeats 4000000 in
set_option maxRecDepth 100000 in
theorem r_isIn (l : Launch) (D : va_G) (c : Nat → ClassId) (rd : Nat → Nat) (u : kS) (x a b : Int32) : kR l D c rd yX4_isIn (Cond.code yX4_isIn cX4_isIn 3 (some .boolean)) 0 0 u [.int x, .int a, .int b] (fun v u9 => v = some (.int (kb (a ≤ x ∧ x ≤ b))) ∧ u9 = u) := by
  refine kR.mk (by decide) (by simp [Value.category]) (Nat.le_of_ble_eq_true rfl) ?_
  intro p e s m args below meth c9 cx hr
  refine kg_iload_n cx dX4_isIn_0 rfl ?_
  refine kg_iload_n cx dX4_isIn_1 rfl ?_
  refine kg_icmp_lt cx 14 dX4_isIn_2 (by decide) (fun h1 => ?_) (fun h1 => ?_)
  · refine kg_iconst (v := 0) cx dX4_isIn_14 (by decide) ?_
    refine kg_top (kb (a ≤ x ∧ x ≤ b)) (kb_0 (fun q => absurd h1 (Int32.not_lt.mpr q.1))).symm ?_
    exact kg_ireturn cx hr (kb_nar _) _ rfl (⟨rfl, rfl⟩) dX4_isIn_15
  · refine kg_iload_n cx dX4_isIn_5 rfl ?_
    refine kg_iload_n cx dX4_isIn_6 rfl ?_
    refine kg_icmp_gt cx 14 dX4_isIn_7 (by decide) (fun h2 => ?_) (fun h2 => ?_)
    · refine kg_iconst (v := 0) cx dX4_isIn_14 (by decide) ?_
      refine kg_top (kb (a ≤ x ∧ x ≤ b)) (kb_0 (fun q => absurd h2 (Int32.not_lt.mpr q.2))).symm ?_
      exact kg_ireturn cx hr (kb_nar _) _ rfl (⟨rfl, rfl⟩) dX4_isIn_15
    · refine kg_iconst (v := 1) cx dX4_isIn_10 (by decide) ?_
      refine kg_goto cx 15 dX4_isIn_11 (by decide) ?_
      refine kg_top (kb (a ≤ x ∧ x ≤ b)) (kb_1 (⟨Int32.not_lt.mp h1, Int32.not_lt.mp h2⟩)).symm ?_
      exact kg_ireturn cx hr (kb_nar _) _ rfl (⟨rfl, rfl⟩) dX4_isIn_15
set_option maxHeartbeats 4000000 in
set_option maxRecDepth 100000 in
theorem r_frameOf (l : Launch) (D : va_G) (c : Nat → ClassId) (rd : Nat → Nat) (n : Nat) (u : kS) (pg : Int32) (hn : n ≤ 8) (hF : u 21 0 0 = nI n) : kR l D c rd yX4_frameOf (Cond.code yX4_frameOf cX4_frameOf 3 (some .int)) 0 0 u [.ref (rd 0), .int pg] (fun v u9 => (∃ r, v = some (.int r) ∧ kFind u n pg r) ∧ u9 = u) := by
  refine kR.mk (by decide) (by simp [Value.category]) (Nat.le_of_ble_eq_true rfl) ?_
  intro p e s m args below meth c9 cx hr
  refine kg_iconst (v := 0) cx dX4_frameOf_0 (by decide) ?_
  refine kg_istore_n cx dX4_frameOf_1 (by decide) ?_
  have loop : ∀ (k i : Nat), n - i = k → i ≤ n → (∀ j, j < i → u 1 j 0 ≠ pg) → kgR p l e 0 0 s m args below meth c9 3 D c rd u (fun v u9 => (∃ r, v = some (.int r) ∧ kFind u n pg r) ∧ u9 = u) u 2 [some (.ref (rd 0)), some (.int pg), some (.int (nI i))] [] := by
    intro k
    induction k with
    | zero =>
      intro i hk hi hj
      have e8 : i = n := by omega
      subst i
      refine kg_iload_n cx dX4_frameOf_2 rfl ?_
      refine kg_aload_n cx dX4_frameOf_3 rfl ?_
      refine kg_get (ci := 4) cx 0 1 kfs_X4 rfl (by decide) rfl rfl kf_X4_65 dX4_frameOf_4 ?_
      refine kg_top (nI n) (hF) ?_
      refine kg_icmp_ge cx 28 dX4_frameOf_7 (by decide) (fun h1 => ?_) (fun h1 => ?_)
      · refine kg_iconst (v := (-1)) cx dX4_frameOf_28 (by decide) ?_
        exact kg_ireturn cx hr (rfl) _ rfl (⟨⟨_, rfl, Or.inr ⟨rfl, hj⟩⟩, rfl⟩) dX4_frameOf_29
      · exact absurd (Int32.le_refl _) h1
    | succ k ih =>
      intro i hk hi hj
      have hin : i < n := by omega
      refine kg_iload_n cx dX4_frameOf_2 rfl ?_
      refine kg_aload_n cx dX4_frameOf_3 rfl ?_
      refine kg_get (ci := 4) cx 0 1 kfs_X4 rfl (by decide) rfl rfl kf_X4_65 dX4_frameOf_4 ?_
      refine kg_top (nI n) (hF) ?_
      refine kg_icmp_ge cx 28 dX4_frameOf_7 (by decide) (fun h1 => ?_) (fun h1 => ?_)
      · exact absurd h1 (nI_ge hin (by omega))
      · refine kg_aload_n cx dX4_frameOf_10 rfl ?_
        refine kg_get (ci := 4) cx 0 4 kfs_X4 rfl (by decide) rfl rfl kf_X4_16 dX4_frameOf_11 ?_
        refine kg_iload_n cx dX4_frameOf_14 rfl ?_
        refine kg_ialdN cx 3 0 i rfl rfl (rfl) (by omega) (by decide) (rfl) dX4_frameOf_15 ?_
        refine kg_iload_n cx dX4_frameOf_16 rfl ?_
        refine kg_icmp_ne cx 22 dX4_frameOf_17 (by decide) (fun h2 => ?_) (fun h2 => ?_)
        · refine kg_iinc (v := nI (i + 1)) cx dX4_frameOf_22 rfl (nI_1 i) (by decide) ?_
          refine kg_goto cx 2 dX4_frameOf_25 (by decide) ?_
          refine ih (i + 1) (by omega) (by omega) (fun j hj9 => ?_)
          by_cases e9 : j = i
          · rw [e9]; exact h2
          · exact hj j (by omega)
        · refine kg_iload_n cx dX4_frameOf_20 rfl ?_
          exact kg_ireturn cx hr (rfl) _ rfl (⟨⟨_, rfl, Or.inl ⟨i, hin, rfl, h2, hj⟩⟩, rfl⟩) dX4_frameOf_21
  exact loop n 0 rfl (Nat.zero_le _) (fun j h => absurd h (Nat.not_lt_zero _))
set_option maxHeartbeats 4000000 in
set_option maxRecDepth 100000 in
theorem r_mayGo (l : Launch) (D : va_G) (c : Nat → ClassId) (rd : Nat → Nat) (u : kS) (f : Nat) (hf : f < 8) : kR l D c rd yX4_mayGo (Cond.code yX4_mayGo cX4_mayGo 2 (some .boolean)) 0 0 u [.ref (rd 0), .int (nI f)] (fun v u9 => v = some (.int (kb (kMay u f (u 15 0 0)))) ∧ u9 = u) := by
  refine kR.mk (by decide) (by simp [Value.category]) (Nat.le_of_ble_eq_true rfl) ?_
  intro p e s m args below meth c9 cx hr
  refine kg_aload_n cx dX4_mayGo_0 rfl ?_
  refine kg_get (ci := 4) cx 0 7 kfs_X4 rfl (by decide) rfl rfl kf_X4_25 dX4_mayGo_1 ?_
  refine kg_iload_n cx dX4_mayGo_4 rfl ?_
  refine kg_ialdN cx 6 0 f rfl rfl (rfl) (hf) (by decide) (rfl) dX4_mayGo_5 ?_
  refine kg_if_ne cx 35 dX4_mayGo_6 (by decide) (fun h1 => ?_) (fun h1 => ?_)
  · refine kg_iconst (v := 0) cx dX4_mayGo_35 (by decide) ?_
    refine kg_top (kb (kMay u f (u 15 0 0))) (kb_0 (fun q => h1 q.1)).symm ?_
    exact kg_ireturn cx hr (kb_nar _) _ rfl (⟨rfl, rfl⟩) dX4_mayGo_36
  · refine kg_aload_n cx dX4_mayGo_9 rfl ?_
    refine kg_get (ci := 4) cx 0 8 kfs_X4 rfl (by decide) rfl rfl kf_X4_28 dX4_mayGo_10 ?_
    refine kg_iload_n cx dX4_mayGo_13 rfl ?_
    refine kg_zaldN cx 7 1 f rfl rfl (rfl) (hf) (by decide) (rfl) dX4_mayGo_14 ?_
    refine kg_if_eq cx 31 dX4_mayGo_15 (by decide) (fun h2 => ?_) (fun h2 => ?_)
    · refine kg_iconst (v := 1) cx dX4_mayGo_31 (by decide) ?_
      refine kg_goto cx 36 dX4_mayGo_32 (by decide) ?_
      refine kg_top (kb (kMay u f (u 15 0 0))) (kb_1 (⟨h1, Or.inl h2⟩)).symm ?_
      exact kg_ireturn cx hr (kb_nar _) _ rfl (⟨rfl, rfl⟩) dX4_mayGo_36
    · refine kg_aload_n cx dX4_mayGo_18 rfl ?_
      refine kg_get (ci := 4) cx 0 6 kfs_X4 rfl (by decide) rfl rfl kf_X4_22 dX4_mayGo_19 ?_
      refine kg_iload_n cx dX4_mayGo_22 rfl ?_
      refine kg_ialdN cx 5 0 f rfl rfl (rfl) (hf) (by decide) (rfl) dX4_mayGo_23 ?_
      refine kg_aload_n cx dX4_mayGo_24 rfl ?_
      refine kg_get (ci := 4) cx 0 12 kfs_X4 rfl (by decide) rfl rfl kf_X4_72 dX4_mayGo_25 ?_
      refine kg_icmp_gt cx 35 dX4_mayGo_28 (by decide) (fun h3 => ?_) (fun h3 => ?_)
      · refine kg_iconst (v := 0) cx dX4_mayGo_35 (by decide) ?_
        refine kg_top (kb (kMay u f (u 15 0 0))) (kb_0 (fun q => q.2.elim h2 (fun q => absurd h3 (Int32.not_lt.mpr q)))).symm ?_
        exact kg_ireturn cx hr (kb_nar _) _ rfl (⟨rfl, rfl⟩) dX4_mayGo_36
      · refine kg_iconst (v := 1) cx dX4_mayGo_31 (by decide) ?_
        refine kg_goto cx 36 dX4_mayGo_32 (by decide) ?_
        refine kg_top (kb (kMay u f (u 15 0 0))) (kb_1 (⟨h1, Or.inr (Int32.not_lt.mp h3)⟩)).symm ?_
        exact kg_ireturn cx hr (kb_nar _) _ rfl (⟨rfl, rfl⟩) dX4_mayGo_36
/-- the first k numbers of the frame f are laid on the page q -/
def kcR (u : kS) (q f k : Nat) : kS := fun F i j => if F = 0 ∧ i = q ∧ j < k then u 23 f j else u F i j
theorem kcR_0 (u : kS) (q f : Nat) : kcR u q f 0 = u := by funext F i j; simp [kcR]
theorem kcR_s (u : kS) (q f k : Nat) : ku (kcR u q f k) 0 q k (u 23 f k) = kcR u q f (k + 1) := by
  funext F i j
  by_cases h1 : F = 0
  · subst h1
    by_cases h2 : i = q
    · subst h2
      by_cases h3 : j = k
      · simp [ku, kcR, h3]
      · by_cases h4 : j < k
        · simp [ku, kcR, h3, h4, Nat.lt_succ_of_lt h4]
        · simp [ku, kcR, h3, h4, show ¬ j < k + 1 by omega]
    · simp [ku, kcR, h2]
  · simp [ku, kcR, h1]
/-- the frame f is written to the page q, by the reference -/
def kBackR (u : kS) (f q : Nat) : kS := ku (ku (ku (kcR u q f 8) 0 q 8 (u 5 f 8)) 3 f 0 0) 7 0 0 (u 7 0 0 + 1)
set_option maxHeartbeats 4000000 in
set_option maxRecDepth 100000 in
theorem r_write (l : Launch) (D : va_G) (c : Nat → ClassId) (rd : Nat → Nat) (u : kS) (f q : Nat) (hf : f < 8) (hq : q < 32) (hQ : u 1 f 0 = nI q) : kR l D c rd yX4_write (Cond.code yX4_write cX4_write 3 none) 0 0 u [.ref (rd 0), .int (nI f)] (fun v u9 => v = none ∧ u9 = kBackR u f q) := by
  refine kR.mk (by decide) (by simp [Value.category]) (Nat.le_of_ble_eq_true rfl) ?_
  intro p e s m args below meth c9 cx hr
  refine kg_iconst (v := 0) cx dX4_write_0 (by decide) ?_
  refine kg_istore_n cx dX4_write_1 (by decide) ?_
  have loop : ∀ (k i : Nat), 8 - i = k → i ≤ 8 → kgR p l e 0 0 s m args below meth c9 3 D c rd u (fun v u9 => v = none ∧ u9 = kBackR u f q) (kcR u q f i) 2 [some (.ref (rd 0)), some (.int (nI f)), some (.int (nI i))] [] := by
    intro k
    induction k with
    | zero =>
      intro i hk hi
      have e8 : i = 8 := by omega
      subst i
      refine kg_iload_n cx dX4_write_2 rfl ?_
      refine kg_bipush (v := (nI 8)) cx dX4_write_3 (by decide) ?_
      refine kg_icmp_ge cx 41 dX4_write_5 (by decide) (fun h1 => ?_) (fun h1 => ?_)
      · refine kg_aload_n cx dX4_write_41 rfl ?_
        refine kg_get (ci := 4) cx 0 3 kfs_X4 rfl (by decide) rfl rfl kf_X4_13 dX4_write_42 ?_
        refine kg_aload_n cx dX4_write_45 rfl ?_
        refine kg_get (ci := 4) cx 0 4 kfs_X4 rfl (by decide) rfl rfl kf_X4_16 dX4_write_46 ?_
        refine kg_iload_n cx dX4_write_49 rfl ?_
        refine kg_ialdN (v := (nI q)) cx 3 0 f rfl rfl (rfl) (hf) (by decide) (by simp [kcR]; exact hQ) dX4_write_50 ?_
        refine kg_aload_n cx dX4_write_51 rfl ?_
        refine kg_get (ci := 4) cx 0 6 kfs_X4 rfl (by decide) rfl rfl kf_X4_22 dX4_write_52 ?_
        refine kg_iload_n cx dX4_write_55 rfl ?_
        refine kg_ialdN (v := (u 5 f 8)) cx 5 0 f rfl rfl (rfl) (hf) (by decide) (by simp [kcR]) dX4_write_56 ?_
        refine kg_iastN cx 2 0 q rfl rfl (rfl) (hq) (by decide) (kq_diskLsn q _) dX4_write_57 ?_
        refine kg_aload_n cx dX4_write_58 rfl ?_
        refine kg_get (ci := 4) cx 0 8 kfs_X4 rfl (by decide) rfl rfl kf_X4_28 dX4_write_59 ?_
        refine kg_iload_n cx dX4_write_62 rfl ?_
        refine kg_iconst (v := 0) cx dX4_write_63 (by decide) ?_
        refine kg_zastN cx 7 1 f rfl rfl (rfl) (hf) (by decide) (by decide) (kq_isDirty f _) dX4_write_64 ?_
        refine kg_aload_n cx dX4_write_65 rfl ?_
        refine kg_dup cx dX4_write_66 rfl ?_
        refine kg_get (ci := 4) cx 0 23 kfs_X4 rfl (by decide) rfl rfl kf_X4_75 dX4_write_67 ?_
        refine kg_top (u 7 0 0) (by simp [ku, kcR]) ?_
        refine kg_iconst (v := 1) cx dX4_write_70 (by decide) ?_
        refine kg_iadd cx dX4_write_71 ?_
        refine kg_put (ci := 4) (ty := .int) cx 0 23 kfs_X4 tyX4 tyX4_ok nmX4 rfl (by decide) rfl (Nat.le_of_ble_eq_true rfl) kf_X4_75 rfl (by decide +kernel) rfl rfl (kq_written _) dX4_write_72 ?_
        exact kg_return cx hr _ rfl (⟨rfl, rfl⟩) dX4_write_75
      · exact absurd (Int32.le_refl _) h1
    | succ k ih =>
      intro i hk hi
      have hin : i < 8 := by omega
      refine kg_iload_n cx dX4_write_2 rfl ?_
      refine kg_bipush (v := (nI 8)) cx dX4_write_3 (by decide) ?_
      refine kg_icmp_ge cx 41 dX4_write_5 (by decide) (fun h1 => ?_) (fun h1 => ?_)
      · exact absurd h1 (nI_ge hin (by omega))
      · refine kg_aload_n cx dX4_write_8 rfl ?_
        refine kg_get (ci := 4) cx 0 2 kfs_X4 rfl (by decide) rfl rfl kf_X4_7 dX4_write_9 ?_
        refine kg_bipush (v := (nI 8)) cx dX4_write_12 (by decide) ?_
        refine kg_aload_n cx dX4_write_14 rfl ?_
        refine kg_get (ci := 4) cx 0 4 kfs_X4 rfl (by decide) rfl rfl kf_X4_16 dX4_write_15 ?_
        refine kg_iload_n cx dX4_write_18 rfl ?_
        refine kg_ialdN (v := (nI q)) cx 3 0 f rfl rfl (rfl) (hf) (by decide) (by simp [kcR]; exact hQ) dX4_write_19 ?_
        refine kg_imul cx dX4_write_20 ?_
        refine kg_top (nI (8 * q)) (pk_mul 8 q) ?_
        refine kg_iload_n cx dX4_write_21 rfl ?_
        refine kg_iadd cx dX4_write_22 ?_
        refine kg_top (nI (8 * q + i)) (nI_add _ _) ?_
        refine kg_aload_n cx dX4_write_23 rfl ?_
        refine kg_get (ci := 4) cx 0 5 kfs_X4 rfl (by decide) rfl rfl kf_X4_19 dX4_write_24 ?_
        refine kg_bipush (v := (nI 8)) cx dX4_write_27 (by decide) ?_
        refine kg_iload_n cx dX4_write_29 rfl ?_
        refine kg_imul cx dX4_write_30 ?_
        refine kg_top (nI (8 * f)) (pk_mul 8 f) ?_
        refine kg_iload_n cx dX4_write_31 rfl ?_
        refine kg_iadd cx dX4_write_32 ?_
        refine kg_top (nI (8 * f + i)) (nI_add _ _) ?_
        refine kg_ialdN (v := (u 23 f i)) cx 4 0 (8 * f + i) rfl rfl (rfl) (by omega) (by decide) (by show kcR u q f i 23 ((8 * f + i) / 8) ((8 * f + i) % 8) = u 23 f i; rw [show (8 * f + i) / 8 = f by omega, show (8 * f + i) % 8 = i by omega]; simp [kcR]) dX4_write_33 ?_
        refine kg_iastN cx 1 0 (8 * q + i) rfl rfl (rfl) (by omega) (by decide) (kq_disk q i hin _) dX4_write_34 ?_
        refine kg_iinc (v := nI (i + 1)) cx dX4_write_35 rfl (nI_1 i) (by decide) ?_
        refine kg_goto cx 2 dX4_write_38 (by decide) ?_
        have := ih (i + 1) (by omega) (by omega)
        rw [← kcR_s u q f i] at this
        exact this
  have := loop 8 0 rfl (by decide)
  rw [kcR_0] at this
  exact this
