/-- r: the least TRANSACTION that isn't ACTIVE, or -1 -/
def kLeast (u : kS) (r : Int32) : Prop := (∃ t, t < 8 ∧ r = nI t ∧ u 16 t 0 = 0 ∧ ∀ j, j < t → u 16 j 0 ≠ 0) ∨ (r = -1 ∧ ∀ j, j < 8 → u 16 j 0 ≠ 0)
/-- how many of the first k aren't 0 -/
def kct (f : Nat → Int32) : Nat → Nat
  | 0 => 0
  | k + 1 => if f k = 0 then kct f k else kct f k + 1
theorem kct_le (f : Nat → Int32) : ∀ k, kct f k ≤ k
  | 0 => Nat.le_refl _
  | k + 1 => by
    have h := kct_le f k
    unfold kct
    split <;> omega
/-- so many records more fit in beside the undos -/
abbrev kRm (u : kS) (x : Nat) : Prop := kss (u 14 0 0 + nI x) (fun t => u 13 t 0) 8 ≤ nI 400
set_option maxHeartbeats 4000000 in
set_option maxRecDepth 100000 in
theorem c_X3_leastInactive (l : Launch) (D : va_G) (c : Nat → ClassId) (ad : Nat → Nat → Nat) (n : Nat) (u : kS) : kC l D c ad n yX3_leastInactive (Cond.code yX3_leastInactive cX3_leastInactive 2 (some .int)) 0 0 u [.ref (ad 0 0)] (fun v u9 => (∃ r, v = some (.int r) ∧ kLeast u r) ∧ u9 = u) := by
  refine kC.mk (by decide) (by simp [Value.category]) (Nat.le_of_ble_eq_true rfl) ?_
  intro p e s m args below meth c9 cx hr
  refine kg_iconst (v := 0) cx dX3_leastInactive_0 (by decide) ?_
  refine kg_istore_n cx dX3_leastInactive_1 (by decide) ?_
  have loop : ∀ (k i : Nat), 8 - i = k → i ≤ 8 → (∀ j, j < i → u 16 j 0 ≠ 0) → kgC p l e 0 0 s m args below meth c9 2 D c ad n u (fun v u9 => (∃ r, v = some (.int r) ∧ kLeast u r) ∧ u9 = u) u 2 [some (.ref (ad 0 0)), some (.int (nI i))] [] := by
    intro k
    induction k with
    | zero =>
      intro i hk hi hj
      have e8 : i = 8 := by omega
      subst i
      refine kg_iload_n cx dX3_leastInactive_2 rfl ?_
      refine kg_bipush (v := (nI 8)) cx dX3_leastInactive_3 (by decide) ?_
      refine kg_icmp_ge cx 25 dX3_leastInactive_5 (by decide) (fun h1 => ?_) (fun h1 => ?_)
      · refine kg_iconst (v := (-1)) cx dX3_leastInactive_25 (by decide) ?_
        exact kg_ireturn cx hr (rfl) _ rfl (⟨⟨_, rfl, Or.inr ⟨rfl, hj⟩⟩, rfl⟩) dX3_leastInactive_26
      · exact absurd (Int32.le_refl _) h1
    | succ k ih =>
      intro i hk hi hj
      have hin : i < 8 := by omega
      refine kg_iload_n cx dX3_leastInactive_2 rfl ?_
      refine kg_bipush (v := (nI 8)) cx dX3_leastInactive_3 (by decide) ?_
      refine kg_icmp_ge cx 25 dX3_leastInactive_5 (by decide) (fun h1 => ?_) (fun h1 => ?_)
      · exact absurd h1 (nI_ge hin (by omega))
      · refine kg_aload_n cx dX3_leastInactive_8 rfl ?_
        refine kg_get (ci := 3) cx 0 2 kfs_X3 rfl (by decide) rfl rfl kf_X3_34 dX3_leastInactive_9 ?_
        refine kg_iload_n cx dX3_leastInactive_12 rfl ?_
        refine kg_zaldN cx 5 1 i rfl rfl (rfl) (hin) (by decide) (rfl) dX3_leastInactive_13 ?_
        refine kg_if_ne cx 19 dX3_leastInactive_14 (by decide) (fun h2 => ?_) (fun h2 => ?_)
        · refine kg_iinc (v := nI (i + 1)) cx dX3_leastInactive_19 rfl (nI_1 i) (by decide) ?_
          refine kg_goto cx 2 dX3_leastInactive_22 (by decide) ?_
          refine ih (i + 1) (by omega) (by omega) (fun j hj9 => ?_)
          by_cases e9 : j = i
          · rw [e9]; exact h2
          · exact hj j (by omega)
        · refine kg_iload_n cx dX3_leastInactive_17 rfl ?_
          exact kg_ireturn cx hr (rfl) _ rfl (⟨⟨_, rfl, Or.inl ⟨i, hin, rfl, h2, hj⟩⟩, rfl⟩) dX3_leastInactive_18
  exact loop 8 0 rfl (by decide) (fun j h => absurd h (Nat.not_lt_zero _))
set_option maxHeartbeats 4000000 in
set_option maxRecDepth 100000 in
theorem c_X3_activeOnes (l : Launch) (D : va_G) (c : Nat → ClassId) (ad : Nat → Nat → Nat) (n : Nat) (u : kS) : kC l D c ad n yX3_activeOnes (Cond.code yX3_activeOnes cX3_activeOnes 3 (some .int)) 0 0 u [.ref (ad 0 0)] (fun v u9 => v = some (.int (nI (kct (fun t => u 16 t 0) 8))) ∧ u9 = u) := by
  refine kC.mk (by decide) (by simp [Value.category]) (Nat.le_of_ble_eq_true rfl) ?_
  intro p e s m args below meth c9 cx hr
  refine kg_iconst (v := 0) cx dX3_activeOnes_0 (by decide) ?_
  refine kg_istore_n cx dX3_activeOnes_1 (by decide) ?_
  refine kg_iconst (v := 0) cx dX3_activeOnes_2 (by decide) ?_
  refine kg_istore_n cx dX3_activeOnes_3 (by decide) ?_
  have loop : ∀ (k i : Nat), 8 - i = k → i ≤ 8 → kgC p l e 0 0 s m args below meth c9 3 D c ad n u (fun v u9 => v = some (.int (nI (kct (fun t => u 16 t 0) 8))) ∧ u9 = u) u 4 [some (.ref (ad 0 0)), some (.int (nI (kct (fun t => u 16 t 0) i))), some (.int (nI i))] [] := by
    intro k
    induction k with
    | zero =>
      intro i hk hi
      have e8 : i = 8 := by omega
      subst i
      refine kg_iload_n cx dX3_activeOnes_4 rfl ?_
      refine kg_bipush (v := (nI 8)) cx dX3_activeOnes_5 (by decide) ?_
      refine kg_icmp_ge cx 28 dX3_activeOnes_7 (by decide) (fun h1 => ?_) (fun h1 => ?_)
      · refine kg_iload_n cx dX3_activeOnes_28 rfl ?_
        exact kg_ireturn cx hr (rfl) _ rfl (⟨rfl, rfl⟩) dX3_activeOnes_29
      · exact absurd (Int32.le_refl _) h1
    | succ k ih =>
      intro i hk hi
      have hin : i < 8 := by omega
      refine kg_iload_n cx dX3_activeOnes_4 rfl ?_
      refine kg_bipush (v := (nI 8)) cx dX3_activeOnes_5 (by decide) ?_
      refine kg_icmp_ge cx 28 dX3_activeOnes_7 (by decide) (fun h1 => ?_) (fun h1 => ?_)
      · exact absurd h1 (nI_ge hin (by omega))
      · refine kg_aload_n cx dX3_activeOnes_10 rfl ?_
        refine kg_get (ci := 3) cx 0 2 kfs_X3 rfl (by decide) rfl rfl kf_X3_34 dX3_activeOnes_11 ?_
        refine kg_iload_n cx dX3_activeOnes_14 rfl ?_
        refine kg_zaldN cx 5 1 i rfl rfl (rfl) (hin) (by decide) (rfl) dX3_activeOnes_15 ?_
        refine kg_if_eq cx 22 dX3_activeOnes_16 (by decide) (fun h2 => ?_) (fun h2 => ?_)
        · refine kg_iinc (v := nI (i + 1)) cx dX3_activeOnes_22 rfl (nI_1 i) (by decide) ?_
          refine kg_goto cx 4 dX3_activeOnes_25 (by decide) ?_
          have e9 : kct (fun t => u 16 t 0) (i + 1) = kct (fun t => u 16 t 0) i := if_pos h2
          have := ih (i + 1) (by omega) (by omega)
          rw [e9] at this
          exact this
        · refine kg_iinc (v := nI (kct (fun t => u 16 t 0) i + 1)) cx dX3_activeOnes_19 rfl (nI_1 _) (by decide) ?_
          refine kg_iinc (v := nI (i + 1)) cx dX3_activeOnes_22 rfl (nI_1 i) (by decide) ?_
          refine kg_goto cx 4 dX3_activeOnes_25 (by decide) ?_
          have e9 : kct (fun t => u 16 t 0) (i + 1) = kct (fun t => u 16 t 0) i + 1 := if_neg h2
          have := ih (i + 1) (by omega) (by omega)
          rw [e9] at this
          exact this
  exact loop 8 0 rfl (by decide)
theorem kfl_0 (u : kS) (F : Nat) (x : Int32) : kfl u F 0 x = u := by
  funext F' i j
  simp [kfl]
theorem kfl2_s (u : kS) (k : Nat) : ku (ku (kfl (kfl u 16 k 0) 17 k 0) 16 k 0 0) 17 k 0 0 = kfl (kfl u 16 (k + 1) 0) 17 (k + 1) 0 := by
  funext F' i j
  by_cases h1 : F' = 16
  · subst h1
    by_cases h2 : j = 0
    · by_cases h3 : i = k
      · simp [ku, kfl, h2, h3]
      · by_cases h4 : i < k
        · simp [ku, kfl, h2, h3, h4, Nat.lt_succ_of_lt h4]
        · simp [ku, kfl, h2, h3, h4, show ¬ i < k + 1 by omega]
    · simp [ku, kfl, h2]
  · by_cases h5 : F' = 17
    · subst h5
      by_cases h2 : j = 0
      · by_cases h3 : i = k
        · simp [ku, kfl, h2, h3]
        · by_cases h4 : i < k
          · simp [ku, kfl, h2, h3, h4, Nat.lt_succ_of_lt h4]
          · simp [ku, kfl, h2, h3, h4, show ¬ i < k + 1 by omega]
      · simp [ku, kfl, h2]
    · simp [ku, kfl, h1, h5]
set_option maxHeartbeats 4000000 in
set_option maxRecDepth 100000 in
theorem c_X3_forgetActiveOnes (l : Launch) (D : va_G) (c : Nat → ClassId) (ad : Nat → Nat → Nat) (n : Nat) (u : kS) : kC l D c ad n yX3_forgetActiveOnes (Cond.code yX3_forgetActiveOnes cX3_forgetActiveOnes 2 none) 0 0 u [.ref (ad 0 0)] (fun v u9 => v = none ∧ u9 = kfl (kfl u 16 8 0) 17 8 0) := by
  refine kC.mk (by decide) (by simp [Value.category]) (Nat.le_of_ble_eq_true rfl) ?_
  intro p e s m args below meth c9 cx hr
  refine kg_iconst (v := 0) cx dX3_forgetActiveOnes_0 (by decide) ?_
  refine kg_istore_n cx dX3_forgetActiveOnes_1 (by decide) ?_
  have loop : ∀ (k i : Nat), 8 - i = k → i ≤ 8 → kgC p l e 0 0 s m args below meth c9 2 D c ad n u (fun v u9 => v = none ∧ u9 = kfl (kfl u 16 8 0) 17 8 0) (kfl (kfl u 16 i 0) 17 i 0) 2 [some (.ref (ad 0 0)), some (.int (nI i))] [] := by
    intro k
    induction k with
    | zero =>
      intro i hk hi
      have e8 : i = 8 := by omega
      subst i
      refine kg_iload_n cx dX3_forgetActiveOnes_2 rfl ?_
      refine kg_bipush (v := (nI 8)) cx dX3_forgetActiveOnes_3 (by decide) ?_
      refine kg_icmp_ge cx 28 dX3_forgetActiveOnes_5 (by decide) (fun h1 => ?_) (fun h1 => ?_)
      · exact kg_return cx hr _ rfl (⟨rfl, rfl⟩) dX3_forgetActiveOnes_28
      · exact absurd (Int32.le_refl _) h1
    | succ k ih =>
      intro i hk hi
      have hin : i < 8 := by omega
      refine kg_iload_n cx dX3_forgetActiveOnes_2 rfl ?_
      refine kg_bipush (v := (nI 8)) cx dX3_forgetActiveOnes_3 (by decide) ?_
      refine kg_icmp_ge cx 28 dX3_forgetActiveOnes_5 (by decide) (fun h1 => ?_) (fun h1 => ?_)
      · exact absurd h1 (nI_ge hin (by omega))
      · refine kg_aload_n cx dX3_forgetActiveOnes_8 rfl ?_
        refine kg_get (ci := 3) cx 0 2 kfs_X3 rfl (by decide) rfl rfl kf_X3_34 dX3_forgetActiveOnes_9 ?_
        refine kg_iload_n cx dX3_forgetActiveOnes_12 rfl ?_
        refine kg_iconst (v := 0) cx dX3_forgetActiveOnes_13 (by decide) ?_
        refine kg_zastN cx 5 1 i rfl rfl (rfl) (hin) (by decide) (by decide) (ks_active i _) dX3_forgetActiveOnes_14 ?_
        refine kg_aload_n cx dX3_forgetActiveOnes_15 rfl ?_
        refine kg_get (ci := 3) cx 0 3 kfs_X3 rfl (by decide) rfl rfl kf_X3_38 dX3_forgetActiveOnes_16 ?_
        refine kg_iload_n cx dX3_forgetActiveOnes_19 rfl ?_
        refine kg_iconst (v := 0) cx dX3_forgetActiveOnes_20 (by decide) ?_
        refine kg_zastN cx 6 1 i rfl rfl (rfl) (hin) (by decide) (by decide) (ks_abortBegun i _) dX3_forgetActiveOnes_21 ?_
        refine kg_iinc (v := nI (i + 1)) cx dX3_forgetActiveOnes_22 rfl (nI_1 i) (by decide) ?_
        refine kg_goto cx 2 dX3_forgetActiveOnes_25 (by decide) ?_
        have := ih (i + 1) (by omega) (by omega)
        rw [← kfl2_s u i] at this
        exact this
  have := loop 8 0 rfl (by decide)
  rw [kfl_0, kfl_0] at this
  exact this
def kBegin (u : kS) (r : Int32) (u9 : kS) : Prop := (∃ t, t < 8 ∧ u 16 t 0 = 0 ∧ (∀ j, j < t → u 16 j 0 ≠ 0) ∧ kRm u (2 + kct (fun t => u 16 t 0) 8) ∧ r = nI t ∧ u9 = ku u 16 t 0 1) ∨ (((∀ j, j < 8 → u 16 j 0 ≠ 0) ∨ ¬ kRm u (2 + kct (fun t => u 16 t 0) 8)) ∧ r = -2 ∧ u9 = u)
set_option maxHeartbeats 4000000 in
set_option maxRecDepth 100000 in
theorem c_X3_begin (l : Launch) (D : va_G) (c : Nat → ClassId) (ad : Nat → Nat → Nat) (n : Nat) (u : kS) : kC l D c ad n yX3_begin (Cond.code yX3_begin cX3_begin 2 (some .int)) 1 23 u [.ref (ad 0 0)] (fun v u9 => ∃ r, v = some (.int r) ∧ kBegin u r u9) := by
  refine kC.mk (by decide) (by simp [Value.category]) (Nat.le_of_ble_eq_true rfl) ?_
  intro p e s m args below meth c9 cx hr
  refine kg_aload_n cx dX3_begin_0 rfl ?_
  refine kg_callV (ci := 3) (na := 0) cx (c_X3_leastInactive l D c ad n u) 0 rfl rfl kcd_X3_leastInactive km_X3_69 kin_X3 kim_X3_leastInactive ksl_X3_leastInactive (by decide +kernel) rfl (by decide) (by decide) rfl (Nat.le_of_ble_eq_true rfl) dX3_begin_1 (fun _ => kw_adr _ _) (fun v9 u9 h9 => ?_)
  obtain ⟨⟨r9, rfl, hr9⟩, h9⟩ := h9
  subst u9
  rcases hr9 with ⟨t, ht, rfl, hz, hlf⟩ | ⟨rfl, hno⟩
  · refine kg_istore_n cx dX3_begin_4 (by decide) ?_
    refine kg_iload_n cx dX3_begin_5 rfl ?_
    refine kg_if_lt cx 25 dX3_begin_6 (by decide) (fun h1 => ?_) (fun h1 => ?_)
    · exact absurd h1 (nI_pos (by omega))
    · refine kg_aload_n cx dX3_begin_9 rfl ?_
      refine kg_get (ci := 3) cx 0 1 kfs_X3 rfl (by decide) rfl rfl kf_X3_30 dX3_begin_10 ?_
      refine kg_iconst (v := (nI 2)) cx dX3_begin_13 (by decide) ?_
      refine kg_aload_n cx dX3_begin_14 rfl ?_
      refine kg_callV (ci := 3) (na := 0) cx (c_X3_activeOnes l D c ad n u) 0 rfl rfl kcd_X3_activeOnes km_X3_73 kin_X3 kim_X3_activeOnes ksl_X3_activeOnes (by decide +kernel) rfl (by decide) (by decide) rfl (Nat.le_of_ble_eq_true rfl) dX3_begin_15 (fun _ => kw_adr _ _) (fun v9 u9 h9 => ?_)
      obtain ⟨rfl, h9⟩ := h9
      subst u9
      refine kg_iadd cx dX3_begin_18 ?_
      refine kg_top (nI (2 + kct (fun t => u 16 t 0) 8)) (nI_add _ _) ?_
      refine kg_callVN (ci := 1) (na := 1) cx (c_X1_hasRoomFor l D c ad n u (nI (2 + kct (fun t => u 16 t 0) 8))) 2 rfl rfl kcd_X1_hasRoomFor (kmn_X3_76 cx.2.2.2.2.2.2.2.2) kin_X1 kim_X1_hasRoomFor ksl_X1_hasRoomFor (by decide +kernel) rfl (by decide) (by decide) rfl (Nat.le_of_ble_eq_true rfl) dX3_begin_19 (fun _ => kw_adr _ _) (fun v9 u9 h9 => ?_)
      obtain ⟨rfl, h9⟩ := h9
      subst u9
      refine kg_if_ne cx 28 dX3_begin_22 (by decide) (fun h2 => ?_) (fun h2 => ?_)
      · have hrm : kRm u (2 + kct (fun t => u 16 t 0) 8) := by
          by_cases q : kRm u (2 + kct (fun t => u 16 t 0) 8)
          · exact q
          · exact absurd (kb_0 q) h2
        refine kg_aload_n cx dX3_begin_28 rfl ?_
        refine kg_get (ci := 3) cx 0 2 kfs_X3 rfl (by decide) rfl rfl kf_X3_34 dX3_begin_29 ?_
        refine kg_iload_n cx dX3_begin_32 rfl ?_
        refine kg_iconst (v := 1) cx dX3_begin_33 (by decide) ?_
        refine kg_zastN cx 5 1 t rfl rfl (rfl) (ht) (by decide) (by decide) (ks_active t _) dX3_begin_34 ?_
        refine kg_iload_n cx dX3_begin_35 rfl ?_
        exact kg_ireturn cx hr (rfl) _ rfl (⟨_, rfl, Or.inl ⟨t, ht, hz, hlf, hrm, rfl, rfl⟩⟩) dX3_begin_36
      · refine kg_bipush (v := (-2)) cx dX3_begin_25 (by decide) ?_
        exact kg_ireturn cx hr (rfl) _ rfl (⟨_, rfl, Or.inr ⟨Or.inr (fun q => absurd ((kb_1 q).symm.trans h2) (by decide)), rfl, rfl⟩⟩) dX3_begin_27
  · refine kg_istore_n cx dX3_begin_4 (by decide) ?_
    refine kg_iload_n cx dX3_begin_5 rfl ?_
    refine kg_if_lt cx 25 dX3_begin_6 (by decide) (fun h1 => ?_) (fun h1 => ?_)
    · refine kg_bipush (v := (-2)) cx dX3_begin_25 (by decide) ?_
      exact kg_ireturn cx hr (rfl) _ rfl (⟨_, rfl, Or.inr ⟨Or.inl hno, rfl, rfl⟩⟩) dX3_begin_27
    · exact absurd (by decide) h1
/-- the record i is laid on the disk: its page is p, its number k -/
def kPut (u : kS) (i p k : Nat) : kS := ku (ku u 0 p k (u 9 i 5)) 0 p 8 (nI i)
theorem kPut_F {u : kS} {i p k F a b : Nat} (h : F ≠ 0) : kPut u i p k F a b = u F a b := by
  unfold kPut
  rw [ku_F h, ku_F h]
set_option maxHeartbeats 4000000 in
set_option maxRecDepth 100000 in
theorem c_X3_putOnDisk (l : Launch) (D : va_G) (c : Nat → ClassId) (ad : Nat → Nat → Nat) (n : Nat) (u : kS) (i q k : Nat) (hi : i ≤ 400) (hq : q < 32) (hk : k < 8) (hQ : u 9 i 2 = nI q) (hK : u 9 i 3 = nI k) : kC l D c ad n yX3_putOnDisk (Cond.code yX3_putOnDisk cX3_putOnDisk 3 none) 1 22 u [.ref (ad 0 0), .int (nI i)] (fun v u9 => v = none ∧ u9 = kPut u i q k) := by
  refine kC.mk (by decide) (by simp [Value.category]) (Nat.le_of_ble_eq_true rfl) ?_
  intro p e s m args below meth c9 cx hr
  refine kg_aload_n cx dX3_putOnDisk_0 rfl ?_
  refine kg_get (ci := 3) cx 0 0 kfs_X3 rfl (by decide) rfl rfl kf_X3_23 dX3_putOnDisk_1 ?_
  refine kg_getN (ci := 2) cx 1 0 kfs_X2 rfl (by decide) rfl rfl (kfn_X3_151 cx.2.2.2.2.2.2.2.2) dX3_putOnDisk_4 ?_
  refine kg_aload_n cx dX3_putOnDisk_7 rfl ?_
  refine kg_get (ci := 3) cx 0 1 kfs_X3 rfl (by decide) rfl rfl kf_X3_30 dX3_putOnDisk_8 ?_
  refine kg_iload_n cx dX3_putOnDisk_11 rfl ?_
  refine kg_iconst (v := (nI 2)) cx dX3_putOnDisk_12 (by decide) ?_
  refine kg_callVN (ci := 1) (na := 2) cx (c_X1_value l D c ad n u i 2 hi (by decide)) 2 rfl rfl kcd_X1_value (kmn_X3_106 cx.2.2.2.2.2.2.2.2) kin_X1 kim_X1_value ksl_X1_value (by decide +kernel) rfl (by decide) (by decide) rfl (Nat.le_of_ble_eq_true rfl) dX3_putOnDisk_13 (fun _ => kw_adr _ _) (fun v9 u9 h9 => ?_)
  obtain ⟨rfl, h9⟩ := h9
  subst u9
  refine kg_top (nI q) (hQ) ?_
  refine kg_aaldAN cx 3 3 q rfl rfl (rfl) (hq) (by decide) (k_if hq _) dX3_putOnDisk_16 ?_
  refine kg_astore_n cx dX3_putOnDisk_17 (by decide) ?_
  refine kg_aload_n cx dX3_putOnDisk_18 rfl ?_
  refine kg_aload_n cx dX3_putOnDisk_19 rfl ?_
  refine kg_get (ci := 3) cx 0 1 kfs_X3 rfl (by decide) rfl rfl kf_X3_30 dX3_putOnDisk_20 ?_
  refine kg_iload_n cx dX3_putOnDisk_23 rfl ?_
  refine kg_iconst (v := (nI 3)) cx dX3_putOnDisk_24 (by decide) ?_
  refine kg_callVN (ci := 1) (na := 2) cx (c_X1_value l D c ad n u i 3 hi (by decide)) 2 rfl rfl kcd_X1_value (kmn_X3_106 cx.2.2.2.2.2.2.2.2) kin_X1 kim_X1_value ksl_X1_value (by decide +kernel) rfl (by decide) (by decide) rfl (Nat.le_of_ble_eq_true rfl) dX3_putOnDisk_25 (fun _ => kw_adr _ _) (fun v9 u9 h9 => ?_)
  obtain ⟨rfl, h9⟩ := h9
  subst u9
  refine kg_top (nI k) (hK) ?_
  refine kg_aload_n cx dX3_putOnDisk_28 rfl ?_
  refine kg_get (ci := 3) cx 0 1 kfs_X3 rfl (by decide) rfl rfl kf_X3_30 dX3_putOnDisk_29 ?_
  refine kg_iload_n cx dX3_putOnDisk_32 rfl ?_
  refine kg_iconst (v := (nI 5)) cx dX3_putOnDisk_33 (by decide) ?_
  refine kg_callVN (ci := 1) (na := 2) cx (c_X1_value l D c ad n u i 5 hi (by decide)) 2 rfl rfl kcd_X1_value (kmn_X3_106 cx.2.2.2.2.2.2.2.2) kin_X1 kim_X1_value ksl_X1_value (by decide +kernel) rfl (by decide) (by decide) rfl (Nat.le_of_ble_eq_true rfl) dX3_putOnDisk_34 (fun _ => kw_adr _ _) (fun v9 u9 h9 => ?_)
  obtain ⟨rfl, h9⟩ := h9
  subst u9
  refine kg_iastN cx (12 + q) 0 k rfl (kw_at_d hq) (rfl) (by omega) (by decide) (ks_disk hq k _) dX3_putOnDisk_37 ?_
  refine kg_aload_n cx dX3_putOnDisk_38 rfl ?_
  refine kg_bipush (v := (nI 8)) cx dX3_putOnDisk_39 (by decide) ?_
  refine kg_iload_n cx dX3_putOnDisk_41 rfl ?_
  refine kg_iastN cx (12 + q) 0 8 rfl (kw_at_d hq) (rfl) (by decide) (by decide) (ks_disk hq 8 _) dX3_putOnDisk_42 ?_
  exact kg_return cx hr _ rfl (⟨rfl, rfl⟩) dX3_putOnDisk_43
def kRedo (u : kS) (Pg Nb : Nat → Nat) : Nat → kS
  | 0 => u
  | i + 1 => if (kRedo u Pg Nb i 9 (i + 1) 0 = 0 ∨ kRedo u Pg Nb i 9 (i + 1) 0 = 1) ∧ kRedo u Pg Nb i 0 (Pg (i + 1)) 8 < nI (i + 1) then kPut (kRedo u Pg Nb i) (i + 1) (Pg (i + 1)) (Nb (i + 1)) else kRedo u Pg Nb i
theorem kRedo_F {u : kS} {Pg Nb : Nat → Nat} {F a b : Nat} (h : F ≠ 0) : ∀ k, kRedo u Pg Nb k F a b = u F a b
  | 0 => rfl
  | k + 1 => by
    have e := kRedo_F (u := u) (Pg := Pg) (Nb := Nb) (a := a) (b := b) h k
    unfold kRedo
    split
    · rw [kPut_F h, e]
    · exact e
set_option maxHeartbeats 4000000 in
set_option maxRecDepth 100000 in
theorem c_X3_redoOnDisk (l : Launch) (D : va_G) (c : Nat → ClassId) (ad : Nat → Nat → Nat) (n : Nat) (u : kS) (z : Nat) (Pg Nb : Nat → Nat) (hs : u 14 0 0 = nI z) (hz : z ≤ 400) (hP : ∀ i, i ≤ z → 1 ≤ i → (u 9 i 0 = 0 ∨ u 9 i 0 = 1) → u 9 i 2 = nI (Pg i) ∧ Pg i < 32 ∧ u 9 i 3 = nI (Nb i) ∧ Nb i < 8) : kC l D c ad n yX3_redoOnDisk (Cond.code yX3_redoOnDisk cX3_redoOnDisk 2 none) 2 44 u [.ref (ad 0 0)] (fun v u9 => v = none ∧ u9 = kRedo u Pg Nb z) := by
  refine kC.mk (by decide) (by simp [Value.category]) (Nat.le_of_ble_eq_true rfl) ?_
  intro p e s m args below meth c9 cx hr
  refine kg_iconst (v := 1) cx dX3_redoOnDisk_0 (by decide) ?_
  refine kg_istore_n cx dX3_redoOnDisk_1 (by decide) ?_
  have loop : ∀ (k i : Nat), z - i = k → i ≤ z → kgC p l e 2 44 s m args below meth c9 2 D c ad n u (fun v u9 => v = none ∧ u9 = kRedo u Pg Nb z) (kRedo u Pg Nb i) 2 [some (.ref (ad 0 0)), some (.int (nI (i + 1)))] [] := by
    intro k
    induction k with
    | zero =>
      intro i hk hi
      have e8 : i = z := by omega
      subst i
      refine kg_iload_n cx dX3_redoOnDisk_2 rfl ?_
      refine kg_aload_n cx dX3_redoOnDisk_3 rfl ?_
      refine kg_get (ci := 3) cx 0 1 kfs_X3 rfl (by decide) rfl rfl kf_X3_30 dX3_redoOnDisk_4 ?_
      refine kg_getN (ci := 1) cx 2 5 kfs_X1 rfl (by decide) rfl rfl (kfn_X3_100 cx.2.2.2.2.2.2.2.2) dX3_redoOnDisk_7 ?_
      refine kg_top (nI z) (by rw [kRedo_F (by decide)]; exact hs) ?_
      refine kg_icmp_gt cx 59 dX3_redoOnDisk_10 (by decide) (fun h1 => ?_) (fun h1 => ?_)
      · exact kg_return cx hr _ rfl (⟨rfl, rfl⟩) dX3_redoOnDisk_59
      · exact absurd (nI_lt (show z < z + 1 by omega) (by omega)) h1
    | succ k ih =>
      intro i hk hi
      refine kg_iload_n cx dX3_redoOnDisk_2 rfl ?_
      refine kg_aload_n cx dX3_redoOnDisk_3 rfl ?_
      refine kg_get (ci := 3) cx 0 1 kfs_X3 rfl (by decide) rfl rfl kf_X3_30 dX3_redoOnDisk_4 ?_
      refine kg_getN (ci := 1) cx 2 5 kfs_X1 rfl (by decide) rfl rfl (kfn_X3_100 cx.2.2.2.2.2.2.2.2) dX3_redoOnDisk_7 ?_
      refine kg_top (nI z) (by rw [kRedo_F (by decide)]; exact hs) ?_
      refine kg_icmp_gt cx 59 dX3_redoOnDisk_10 (by decide) (fun h1 => ?_) (fun h1 => ?_)
      · exact absurd h1 (nI_nlt (show i + 1 ≤ z by omega) (by omega))
      · refine kg_aload_n cx dX3_redoOnDisk_13 rfl ?_
        refine kg_get (ci := 3) cx 0 1 kfs_X3 rfl (by decide) rfl rfl kf_X3_30 dX3_redoOnDisk_14 ?_
        refine kg_iload_n cx dX3_redoOnDisk_17 rfl ?_
        refine kg_callVN (ci := 1) (na := 1) cx (c_X1_changesPage l D c ad n (kRedo u Pg Nb i) (i + 1) (by omega)) 2 rfl rfl kcd_X1_changesPage (kmn_X3_176 cx.2.2.2.2.2.2.2.2) kin_X1 kim_X1_changesPage ksl_X1_changesPage (by decide +kernel) rfl (by decide) (by decide) rfl (Nat.le_of_ble_eq_true rfl) dX3_redoOnDisk_18 (fun _ => kw_adr _ _) (fun v9 u9 h9 => ?_)
        obtain ⟨rfl, h9⟩ := h9
        subst u9
        refine kg_if_eq cx 53 dX3_redoOnDisk_21 (by decide) (fun h2 => ?_) (fun h2 => ?_)
        · refine kg_iinc (v := nI (i + 1 + 1)) cx dX3_redoOnDisk_53 rfl (nI_1 _) (by decide) ?_
          refine kg_goto cx 2 dX3_redoOnDisk_56 (by decide) ?_
          have e9 : kRedo u Pg Nb (i + 1) = kRedo u Pg Nb i := if_neg (fun q => absurd ((kb_1 q.1).symm.trans h2) (by decide))
          have := ih (i + 1) (by omega) (by omega)
          rw [e9] at this
          exact this
        · have hc9 : (kRedo u Pg Nb i 9 (i + 1) 0 = 0 ∨ kRedo u Pg Nb i 9 (i + 1) 0 = 1) := by
            by_cases q : (kRedo u Pg Nb i 9 (i + 1) 0 = 0 ∨ kRedo u Pg Nb i 9 (i + 1) 0 = 1)
            · exact q
            · exact absurd (kb_0 q) h2
          have hp9 := hP (i + 1) (by omega) (by omega) (by rw [kRedo_F (by decide)] at hc9; exact hc9)
          refine kg_iload_n cx dX3_redoOnDisk_24 rfl ?_
          refine kg_aload_n cx dX3_redoOnDisk_25 rfl ?_
          refine kg_get (ci := 3) cx 0 0 kfs_X3 rfl (by decide) rfl rfl kf_X3_23 dX3_redoOnDisk_26 ?_
          refine kg_getN (ci := 2) cx 1 0 kfs_X2 rfl (by decide) rfl rfl (kfn_X3_151 cx.2.2.2.2.2.2.2.2) dX3_redoOnDisk_29 ?_
          refine kg_aload_n cx dX3_redoOnDisk_32 rfl ?_
          refine kg_get (ci := 3) cx 0 1 kfs_X3 rfl (by decide) rfl rfl kf_X3_30 dX3_redoOnDisk_33 ?_
          refine kg_iload_n cx dX3_redoOnDisk_36 rfl ?_
          refine kg_iconst (v := (nI 2)) cx dX3_redoOnDisk_37 (by decide) ?_
          refine kg_callVN (ci := 1) (na := 2) cx (c_X1_value l D c ad n (kRedo u Pg Nb i) (i + 1) 2 (by omega) (by decide)) 2 rfl rfl kcd_X1_value (kmn_X3_106 cx.2.2.2.2.2.2.2.2) kin_X1 kim_X1_value ksl_X1_value (by decide +kernel) rfl (by decide) (by decide) rfl (Nat.le_of_ble_eq_true rfl) dX3_redoOnDisk_38 (fun _ => kw_adr _ _) (fun v9 u9 h9 => ?_)
          obtain ⟨rfl, h9⟩ := h9
          subst u9
          refine kg_top (nI (Pg (i + 1))) (by rw [kRedo_F (by decide)]; exact hp9.1) ?_
          refine kg_aaldAN cx 3 3 (Pg (i + 1)) rfl rfl (rfl) (hp9.2.1) (by decide) (k_if hp9.2.1 _) dX3_redoOnDisk_41 ?_
          refine kg_bipush (v := (nI 8)) cx dX3_redoOnDisk_42 (by decide) ?_
          refine kg_ialdN cx (12 + (Pg (i + 1))) 0 8 rfl (kw_at_d hp9.2.1) (rfl) (by decide) (by decide) (rfl) dX3_redoOnDisk_44 ?_
          refine kg_icmp_le cx 53 dX3_redoOnDisk_45 (by decide) (fun h3 => ?_) (fun h3 => ?_)
          · refine kg_iinc (v := nI (i + 1 + 1)) cx dX3_redoOnDisk_53 rfl (nI_1 _) (by decide) ?_
            refine kg_goto cx 2 dX3_redoOnDisk_56 (by decide) ?_
            have e9 : kRedo u Pg Nb (i + 1) = kRedo u Pg Nb i := if_neg (fun q => absurd q.2 (Int32.not_lt.mpr h3))
            have := ih (i + 1) (by omega) (by omega)
            rw [e9] at this
            exact this
          · refine kg_aload_n cx dX3_redoOnDisk_48 rfl ?_
            refine kg_iload_n cx dX3_redoOnDisk_49 rfl ?_
            refine kg_callV (ci := 3) (na := 1) cx (c_X3_putOnDisk l D c ad n (kRedo u Pg Nb i) (i + 1) (Pg (i + 1)) (Nb (i + 1)) (by omega) hp9.2.1 hp9.2.2.2 (by rw [kRedo_F (by decide)]; exact hp9.1) (by rw [kRedo_F (by decide)]; exact hp9.2.2.1)) 0 rfl rfl kcd_X3_putOnDisk km_X3_179 kin_X3 kim_X3_putOnDisk ksl_X3_putOnDisk (by decide +kernel) rfl (by decide) (by decide) rfl (Nat.le_of_ble_eq_true rfl) dX3_redoOnDisk_50 (fun _ => kw_adr _ _) (fun v9 u9 h9 => ?_)
            obtain ⟨rfl, h9⟩ := h9
            subst u9
            refine kg_iinc (v := nI (i + 1 + 1)) cx dX3_redoOnDisk_53 rfl (nI_1 _) (by decide) ?_
            refine kg_goto cx 2 dX3_redoOnDisk_56 (by decide) ?_
            have e9 : kRedo u Pg Nb (i + 1) = kPut (kRedo u Pg Nb i) (i + 1) (Pg (i + 1)) (Nb (i + 1)) := if_pos ⟨hc9, Int32.not_le.mp h3⟩
            have := ih (i + 1) (by omega) (by omega)
            rw [e9] at this
            exact this
  exact loop z 0 rfl (Nat.zero_le _)
