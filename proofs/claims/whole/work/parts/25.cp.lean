/-- the UPDATE i of transaction t is undone on the disk: a record behind the last one (z), laid on the disk -/
def kUnd1 (u : kS) (i t p k z : Nat) : kS := kPut (kFol (kApp u (z + 1) 1 (nI t) (u 9 i 2) (u 9 i 3) (u 0 p k) (u 9 i 4) (nI i)) (z + 1) t i) (z + 1) p k
theorem kApp_9 {u : kS} {i j b : Nat} {k0 k1 k2 k3 k4 k5 k6 : Int32} (h : j ≠ i) : kApp u i k0 k1 k2 k3 k4 k5 k6 9 j b = u 9 j b := by simp [kApp, ku, h]
theorem kApp_F {u : kS} {i F a b : Nat} {k0 k1 k2 k3 k4 k5 k6 : Int32} (h : F ≠ 9) (h2 : F ≠ 14) : kApp u i k0 k1 k2 k3 k4 k5 k6 F a b = u F a b := by simp [kApp, ku, h, h2]
theorem kApp_14 {u : kS} {i : Nat} {k0 k1 k2 k3 k4 k5 k6 : Int32} : kApp u i k0 k1 k2 k3 k4 k5 k6 14 0 0 = nI i := by simp [kApp, ku]
theorem kUnd1_9 {u : kS} {i t p k z j b : Nat} (h : j ≠ z + 1) : kUnd1 u i t p k z 9 j b = u 9 j b := by
  unfold kUnd1
  rw [kPut_F (by decide), kFol_F (by decide), kApp_9 h]
theorem kUnd1_14 {u : kS} {i t p k z : Nat} : kUnd1 u i t p k z 14 0 0 = nI (z + 1) := by
  unfold kUnd1
  rw [kPut_F (by decide), kFol_F (by decide), kApp_14]
/-- undoing on the disk from the record i back: what then is, how many records, how many undone -/
def kUnd (T Pg Nb : Nat → Nat) : Nat → kS → Nat → Nat → kS × Nat × Nat
  | 0, u, z, d => (u, z, d)
  | i + 1, u, z, d => if kOpen u (i + 1) (T (i + 1)) then kUnd T Pg Nb i (kUnd1 u (i + 1) (T (i + 1)) (Pg (i + 1)) (Nb (i + 1)) z) (z + 1) (d + 1) else kUnd T Pg Nb i u z d
theorem kUnd_s {T Pg Nb : Nat → Nat} {i : Nat} {u : kS} {z d : Nat} : kUnd T Pg Nb (i + 1) u z d = if kOpen u (i + 1) (T (i + 1)) then kUnd T Pg Nb i (kUnd1 u (i + 1) (T (i + 1)) (Pg (i + 1)) (Nb (i + 1)) z) (z + 1) (d + 1) else kUnd T Pg Nb i u z d := rfl
/-- .. and there is room for all of it -/
def kUndOk (T Pg Nb : Nat → Nat) : Nat → kS → Nat → Prop
  | 0, _, _ => True
  | i + 1, u, z => if kOpen u (i + 1) (T (i + 1)) then z < 400 ∧ kUndOk T Pg Nb i (kUnd1 u (i + 1) (T (i + 1)) (Pg (i + 1)) (Nb (i + 1)) z) (z + 1) else kUndOk T Pg Nb i u z
theorem kUndOk_s {T Pg Nb : Nat → Nat} {i : Nat} {u : kS} {z : Nat} : kUndOk T Pg Nb (i + 1) u z = if kOpen u (i + 1) (T (i + 1)) then z < 400 ∧ kUndOk T Pg Nb i (kUnd1 u (i + 1) (T (i + 1)) (Pg (i + 1)) (Nb (i + 1)) z) (z + 1) else kUndOk T Pg Nb i u z := rfl
set_option maxHeartbeats 4000000 in
set_option maxRecDepth 100000 in
theorem c_X3_undoOnDisk (l : Launch) (D : va_G) (c : Nat → ClassId) (ad : Nat → Nat → Nat) (n : Nat) (u : kS) (z : Nat) (T Pg Nb : Nat → Nat) (hs : u 14 0 0 = nI z) (hz : z ≤ 400) (hT : ∀ i, i ≤ z → 1 ≤ i → u 9 i 1 = nI (T i) ∧ T i < 8) (hP : ∀ i, i ≤ z → 1 ≤ i → (u 9 i 0 = 0 ∨ u 9 i 0 = 1) → u 9 i 2 = nI (Pg i) ∧ Pg i < 32 ∧ u 9 i 3 = nI (Nb i) ∧ Nb i < 8) (hOk : kUndOk T Pg Nb z u z) : kC l D c ad n yX3_undoOnDisk (Cond.code yX3_undoOnDisk cX3_undoOnDisk 4 (some .int)) 4 95 u [.ref (ad 0 0)] (fun v u9 => v = some (.int (nI (kUnd T Pg Nb z u z 0).2.2)) ∧ u9 = (kUnd T Pg Nb z u z 0).1) := by
  refine kC.mk (by decide) (by simp [Value.category]) (Nat.le_of_ble_eq_true rfl) ?_
  intro p e s m args below meth c9 cx hr
  refine kg_iconst (v := 0) cx dX3_undoOnDisk_0 (by decide) ?_
  refine kg_istore_n cx dX3_undoOnDisk_1 (by decide) ?_
  refine kg_aload_n cx dX3_undoOnDisk_2 rfl ?_
  refine kg_get (ci := 3) cx 0 1 kfs_X3 rfl (by decide) rfl rfl kf_X3_30 dX3_undoOnDisk_3 ?_
  refine kg_getN (ci := 1) cx 2 5 kfs_X1 rfl (by decide) rfl rfl (kfn_X3_100 cx.2.2.2.2.2.2.2.2) dX3_undoOnDisk_6 ?_
  refine kg_top (nI z) (hs) ?_
  refine kg_istore_n cx dX3_undoOnDisk_9 (by decide) ?_
  have loop : ∀ (k : Nat) (v : kS) (y d : Nat), k ≤ z → z ≤ y → v 14 0 0 = nI y → (∀ j b, j ≤ z → v 9 j b = u 9 j b) → kUndOk T Pg Nb k v y → kUnd T Pg Nb z u z 0 = kUnd T Pg Nb k v y d → kgC p l e 4 95 s m args below meth c9 4 D c ad n u (fun v u9 => v = some (.int (nI (kUnd T Pg Nb z u z 0).2.2)) ∧ u9 = (kUnd T Pg Nb z u z 0).1) v 10 [some (.ref (ad 0 0)), some (.int (nI d)), some (.int (nI k)), none] [] := by
    intro k
    induction k with
    | zero =>
      intro v y d hi hy hs9 h9 hok he
      refine kg_iload_n cx dX3_undoOnDisk_10 rfl ?_
      refine kg_iconst (v := 1) cx dX3_undoOnDisk_11 (by decide) ?_
      refine kg_icmp_lt cx 76 dX3_undoOnDisk_12 (by decide) (fun h1 => ?_) (fun h1 => ?_)
      · refine kg_iload_n cx dX3_undoOnDisk_76 rfl ?_
        exact kg_ireturn cx hr (rfl) _ rfl (⟨by rw [he]; rfl, by rw [he]; rfl⟩) dX3_undoOnDisk_77
      · exact absurd (by decide) h1
    | succ k ih =>
      intro v y d hi hy hs9 h9 hok he
      have ht9 := hT (k + 1) hi (by omega)
      refine kg_iload_n cx dX3_undoOnDisk_10 rfl ?_
      refine kg_iconst (v := 1) cx dX3_undoOnDisk_11 (by decide) ?_
      refine kg_icmp_lt cx 76 dX3_undoOnDisk_12 (by decide) (fun h1 => ?_) (fun h1 => ?_)
      · exact absurd h1 (nI_nlt (show 1 ≤ k + 1 by omega) (by omega))
      · refine kg_aload_n cx dX3_undoOnDisk_15 rfl ?_
        refine kg_get (ci := 3) cx 0 1 kfs_X3 rfl (by decide) rfl rfl kf_X3_30 dX3_undoOnDisk_16 ?_
        refine kg_iload_n cx dX3_undoOnDisk_19 rfl ?_
        refine kg_callVN (ci := 1) (na := 1) cx (c_X1_isOpen l D c ad n v (k + 1) (T (k + 1)) (by omega) ht9.2 (by rw [h9 _ _ hi]; exact ht9.1)) 2 rfl rfl kcd_X1_isOpen (kmn_X3_103 cx.2.2.2.2.2.2.2.2) kin_X1 kim_X1_isOpen ksl_X1_isOpen (by decide +kernel) rfl (by decide) (by decide) rfl (Nat.le_of_ble_eq_true rfl) dX3_undoOnDisk_20 (fun _ => kw_adr _ _) (fun v9 u9 h9 => ?_)
        obtain ⟨rfl, h9⟩ := h9
        subst u9
        refine kg_if_eq cx 70 dX3_undoOnDisk_23 (by decide) (fun h2 => ?_) (fun h2 => ?_)
        · have hno : ¬ kOpen v (k + 1) (T (k + 1)) := fun q => absurd ((kb_1 q).symm.trans h2) (by decide)
          rw [kUndOk_s, if_neg hno] at hok
          rw [kUnd_s, if_neg hno] at he
          refine kg_iinc (v := nI k) cx dX3_undoOnDisk_70 rfl (pk_m1 k) (by decide) ?_
          refine kg_goto cx 10 dX3_undoOnDisk_73 (by decide) ?_
          exact ih v y d (by omega) (by omega) hs9 h9 hok he
        · have hop : kOpen v (k + 1) (T (k + 1)) := by
            by_cases q : kOpen v (k + 1) (T (k + 1))
            · exact q
            · exact absurd (kb_0 q) h2
          rw [kUndOk_s, if_pos hop] at hok
          rw [kUnd_s, if_pos hop] at he
          have hp9 := hP (k + 1) hi (by omega) (Or.inl (by rw [← h9 _ _ hi]; exact hop.1))
          refine kg_aload_n cx dX3_undoOnDisk_26 rfl ?_
          refine kg_get (ci := 3) cx 0 0 kfs_X3 rfl (by decide) rfl rfl kf_X3_23 dX3_undoOnDisk_27 ?_
          refine kg_getN (ci := 2) cx 1 0 kfs_X2 rfl (by decide) rfl rfl (kfn_X3_151 cx.2.2.2.2.2.2.2.2) dX3_undoOnDisk_30 ?_
          refine kg_aload_n cx dX3_undoOnDisk_33 rfl ?_
          refine kg_get (ci := 3) cx 0 1 kfs_X3 rfl (by decide) rfl rfl kf_X3_30 dX3_undoOnDisk_34 ?_
          refine kg_iload_n cx dX3_undoOnDisk_37 rfl ?_
          refine kg_iconst (v := (nI 2)) cx dX3_undoOnDisk_38 (by decide) ?_
          refine kg_callVN (ci := 1) (na := 2) cx (c_X1_value l D c ad n v (k + 1) 2 (by omega) (by decide)) 2 rfl rfl kcd_X1_value (kmn_X3_106 cx.2.2.2.2.2.2.2.2) kin_X1 kim_X1_value ksl_X1_value (by decide +kernel) rfl (by decide) (by decide) rfl (Nat.le_of_ble_eq_true rfl) dX3_undoOnDisk_39 (fun _ => kw_adr _ _) (fun v9 u9 h9 => ?_)
          obtain ⟨rfl, h9⟩ := h9
          subst u9
          refine kg_top (nI (Pg (k + 1))) (by rw [h9 _ _ hi]; exact hp9.1) ?_
          refine kg_aaldAN cx 3 3 (Pg (k + 1)) rfl rfl (rfl) (hp9.2.1) (by decide) (k_if hp9.2.1 _) dX3_undoOnDisk_42 ?_
          refine kg_astore_n cx dX3_undoOnDisk_43 (by decide) ?_
          refine kg_aload_n cx dX3_undoOnDisk_44 rfl ?_
          refine kg_aload_n cx dX3_undoOnDisk_45 rfl ?_
          refine kg_get (ci := 3) cx 0 1 kfs_X3 rfl (by decide) rfl rfl kf_X3_30 dX3_undoOnDisk_46 ?_
          refine kg_iload_n cx dX3_undoOnDisk_49 rfl ?_
          refine kg_aload_n cx dX3_undoOnDisk_50 rfl ?_
          refine kg_aload_n cx dX3_undoOnDisk_51 rfl ?_
          refine kg_get (ci := 3) cx 0 1 kfs_X3 rfl (by decide) rfl rfl kf_X3_30 dX3_undoOnDisk_52 ?_
          refine kg_iload_n cx dX3_undoOnDisk_55 rfl ?_
          refine kg_iconst (v := (nI 3)) cx dX3_undoOnDisk_56 (by decide) ?_
          refine kg_callVN (ci := 1) (na := 2) cx (c_X1_value l D c ad n v (k + 1) 3 (by omega) (by decide)) 2 rfl rfl kcd_X1_value (kmn_X3_106 cx.2.2.2.2.2.2.2.2) kin_X1 kim_X1_value ksl_X1_value (by decide +kernel) rfl (by decide) (by decide) rfl (Nat.le_of_ble_eq_true rfl) dX3_undoOnDisk_57 (fun _ => kw_adr _ _) (fun v9 u9 h9 => ?_)
          obtain ⟨rfl, h9⟩ := h9
          subst u9
          refine kg_top (nI (Nb (k + 1))) (by rw [h9 _ _ hi]; exact hp9.2.2.1) ?_
          refine kg_ialdN cx (12 + (Pg (k + 1))) 0 (Nb (k + 1)) rfl (kw_at_d hp9.2.1) (rfl) (Nat.lt_succ_of_lt hp9.2.2.2) (by decide) (rfl) dX3_undoOnDisk_60 ?_
          refine kg_callVN (ci := 1) (na := 2) cx (c_X1_appendUndo l D c ad n v y (T (k + 1)) (k + 1) (v 0 (Pg (k + 1)) (Nb (k + 1))) hs9 hok.1 ht9.2 (by omega) (by rw [h9 _ _ hi]; exact ht9.1)) 2 rfl rfl kcd_X1_appendUndo (kmn_X3_173 cx.2.2.2.2.2.2.2.2) kin_X1 kim_X1_appendUndo ksl_X1_appendUndo (by decide +kernel) rfl (by decide) (by decide) rfl (Nat.le_of_ble_eq_true rfl) dX3_undoOnDisk_61 (fun _ => kw_adr _ _) (fun v9 u9 h9 => ?_)
          obtain ⟨rfl, h9⟩ := h9
          subst u9
          refine kg_callV (ci := 3) (na := 1) cx (c_X3_putOnDisk l D c ad n _ (y + 1) (Pg (k + 1)) (Nb (k + 1)) (by omega) hp9.2.1 hp9.2.2.2 (by rw [kFol_F (by decide)]; simp [kApp, ku]; rw [h9 _ _ hi]; exact hp9.1) (by rw [kFol_F (by decide)]; simp [kApp, ku]; rw [h9 _ _ hi]; exact hp9.2.2.1)) 0 rfl rfl kcd_X3_putOnDisk km_X3_179 kin_X3 kim_X3_putOnDisk ksl_X3_putOnDisk (by decide +kernel) rfl (by decide) (by decide) rfl (Nat.le_of_ble_eq_true rfl) dX3_undoOnDisk_64 (fun _ => kw_adr _ _) (fun v9 u9 h9 => ?_)
          obtain ⟨rfl, h9⟩ := h9
          subst u9
          refine kg_iinc (v := nI (d + 1)) cx dX3_undoOnDisk_67 rfl (nI_1 d) (by decide) ?_
          refine kg_iinc (v := nI k) cx dX3_undoOnDisk_70 rfl (pk_m1 k) (by decide) ?_
          refine kg_goto cx 10 dX3_undoOnDisk_73 (by decide) ?_
          refine kg_lo (lo9 := [some (.ref (ad 0 0)), some (.int (nI (d + 1))), some (.int (nI k)), none]) (fun j x9 hx => ?_) ?_
          · match j, hx with
            | 0, hx => exact hx
            | 1, hx => exact hx
            | 2, hx => exact hx
            | 3, hx => cases hx
            | j + 4, hx => cases hx
          · exact ih _ (y + 1) (d + 1) (by omega) (by omega) kUnd1_14 (fun j b hj => (kUnd1_9 (by omega)).trans (h9 j b hj)) hok.2 he
  exact loop z u z 0 (Nat.le_refl _) (Nat.le_refl _) hs (fun _ _ _ => rfl) hOk rfl
/-- an END behind the last record for each of the first k TRANSACTIONS that had not ended -/
def kEnds (u : kS) (z : Nat) : Nat → kS × Nat
  | 0 => (u, z)
  | t + 1 => if (kEnds u z t).1 12 t 0 < (kEnds u z t).1 11 t 0 then (kFol (kApp (kEnds u z t).1 ((kEnds u z t).2 + 1) (nI 3) (nI t) (-1) (-1) (-1) (-1) (-1)) ((kEnds u z t).2 + 1) t 0, (kEnds u z t).2 + 1) else kEnds u z t
theorem kEnds_s {u : kS} {z t : Nat} : kEnds u z (t + 1) = if (kEnds u z t).1 12 t 0 < (kEnds u z t).1 11 t 0 then (kFol (kApp (kEnds u z t).1 ((kEnds u z t).2 + 1) (nI 3) (nI t) (-1) (-1) (-1) (-1) (-1)) ((kEnds u z t).2 + 1) t 0, (kEnds u z t).2 + 1) else kEnds u z t := rfl
theorem kEnds_14 {u : kS} {z : Nat} (h : u 14 0 0 = nI z) : ∀ t, (kEnds u z t).1 14 0 0 = nI (kEnds u z t).2
  | 0 => h
  | t + 1 => by
    have e := kEnds_14 h t
    rw [kEnds_s]
    split
    · show kFol _ _ _ _ 14 0 0 = _
      rw [kFol_F (by decide), kApp_14]
    · exact e
set_option maxHeartbeats 4000000 in
set_option maxRecDepth 100000 in
theorem c_X3_endUnended (l : Launch) (D : va_G) (c : Nat → ClassId) (ad : Nat → Nat → Nat) (n : Nat) (u : kS) (z : Nat) (hs : u 14 0 0 = nI z) (hOk : ∀ t, t < 8 → (kEnds u z t).1 12 t 0 < (kEnds u z t).1 11 t 0 → (kEnds u z t).2 < 400) : kC l D c ad n yX3_endUnended (Cond.code yX3_endUnended cX3_endUnended 2 none) 4 95 u [.ref (ad 0 0)] (fun v u9 => v = none ∧ u9 = (kEnds u z 8).1) := by
  refine kC.mk (by decide) (by simp [Value.category]) (Nat.le_of_ble_eq_true rfl) ?_
  intro p e s m args below meth c9 cx hr
  refine kg_iconst (v := 0) cx dX3_endUnended_0 (by decide) ?_
  refine kg_istore_n cx dX3_endUnended_1 (by decide) ?_
  have loop : ∀ (k i : Nat), 8 - i = k → i ≤ 8 → kgC p l e 4 95 s m args below meth c9 2 D c ad n u (fun v u9 => v = none ∧ u9 = (kEnds u z 8).1) (kEnds u z i).1 2 [some (.ref (ad 0 0)), some (.int (nI i))] [] := by
    intro k
    induction k with
    | zero =>
      intro i hk hi
      have e8 : i = 8 := by omega
      subst i
      refine kg_iload_n cx dX3_endUnended_2 rfl ?_
      refine kg_bipush (v := (nI 8)) cx dX3_endUnended_3 (by decide) ?_
      refine kg_icmp_ge cx 35 dX3_endUnended_5 (by decide) (fun h1 => ?_) (fun h1 => ?_)
      · exact kg_return cx hr _ rfl (⟨rfl, rfl⟩) dX3_endUnended_35
      · exact absurd (Int32.le_refl _) h1
    | succ k ih =>
      intro i hk hi
      have hin : i < 8 := by omega
      refine kg_iload_n cx dX3_endUnended_2 rfl ?_
      refine kg_bipush (v := (nI 8)) cx dX3_endUnended_3 (by decide) ?_
      refine kg_icmp_ge cx 35 dX3_endUnended_5 (by decide) (fun h1 => ?_) (fun h1 => ?_)
      · exact absurd h1 (nI_ge hin (by omega))
      · refine kg_aload_n cx dX3_endUnended_8 rfl ?_
        refine kg_get (ci := 3) cx 0 1 kfs_X3 rfl (by decide) rfl rfl kf_X3_30 dX3_endUnended_9 ?_
        refine kg_iload_n cx dX3_endUnended_12 rfl ?_
        refine kg_callVN (ci := 1) (na := 1) cx (c_X1_isUnended l D c ad n (kEnds u z i).1 i hin) 2 rfl rfl kcd_X1_isUnended (kmn_X3_182 cx.2.2.2.2.2.2.2.2) kin_X1 kim_X1_isUnended ksl_X1_isUnended (by decide +kernel) rfl (by decide) (by decide) rfl (Nat.le_of_ble_eq_true rfl) dX3_endUnended_13 (fun _ => kw_adr _ _) (fun v9 u9 h9 => ?_)
        obtain ⟨rfl, h9⟩ := h9
        subst u9
        refine kg_if_eq cx 29 dX3_endUnended_16 (by decide) (fun h2 => ?_) (fun h2 => ?_)
        · refine kg_iinc (v := nI (i + 1)) cx dX3_endUnended_29 rfl (nI_1 i) (by decide) ?_
          refine kg_goto cx 2 dX3_endUnended_32 (by decide) ?_
          have e9 : kEnds u z (i + 1) = kEnds u z i := if_neg (fun q => absurd ((kb_1 q).symm.trans h2) (by decide))
          have := ih (i + 1) (by omega) (by omega)
          rw [e9] at this
          exact this
        · have hop : (kEnds u z i).1 12 i 0 < (kEnds u z i).1 11 i 0 := by
            by_cases q : (kEnds u z i).1 12 i 0 < (kEnds u z i).1 11 i 0
            · exact q
            · exact absurd (kb_0 q) h2
          refine kg_aload_n cx dX3_endUnended_19 rfl ?_
          refine kg_get (ci := 3) cx 0 1 kfs_X3 rfl (by decide) rfl rfl kf_X3_30 dX3_endUnended_20 ?_
          refine kg_iconst (v := (nI 3)) cx dX3_endUnended_23 (by decide) ?_
          refine kg_iload_n cx dX3_endUnended_24 rfl ?_
          refine kg_callVN (ci := 1) (na := 2) cx (c_X1_appendLast l D c ad n (kEnds u z i).1 (kEnds u z i).2 i (nI 3) (kEnds_14 hs i) (hOk i hin hop) hin (by decide)) 2 rfl rfl kcd_X1_appendLast (kmn_X3_91 cx.2.2.2.2.2.2.2.2) kin_X1 kim_X1_appendLast ksl_X1_appendLast (by decide +kernel) rfl (by decide) (by decide) rfl (Nat.le_of_ble_eq_true rfl) dX3_endUnended_25 (fun _ => kw_adr _ _) (fun v9 u9 h9 => ?_)
          obtain ⟨rfl, h9⟩ := h9
          subst u9
          refine kg_pop cx dX3_endUnended_28 rfl ?_
          refine kg_iinc (v := nI (i + 1)) cx dX3_endUnended_29 rfl (nI_1 i) (by decide) ?_
          refine kg_goto cx 2 dX3_endUnended_32 (by decide) ?_
          have := ih (i + 1) (by omega) (by omega)
          rw [kEnds_s (t := i), if_pos hop] at this
          exact this
  exact loop 8 0 rfl (by decide)
theorem kBack_F {u : kS} {f q F a b : Nat} (h : 9 ≤ F) : kBack u f q F a b = u F a b := by
  have h0 : F ≠ 0 := by omega
  have h3 : F ≠ 3 := by omega
  have h7 : F ≠ 7 := by omega
  simp [kBack, ku, kcp, h0, h3, h7]
theorem kLoad_F {u : kS} {p f q F a b : Nat} (h : 9 ≤ F) : kLoad u p f q F a b = u F a b := by
  have h1 : F ≠ 1 := by omega
  have h5 : F ≠ 5 := by omega
  have h8 : F ≠ 8 := by omega
  unfold kLoad
  split
  · simp [ku, kcp, h1, h5, h8]
  · simp [ku, kcp, h1, h5, h8, kBack_F h]
theorem kBring_F {u : kS} {n p : Nat} {fl : Int32} {h : Nat} {Q : Nat → Nat} {r : Int32} {u9 : kS} (hb : kBring u n p fl h Q r u9) {F a b : Nat} (hF : 9 ≤ F) : u9 F a b = u F a b := by
  have h4 : F ≠ 4 := by omega
  have h6 : F ≠ 6 := by omega
  rcases hb with ⟨f, -, -, -, -, rfl⟩ | ⟨f, -, -, -, -, -, rfl⟩ | ⟨f, -, -, -, -, -, rfl⟩ | ⟨-, -, -, -, rfl⟩
  · rw [ku_F h4]
  · rw [ku_F h4, kLoad_F hF]
  · rw [ku_F h4, kLoad_F hF, kTurn_F h4 h6]
  · rw [kTurn_F h4 h6]
theorem kBring_r {u : kS} {n p : Nat} {fl : Int32} {h : Nat} {Q : Nat → Nat} {r : Int32} {u9 : kS} (hb : kBring u n p fl h Q r u9) : (∃ f, f < n ∧ r = nI f) ∨ r = -1 := by
  rcases hb with ⟨f, h1, -, -, h2, -⟩ | ⟨f, h1, -, -, -, h2, -⟩ | ⟨f, h1, -, -, -, h2, -⟩ | ⟨-, -, -, h2, -⟩
  · exact Or.inl ⟨f, h1, h2⟩
  · exact Or.inl ⟨f, h1, h2⟩
  · exact Or.inl ⟨f, h1, h2⟩
  · exact Or.inr h2
/-- the UPDATE i of transaction t, of the number k, is undone in the frame f: a record behind the last one (z) -/
def kUndP (u : kS) (f i t k z : Nat) : kS := ku (ku (ku (kFol (kApp u (z + 1) 1 (nI t) (u 9 i 2) (u 9 i 3) (u 5 f k) (u 9 i 4) (nI i)) (z + 1) t i) 5 f k (u 9 i 4)) 5 f 8 (nI (z + 1))) 3 f 0 1
def kUip (u : kS) (n p h : Nat) (Q : Nat → Nat) (i t k z : Nat) (r : Int32) (u9 : kS) : Prop := (∃ u1, kBring u n p (u 15 0 0) h Q (-1) u1 ∧ r = 0 ∧ u9 = u1) ∨ (∃ f u1, f < n ∧ kBring u n p (u 15 0 0) h Q (nI f) u1 ∧ r = 1 ∧ u9 = kUndP u1 f i t k z)
set_option maxHeartbeats 4000000 in
set_option maxRecDepth 100000 in
theorem c_X3_undoInPool (l : Launch) (D : va_G) (c : Nat → ClassId) (ad : Nat → Nat → Nat) (n : Nat) (hn : n ≤ 8) (u : kS) (i t q k z h : Nat) (Q : Nat → Nat) (hi : i ≤ z) (hz : z < 400) (hs : u 14 0 0 = nI z) (ht : t < 8) (hT : u 9 i 1 = nI t) (hq : q < 32) (hq9 : u 9 i 2 = nI q) (hk : k < 8) (hk9 : u 9 i 3 = nI k) (hh : h < n) (hH : u 6 0 0 = nI h) (hQ : ∀ f, f < n → u 3 f 0 ≠ 0 → u 1 f 0 = nI (Q f) ∧ Q f < 32) : kC l D c ad n yX3_undoInPool (Cond.code yX3_undoInPool cX3_undoInPool 6 (some .boolean)) 4 126 u [.ref (ad 0 0), .int (nI i)] (fun v u9 => ∃ r, v = some (.int r) ∧ kUip u n q h Q i t k z r u9) := by
  refine kC.mk (by decide) (by simp [Value.category]) (Nat.le_of_ble_eq_true rfl) ?_
  intro p e s m args below meth c9 cx hr
  refine kg_aload_n cx dX3_undoInPool_0 rfl ?_
  refine kg_get (ci := 3) cx 0 0 kfs_X3 rfl (by decide) rfl rfl kf_X3_23 dX3_undoInPool_1 ?_
  refine kg_aload_n cx dX3_undoInPool_4 rfl ?_
  refine kg_get (ci := 3) cx 0 1 kfs_X3 rfl (by decide) rfl rfl kf_X3_30 dX3_undoInPool_5 ?_
  refine kg_iload_n cx dX3_undoInPool_8 rfl ?_
  refine kg_iconst (v := (nI 2)) cx dX3_undoInPool_9 (by decide) ?_
  refine kg_callVN (ci := 1) (na := 2) cx (c_X1_value l D c ad n u i 2 (by omega) (by decide)) 2 rfl rfl kcd_X1_value (kmn_X3_106 cx.2.2.2.2.2.2.2.2) kin_X1 kim_X1_value ksl_X1_value (by decide +kernel) rfl (by decide) (by decide) rfl (Nat.le_of_ble_eq_true rfl) dX3_undoInPool_10 (fun _ => kw_adr _ _) (fun v9 u9 h9 => ?_)
  obtain ⟨rfl, h9⟩ := h9
  subst u9
  refine kg_top (nI q) (hq9) ?_
  refine kg_aload_n cx dX3_undoInPool_13 rfl ?_
  refine kg_get (ci := 3) cx 0 1 kfs_X3 rfl (by decide) rfl rfl kf_X3_30 dX3_undoInPool_14 ?_
  refine kg_getN (ci := 1) cx 2 6 kfs_X1 rfl (by decide) rfl rfl (kfn_X3_45 cx.2.2.2.2.2.2.2.2) dX3_undoInPool_17 ?_
  refine kg_callVN (ci := 2) (na := 2) cx (c_X2_bring l D c ad n hn u q (u 15 0 0) h Q hq hh hH hQ) 1 rfl rfl kcd_X2_bring (kmn_X3_49 cx.2.2.2.2.2.2.2.2) kin_X2 kim_X2_bring ksl_X2_bring (by decide +kernel) rfl (by decide) (by decide) rfl (Nat.le_of_ble_eq_true rfl) dX3_undoInPool_20 (fun _ => kw_adr _ _) (fun v9 u9 h9 => ?_)
  obtain ⟨r9, rfl, hb9⟩ := h9
  rcases kBring_r hb9 with ⟨f, hf, rfl⟩ | rfl
  · refine kg_istore_n cx dX3_undoInPool_23 (by decide) ?_
    refine kg_iload_n cx dX3_undoInPool_24 rfl ?_
    refine kg_if_ge cx 30 dX3_undoInPool_25 (by decide) (fun h1 => ?_) (fun h1 => ?_)
    · refine kg_aload_n cx dX3_undoInPool_30 rfl ?_
      refine kg_get (ci := 3) cx 0 0 kfs_X3 rfl (by decide) rfl rfl kf_X3_23 dX3_undoInPool_31 ?_
      refine kg_getN (ci := 2) cx 1 1 kfs_X2 rfl (by decide) rfl rfl (kfn_X3_52 cx.2.2.2.2.2.2.2.2) dX3_undoInPool_34 ?_
      refine kg_iload_n cx dX3_undoInPool_37 rfl ?_
      refine kg_aaldN cx 4 2 f rfl rfl (rfl) (hf) (by omega) (k_if hf _) dX3_undoInPool_38 ?_
      refine kg_astore_n cx dX3_undoInPool_39 (by decide) ?_
      refine kg_aload_n cx dX3_undoInPool_40 rfl ?_
      refine kg_get (ci := 3) cx 0 1 kfs_X3 rfl (by decide) rfl rfl kf_X3_30 dX3_undoInPool_41 ?_
      refine kg_iload_n cx dX3_undoInPool_44 rfl ?_
      refine kg_iconst (v := (nI 3)) cx dX3_undoInPool_45 (by decide) ?_
      refine kg_callVN (ci := 1) (na := 2) cx (c_X1_value l D c ad n u9 i 3 (by omega) (by decide)) 2 rfl rfl kcd_X1_value (kmn_X3_106 cx.2.2.2.2.2.2.2.2) kin_X1 kim_X1_value ksl_X1_value (by decide +kernel) rfl (by decide) (by decide) rfl (Nat.le_of_ble_eq_true rfl) dX3_undoInPool_46 (fun _ => kw_adr _ _) (fun v9 u9 h9 => ?_)
      obtain ⟨rfl, h9⟩ := h9
      subst h9
      refine kg_top (nI k) (by rw [kBring_F hb9 (by decide)]; exact hk9) ?_
      refine kg_istore cx dX3_undoInPool_49 (by decide) ?_
      refine kg_aload_n cx dX3_undoInPool_51 rfl ?_
      refine kg_get (ci := 3) cx 0 1 kfs_X3 rfl (by decide) rfl rfl kf_X3_30 dX3_undoInPool_52 ?_
      refine kg_iload_n cx dX3_undoInPool_55 rfl ?_
      refine kg_aload_n cx dX3_undoInPool_56 rfl ?_
      refine kg_getN (ci := 0) cx (44 + f) 0 kfs_X0 rfl (by decide) (kw_at_o hf) rfl (kfn_X3_65 cx.2.2.2.2.2.2.2.2) dX3_undoInPool_57 ?_
      refine kg_iload cx dX3_undoInPool_60 rfl ?_
      refine kg_ialdN cx (44 + n + f) 0 k rfl (kw_at_r hf) (rfl) (by omega) (by decide) (rfl) dX3_undoInPool_62 ?_
      refine kg_callVN (ci := 1) (na := 2) cx (c_X1_appendUndo l D c ad n u9 z t i (u9 5 f k) (by rw [kBring_F hb9 (by decide)]; exact hs) hz ht (by omega) (by rw [kBring_F hb9 (by decide)]; exact hT)) 2 rfl rfl kcd_X1_appendUndo (kmn_X3_173 cx.2.2.2.2.2.2.2.2) kin_X1 kim_X1_appendUndo ksl_X1_appendUndo (by decide +kernel) rfl (by decide) (by decide) rfl (Nat.le_of_ble_eq_true rfl) dX3_undoInPool_63 (fun _ => kw_adr _ _) (fun v9 u9 h9 => ?_)
      obtain ⟨rfl, h9⟩ := h9
      subst h9
      refine kg_istore cx dX3_undoInPool_66 (by decide) ?_
      refine kg_aload_n cx dX3_undoInPool_68 rfl ?_
      refine kg_iload cx dX3_undoInPool_69 rfl ?_
      refine kg_aload_n cx dX3_undoInPool_71 rfl ?_
      refine kg_get (ci := 3) cx 0 1 kfs_X3 rfl (by decide) rfl rfl kf_X3_30 dX3_undoInPool_72 ?_
      refine kg_iload cx dX3_undoInPool_75 rfl ?_
      refine kg_iconst (v := (nI 5)) cx dX3_undoInPool_77 (by decide) ?_
      refine kg_callVN (ci := 1) (na := 2) cx (c_X1_value l D c ad n _ (z + 1) 5 (by omega) (by decide)) 2 rfl rfl kcd_X1_value (kmn_X3_106 cx.2.2.2.2.2.2.2.2) kin_X1 kim_X1_value ksl_X1_value (by decide +kernel) rfl (by decide) (by decide) rfl (Nat.le_of_ble_eq_true rfl) dX3_undoInPool_78 (fun _ => kw_adr _ _) (fun v9 u9 h9 => ?_)
      obtain ⟨rfl, h9⟩ := h9
      subst h9
      refine kg_top (u9 9 i 4) (by rw [kFol_F (by decide)]; simp [kApp, ku]) ?_
      refine kg_iload cx dX3_undoInPool_81 rfl ?_
      refine kg_callVN (ci := 0) (na := 3) cx (c_X0_change l D c ad n _ f k (u9 9 i 4) (nI (z + 1)) hf hk) (44 + f) rfl (kw_at_o hf) kcd_X0_change (kmn_X3_87 cx.2.2.2.2.2.2.2.2) kin_X0 kim_X0_change ksl_X0_change (by decide +kernel) rfl (by decide) (by decide) rfl (Nat.le_of_ble_eq_true rfl) dX3_undoInPool_83 (fun _ => kw_adr _ _) (fun v9 u9 h9 => ?_)
      obtain ⟨rfl, h9⟩ := h9
      subst h9
      refine kg_iconst (v := 1) cx dX3_undoInPool_86 (by decide) ?_
      exact kg_ireturn cx hr (nar_1) _ rfl (⟨_, rfl, Or.inr ⟨f, u9, hf, hb9, rfl, rfl⟩⟩) dX3_undoInPool_87
    · exact absurd (nI_ge0 (by omega)) h1
  · refine kg_istore_n cx dX3_undoInPool_23 (by decide) ?_
    refine kg_iload_n cx dX3_undoInPool_24 rfl ?_
    refine kg_if_ge cx 30 dX3_undoInPool_25 (by decide) (fun h1 => ?_) (fun h1 => ?_)
    · exact absurd h1 (by decide)
    · refine kg_iconst (v := 0) cx dX3_undoInPool_28 (by decide) ?_
      exact kg_ireturn cx hr (nar_0) _ rfl (⟨_, rfl, Or.inl ⟨_, hb9, rfl, rfl⟩⟩) dX3_undoInPool_29
