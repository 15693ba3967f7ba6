/-- x is the LSN of one of z records -/
def kLsn (x : Int32) (z : Nat) : Prop := ∃ i, 1 ≤ i ∧ i ≤ z ∧ x = nI i
theorem kLsn_of {x : Int32} {z : Nat} (hz : z ≤ 400) (h1 : ¬ x < 1) (h2 : x ≤ nI z) : kLsn x z := by
  rcases pk_ix x (n := z + 1) (by omega) with h | h | ⟨j, hj, rfl⟩
  · exact absurd (Int32.lt_trans h (by decide)) h1
  · exact absurd (Int32.le_trans h h2) (nI_ge (show z < z + 1 by omega) (by omega))
  · refine ⟨j, ?_, by omega, rfl⟩
    rcases Nat.lt_or_ge j 1 with q | q
    · have e : j = 0 := by omega
      subst e
      exact absurd (by decide) h1
    · exact q
theorem kLsn_lo {x : Int32} {z : Nat} (hz : z ≤ 400) (h1 : x < 1) : ¬ kLsn x z := by
  rintro ⟨i, hi, hz2, rfl⟩
  exact absurd h1 (nI_nlt hi (by omega))
theorem kLsn_hi {x : Int32} {z : Nat} (hz : z ≤ 400) (h1 : ¬ x ≤ nI z) : ¬ kLsn x z := by
  rintro ⟨i, hi, hz2, rfl⟩
  exact h1 (nI_le hz2 (by omega))
theorem k_ltT {x : Int32} (h : x < 0) : x.toInt < 0 := by simpa using Int32.lt_iff_toInt_lt.mp h
theorem k_geT {x : Int32} {B : Nat} (hB : B < 2 ^ 30) (h : nI (B + 1) ≤ x) : (B : Int) < x.toInt := by
  have h1 := Int32.le_iff_toInt_le.mp h
  rw [nI_toInt (by omega)] at h1
  omega
def kCnt (u : kS) : Nat → Int32
  | 0 => u 14 0 0
  | 1 => u 15 0 0
  | 2 => nI (kct (fun t => u 16 t 0) 8)
  | 3 => u 6 0 0
  | 4 => u 7 0 0
  | 5 => u 8 0 0
  | 6 => u 18 0 0
  | _ => u 19 0 0
def kFrm (u : kS) (f : Nat) : Nat → Int32
  | 0 => u 1 f 0
  | 1 => u 2 f 0
  | 2 => kb (u 3 f 0 ≠ 0)
  | 3 => kb (u 4 f 0 ≠ 0)
  | _ => u 5 f 8
set_option maxHeartbeats 4000000 in
set_option maxRecDepth 100000 in
theorem c_X3_log (l : Launch) (hl : l.stackTraces = false) (D : va_G) (c : Nat → ClassId) (ad : Nat → Nat → Nat) (n : Nat) (u : kS) (x y : Int32) (z : Nat) (hs : u 14 0 0 = nI z) (hz : z ≤ 400) : kX l D c ad n yX3_log (Cond.code yX3_log cX3_log 3 (some .int)) 7 103 2 12 u [.ref (ad 0 0), .int x, .int y] (fun v u9 => (∃ i k, 1 ≤ i ∧ i ≤ z ∧ x = nI i ∧ k < 7 ∧ y = nI k ∧ v = some (.int (u 9 i k))) ∧ u9 = u) (fun E => E = sA ∧ ¬ (kIn y 7 ∧ kLsn x z)) := by
  refine kx.mk (by decide) (by simp [Value.category]) (Nat.le_of_ble_eq_true rfl) ?_
  intro p e s m args below meth c9 cx hr hZ hno9
  refine kg_iload_n cx dX3_log_0 rfl ?_
  refine kg_bipush (v := (nI 7)) cx dX3_log_1 (by decide) ?_
  refine kx_callS (na := 2) cx hZ hno9 (c_X3_checkBelow l hl D c ad n u y 7 (by decide)) kcd_X3_checkBelow km_X3_41 kin_X3 kst_X3_checkBelow (by decide +kernel) rfl (by decide) (by decide) (by decide) rfl (Nat.le_of_ble_eq_true rfl) dX3_log_3 (fun _ => kw_adr _ _) (fun E h => ⟨h.1, fun q => h.2 q.1⟩) (fun v9 u9 h9 => ?_)
  obtain ⟨⟨rfl, hj⟩, h9⟩ := h9
  subst u9
  refine kg_iload_n cx dX3_log_6 rfl ?_
  refine kg_iconst (v := 1) cx dX3_log_7 (by decide) ?_
  refine kg_icmp_lt cx 22 dX3_log_8 (by decide) (fun h1 => ?_) (fun h1 => ?_)
  · exact kx_throw cx hZ hno9 hl kx_fA kx_f kcl_X3_112 kin_IllegalArgumentException kx_gA kx_bA kx_oA dX3_log_22 dX3_log_25 dX3_log_26 dX3_log_29 ⟨Nat.le_of_ble_eq_true rfl, Nat.le_of_ble_eq_true rfl⟩ (by decide) (by decide) (⟨rfl, fun q => kLsn_lo hz h1 q.2⟩)
  · refine kg_iload_n cx dX3_log_11 rfl ?_
    refine kg_aload_n cx dX3_log_12 rfl ?_
    refine kg_get (ci := 3) cx 0 1 kfs_X3 rfl (by decide) rfl rfl kf_X3_30 dX3_log_13 ?_
    refine kg_getN (ci := 1) cx 2 5 kfs_X1 rfl (by decide) rfl rfl (kfn_X3_100 cx.2.2.2.2.2.2.2.2) dX3_log_16 ?_
    refine kg_top (nI z) (hs) ?_
    refine kg_icmp_le cx 30 dX3_log_19 (by decide) (fun h2 => ?_) (fun h2 => ?_)
    · obtain ⟨i, h3, h4, rfl⟩ := kLsn_of hz h1 h2
      obtain ⟨k, hk, rfl⟩ := hj
      refine kg_aload_n cx dX3_log_30 rfl ?_
      refine kg_get (ci := 3) cx 0 1 kfs_X3 rfl (by decide) rfl rfl kf_X3_30 dX3_log_31 ?_
      refine kg_iload_n cx dX3_log_34 rfl ?_
      refine kg_iload_n cx dX3_log_35 rfl ?_
      refine kg_callVN (ci := 1) (na := 2) cx (c_X1_value l D c ad n u i k (by omega) hk) 2 rfl rfl kcd_X1_value (kmn_X3_106 cx.2.2.2.2.2.2.2.2) kin_X1 kim_X1_value ksl_X1_value (by decide +kernel) rfl (by decide) (by decide) rfl (Nat.le_of_ble_eq_true rfl) dX3_log_36 (fun _ => kw_adr _ _) (fun v9 u9 h9 => ?_)
      obtain ⟨rfl, h9⟩ := h9
      subst u9
      exact kx_ireturn cx hr (rfl) _ rfl (⟨⟨i, k, h3, h4, rfl, hk, rfl, rfl⟩, rfl⟩) dX3_log_39 (by decide)
    · exact kx_throw cx hZ hno9 hl kx_fA kx_f kcl_X3_112 kin_IllegalArgumentException kx_gA kx_bA kx_oA dX3_log_22 dX3_log_25 dX3_log_26 dX3_log_29 ⟨Nat.le_of_ble_eq_true rfl, Nat.le_of_ble_eq_true rfl⟩ (by decide) (by decide) (⟨rfl, fun q => kLsn_hi hz h2 q.2⟩)
set_option maxHeartbeats 4000000 in
set_option maxRecDepth 100000 in
theorem c_X3_count (l : Launch) (hl : l.stackTraces = false) (D : va_G) (c : Nat → ClassId) (ad : Nat → Nat → Nat) (n : Nat) (u : kS) (x : Int32) : kX l D c ad n yX3_count (Cond.code yX3_count cX3_count 2 (some .int)) 6 82 1 6 u [.ref (ad 0 0), .int x] (fun v u9 => (∃ j, j < 8 ∧ x = nI j ∧ v = some (.int (kCnt u j))) ∧ u9 = u) (fun E => E = sA ∧ ¬ kIn x 8) := by
  refine kx.mk (by decide) (by simp [Value.category]) (Nat.le_of_ble_eq_true rfl) ?_
  intro p e s m args below meth c9 cx hr hZ hno9
  refine kg_iload_n cx dX3_count_0 rfl ?_
  rcases pk_ix x (n := 8) (by decide) with h9 | h9 | ⟨j, hj, e9⟩
  · refine kg_tableOut cx 103 dX3_count_1 (Or.inl (k_ltT h9)) (by decide) ?_
    exact kx_throw cx hZ hno9 hl kx_fA kx_f kcl_X3_112 kin_IllegalArgumentException kx_gA kx_bA kx_oA dX3_count_103 dX3_count_106 dX3_count_107 dX3_count_110 ⟨Nat.le_of_ble_eq_true rfl, Nat.le_of_ble_eq_true rfl⟩ (by decide) (by decide) (⟨rfl, kIn_lo (by decide) h9⟩)
  · refine kg_tableOut cx 103 dX3_count_1 (Or.inr (k_geT (B := 7) (by decide) h9)) (by decide) ?_
    exact kx_throw cx hZ hno9 hl kx_fA kx_f kcl_X3_112 kin_IllegalArgumentException kx_gA kx_bA kx_oA dX3_count_103 dX3_count_106 dX3_count_107 dX3_count_110 ⟨Nat.le_of_ble_eq_true rfl, Nat.le_of_ble_eq_true rfl⟩ (by decide) (by decide) (⟨rfl, kIn_hi (by decide) (Int32.not_lt.mpr h9)⟩)
  · subst e9
    match j, hj with
    | 0, hj =>
      refine kg_tableIn (off := 47) cx 48 dX3_count_1 (by decide) (by decide) (by decide +kernel) (by decide) ?_
      refine kg_aload_n cx dX3_count_48 rfl ?_
      refine kg_get (ci := 3) cx 0 1 kfs_X3 rfl (by decide) rfl rfl kf_X3_30 dX3_count_49 ?_
      refine kg_getN (ci := 1) cx 2 5 kfs_X1 rfl (by decide) rfl rfl (kfn_X3_100 cx.2.2.2.2.2.2.2.2) dX3_count_52 ?_
      exact kx_ireturn cx hr (rfl) _ rfl (⟨⟨0, hj, rfl, rfl⟩, rfl⟩) dX3_count_55 (by decide)
    | 1, hj =>
      refine kg_tableIn (off := 55) cx 56 dX3_count_1 (by decide) (by decide) (by decide +kernel) (by decide) ?_
      refine kg_aload_n cx dX3_count_56 rfl ?_
      refine kg_get (ci := 3) cx 0 1 kfs_X3 rfl (by decide) rfl rfl kf_X3_30 dX3_count_57 ?_
      refine kg_getN (ci := 1) cx 2 6 kfs_X1 rfl (by decide) rfl rfl (kfn_X3_45 cx.2.2.2.2.2.2.2.2) dX3_count_60 ?_
      exact kx_ireturn cx hr (rfl) _ rfl (⟨⟨1, hj, rfl, rfl⟩, rfl⟩) dX3_count_63 (by decide)
    | 2, hj =>
      refine kg_tableIn (off := 63) cx 64 dX3_count_1 (by decide) (by decide) (by decide +kernel) (by decide) ?_
      refine kg_aload_n cx dX3_count_64 rfl ?_
      refine kg_callV (ci := 3) (na := 0) cx (c_X3_activeOnes l D c ad n u) 0 rfl rfl kcd_X3_activeOnes km_X3_73 kin_X3 kim_X3_activeOnes ksl_X3_activeOnes (by decide +kernel) rfl (by decide) (by decide) rfl (Nat.le_of_ble_eq_true rfl) dX3_count_65 (fun _ => kw_adr _ _) (fun v9 u9 h9 => ?_)
      obtain ⟨rfl, h9⟩ := h9
      subst u9
      exact kx_ireturn cx hr (rfl) _ rfl (⟨⟨2, hj, rfl, rfl⟩, rfl⟩) dX3_count_68 (by decide)
    | 3, hj =>
      refine kg_tableIn (off := 68) cx 69 dX3_count_1 (by decide) (by decide) (by decide +kernel) (by decide) ?_
      refine kg_aload_n cx dX3_count_69 rfl ?_
      refine kg_get (ci := 3) cx 0 0 kfs_X3 rfl (by decide) rfl rfl kf_X3_23 dX3_count_70 ?_
      refine kg_getN (ci := 2) cx 1 2 kfs_X2 rfl (by decide) rfl rfl (kfn_X3_161 cx.2.2.2.2.2.2.2.2) dX3_count_73 ?_
      exact kx_ireturn cx hr (rfl) _ rfl (⟨⟨3, hj, rfl, rfl⟩, rfl⟩) dX3_count_76 (by decide)
    | 4, hj =>
      refine kg_tableIn (off := 76) cx 77 dX3_count_1 (by decide) (by decide) (by decide +kernel) (by decide) ?_
      refine kg_aload_n cx dX3_count_77 rfl ?_
      refine kg_get (ci := 3) cx 0 0 kfs_X3 rfl (by decide) rfl rfl kf_X3_23 dX3_count_78 ?_
      refine kg_getN (ci := 2) cx 1 3 kfs_X2 rfl (by decide) rfl rfl (kfn_X3_164 cx.2.2.2.2.2.2.2.2) dX3_count_81 ?_
      exact kx_ireturn cx hr (rfl) _ rfl (⟨⟨4, hj, rfl, rfl⟩, rfl⟩) dX3_count_84 (by decide)
    | 5, hj =>
      refine kg_tableIn (off := 84) cx 85 dX3_count_1 (by decide) (by decide) (by decide +kernel) (by decide) ?_
      refine kg_aload_n cx dX3_count_85 rfl ?_
      refine kg_get (ci := 3) cx 0 0 kfs_X3 rfl (by decide) rfl rfl kf_X3_23 dX3_count_86 ?_
      refine kg_getN (ci := 2) cx 1 4 kfs_X2 rfl (by decide) rfl rfl (kfn_X3_167 cx.2.2.2.2.2.2.2.2) dX3_count_89 ?_
      exact kx_ireturn cx hr (rfl) _ rfl (⟨⟨5, hj, rfl, rfl⟩, rfl⟩) dX3_count_92 (by decide)
    | 6, hj =>
      refine kg_tableIn (off := 92) cx 93 dX3_count_1 (by decide) (by decide) (by decide +kernel) (by decide) ?_
      refine kg_aload_n cx dX3_count_93 rfl ?_
      refine kg_get (ci := 3) cx 0 4 kfs_X3 rfl (by decide) rfl rfl kf_X3_148 dX3_count_94 ?_
      exact kx_ireturn cx hr (rfl) _ rfl (⟨⟨6, hj, rfl, rfl⟩, rfl⟩) dX3_count_97 (by decide)
    | 7, hj =>
      refine kg_tableIn (off := 97) cx 98 dX3_count_1 (by decide) (by decide) (by decide +kernel) (by decide) ?_
      refine kg_aload_n cx dX3_count_98 rfl ?_
      refine kg_get (ci := 3) cx 0 5 kfs_X3 rfl (by decide) rfl rfl kf_X3_142 dX3_count_99 ?_
      exact kx_ireturn cx hr (rfl) _ rfl (⟨⟨7, hj, rfl, rfl⟩, rfl⟩) dX3_count_102 (by decide)
    | j + 8, hj => exact absurd hj (by omega)
set_option maxHeartbeats 4000000 in
set_option maxRecDepth 100000 in
theorem c_X3_frame (l : Launch) (hl : l.stackTraces = false) (D : va_G) (c : Nat → ClassId) (ad : Nat → Nat → Nat) (n : Nat) (hn : n ≤ 8) (u : kS) (x y : Int32) : kX l D c ad n yX3_frame (Cond.code yX3_frame cX3_frame 4 (some .int)) 7 103 2 12 u [.ref (ad 0 0), .int x, .int y] (fun v u9 => (∃ f j, f < n ∧ x = nI f ∧ j < 5 ∧ y = nI j ∧ v = some (.int (kFrm u f j))) ∧ u9 = u) (fun E => E = sA ∧ ¬ (kIn x n ∧ kIn y 5)) := by
  refine kx.mk (by decide) (by simp [Value.category]) (Nat.le_of_ble_eq_true rfl) ?_
  intro p e s m args below meth c9 cx hr hZ hno9
  refine kg_iload_n cx dX3_frame_0 rfl ?_
  refine kg_aload_n cx dX3_frame_1 rfl ?_
  refine kg_get (ci := 3) cx 0 0 kfs_X3 rfl (by decide) rfl rfl kf_X3_23 dX3_frame_2 ?_
  refine kg_getN (ci := 2) cx 1 1 kfs_X2 rfl (by decide) rfl rfl (kfn_X3_52 cx.2.2.2.2.2.2.2.2) dX3_frame_5 ?_
  refine kg_alen (v := nI n) cx 4 2 rfl rfl rfl dX3_frame_8 ?_
  refine kx_callS (na := 2) cx hZ hno9 (c_X3_checkBelow l hl D c ad n u x n (by omega)) kcd_X3_checkBelow km_X3_41 kin_X3 kst_X3_checkBelow (by decide +kernel) rfl (by decide) (by decide) (by decide) rfl (Nat.le_of_ble_eq_true rfl) dX3_frame_9 (fun _ => kw_adr _ _) (fun E h => ⟨h.1, fun q => h.2 q.1⟩) (fun v9 u9 h9 => ?_)
  obtain ⟨⟨rfl, hi⟩, h9⟩ := h9
  subst u9
  obtain ⟨f, hi2⟩ := hi
  have hf := hi2.1
  refine kg_aload_n cx dX3_frame_12 rfl ?_
  refine kg_get (ci := 3) cx 0 0 kfs_X3 rfl (by decide) rfl rfl kf_X3_23 dX3_frame_13 ?_
  refine kg_getN (ci := 2) cx 1 1 kfs_X2 rfl (by decide) rfl rfl (kfn_X3_52 cx.2.2.2.2.2.2.2.2) dX3_frame_16 ?_
  refine kg_iload_n cx dX3_frame_19 rfl ?_
  refine kg_aaldN cx 4 2 f rfl rfl (hi2.2) (hf) (by omega) (k_if hf _) dX3_frame_20 ?_
  refine kg_astore_n cx dX3_frame_21 (by decide) ?_
  refine kg_iload_n cx dX3_frame_22 rfl ?_
  rcases pk_ix y (n := 5) (by decide) with h9 | h9 | ⟨j, hj, e9⟩
  · refine kg_tableOut cx 100 dX3_frame_23 (Or.inl (k_ltT h9)) (by decide) ?_
    exact kx_throw cx hZ hno9 hl kx_fA kx_f kcl_X3_112 kin_IllegalArgumentException kx_gA kx_bA kx_oA dX3_frame_100 dX3_frame_103 dX3_frame_104 dX3_frame_107 ⟨Nat.le_of_ble_eq_true rfl, Nat.le_of_ble_eq_true rfl⟩ (by decide) (by decide) (⟨rfl, fun q => kIn_lo (by decide) h9 q.2⟩)
  · refine kg_tableOut cx 100 dX3_frame_23 (Or.inr (k_geT (B := 4) (by decide) h9)) (by decide) ?_
    exact kx_throw cx hZ hno9 hl kx_fA kx_f kcl_X3_112 kin_IllegalArgumentException kx_gA kx_bA kx_oA dX3_frame_100 dX3_frame_103 dX3_frame_104 dX3_frame_107 ⟨Nat.le_of_ble_eq_true rfl, Nat.le_of_ble_eq_true rfl⟩ (by decide) (by decide) (⟨rfl, fun q => kIn_hi (by decide) (Int32.not_lt.mpr h9) q.2⟩)
  · subst e9
    match j, hj with
    | 0, hj =>
      refine kg_tableIn (off := 33) cx 56 dX3_frame_23 (by decide) (by decide) (by decide +kernel) (by decide) ?_
      refine kg_aload_n cx dX3_frame_56 rfl ?_
      refine kg_getN (ci := 0) cx (44 + f) 1 kfs_X0 rfl (by decide) (kw_at_o hf) rfl (kfn_X3_155 cx.2.2.2.2.2.2.2.2) dX3_frame_57 ?_
      exact kx_ireturn cx hr (rfl) _ rfl (⟨⟨f, 0, hf, hi2.2, hj, rfl, rfl⟩, rfl⟩) dX3_frame_60 (by decide)
    | 1, hj =>
      refine kg_tableIn (off := 38) cx 61 dX3_frame_23 (by decide) (by decide) (by decide +kernel) (by decide) ?_
      refine kg_aload_n cx dX3_frame_61 rfl ?_
      refine kg_getN (ci := 0) cx (44 + f) 2 kfs_X0 rfl (by decide) (kw_at_o hf) rfl (kfn_X3_56 cx.2.2.2.2.2.2.2.2) dX3_frame_62 ?_
      exact kx_ireturn cx hr (rfl) _ rfl (⟨⟨f, 1, hf, hi2.2, hj, rfl, rfl⟩, rfl⟩) dX3_frame_65 (by decide)
    | 2, hj =>
      refine kg_tableIn (off := 43) cx 66 dX3_frame_23 (by decide) (by decide) (by decide +kernel) (by decide) ?_
      refine kg_aload_n cx dX3_frame_66 rfl ?_
      refine kg_getN (ci := 0) cx (44 + f) 3 kfs_X0 rfl (by decide) (kw_at_o hf) rfl (kfn_X3_119 cx.2.2.2.2.2.2.2.2) dX3_frame_67 ?_
      refine kg_if_eq cx 77 dX3_frame_70 (by decide) (fun h7 => ?_) (fun h7 => ?_)
      · refine kg_iconst (v := 0) cx dX3_frame_77 (by decide) ?_
        exact kx_ireturn cx hr (rfl) _ rfl (⟨⟨f, 2, hf, hi2.2, hj, rfl, congrArg (fun x => some (Value.int x)) (kb_0 (P := u 3 f 0 ≠ 0) (fun q => q h7)).symm⟩, rfl⟩) dX3_frame_78 (by decide)
      · refine kg_iconst (v := 1) cx dX3_frame_73 (by decide) ?_
        refine kg_goto cx 78 dX3_frame_74 (by decide) ?_
        exact kx_ireturn cx hr (rfl) _ rfl (⟨⟨f, 2, hf, hi2.2, hj, rfl, congrArg (fun x => some (Value.int x)) (kb_1 (P := u 3 f 0 ≠ 0) h7).symm⟩, rfl⟩) dX3_frame_78 (by decide)
    | 3, hj =>
      refine kg_tableIn (off := 56) cx 79 dX3_frame_23 (by decide) (by decide) (by decide +kernel) (by decide) ?_
      refine kg_aload_n cx dX3_frame_79 rfl ?_
      refine kg_getN (ci := 0) cx (44 + f) 4 kfs_X0 rfl (by decide) (kw_at_o hf) rfl (kfn_X3_158 cx.2.2.2.2.2.2.2.2) dX3_frame_80 ?_
      refine kg_if_eq cx 90 dX3_frame_83 (by decide) (fun h7 => ?_) (fun h7 => ?_)
      · refine kg_iconst (v := 0) cx dX3_frame_90 (by decide) ?_
        exact kx_ireturn cx hr (rfl) _ rfl (⟨⟨f, 3, hf, hi2.2, hj, rfl, congrArg (fun x => some (Value.int x)) (kb_0 (P := u 4 f 0 ≠ 0) (fun q => q h7)).symm⟩, rfl⟩) dX3_frame_91 (by decide)
      · refine kg_iconst (v := 1) cx dX3_frame_86 (by decide) ?_
        refine kg_goto cx 91 dX3_frame_87 (by decide) ?_
        exact kx_ireturn cx hr (rfl) _ rfl (⟨⟨f, 3, hf, hi2.2, hj, rfl, congrArg (fun x => some (Value.int x)) (kb_1 (P := u 4 f 0 ≠ 0) h7).symm⟩, rfl⟩) dX3_frame_91 (by decide)
    | 4, hj =>
      refine kg_tableIn (off := 69) cx 92 dX3_frame_23 (by decide) (by decide) (by decide +kernel) (by decide) ?_
      refine kg_aload_n cx dX3_frame_92 rfl ?_
      refine kg_getN (ci := 0) cx (44 + f) 0 kfs_X0 rfl (by decide) (kw_at_o hf) rfl (kfn_X3_65 cx.2.2.2.2.2.2.2.2) dX3_frame_93 ?_
      refine kg_bipush (v := (nI 8)) cx dX3_frame_96 (by decide) ?_
      refine kg_ialdN cx (44 + n + f) 0 8 rfl (kw_at_r hf) (rfl) (by decide) (by decide) (rfl) dX3_frame_98 ?_
      exact kx_ireturn cx hr (rfl) _ rfl (⟨⟨f, 4, hf, hi2.2, hj, rfl, rfl⟩, rfl⟩) dX3_frame_99 (by decide)
    | j + 5, hj => exact absurd hj (by omega)
set_option maxHeartbeats 4000000 in
set_option maxRecDepth 100000 in
theorem c_X3_fetch (l : Launch) (hl : l.stackTraces = false) (D : va_G) (c : Nat → ClassId) (ad : Nat → Nat → Nat) (n : Nat) (hn : n ≤ 8) (u : kS) (x : Int32) (h : Nat) (Q : Nat → Nat) (hh : h < n) (hH : u 6 0 0 = nI h) (hQ : ∀ f, f < n → u 3 f 0 ≠ 0 → u 1 f 0 = nI (Q f) ∧ Q f < 32) : kX l D c ad n yX3_fetch (Cond.code yX3_fetch cX3_fetch 3 (some .int)) 7 126 1 6 u [.ref (ad 0 0), .int x] (fun v u9 => ∃ q, q < 32 ∧ x = nI q ∧ ((kBring u n q (u 15 0 0) h Q (-1) u9 ∧ v = some (.int (-2))) ∨ (∃ f u1, f < n ∧ kBring u n q (u 15 0 0) h Q (nI f) u1 ∧ v = some (.int (nI f)) ∧ u9 = ku u1 2 f 0 (u1 2 f 0 + 1)))) (fun E => E = sA ∧ ¬ kIn x 32) := by
  refine kx.mk (by decide) (by simp [Value.category]) (Nat.le_of_ble_eq_true rfl) ?_
  intro p e s m args below meth c9 cx hr hZ hno9
  refine kg_iload_n cx dX3_fetch_0 rfl ?_
  refine kg_bipush (v := (nI 32)) cx dX3_fetch_1 (by decide) ?_
  refine kx_callS (na := 2) cx hZ hno9 (c_X3_checkBelow l hl D c ad n u x 32 (by decide)) kcd_X3_checkBelow km_X3_41 kin_X3 kst_X3_checkBelow (by decide +kernel) rfl (by decide) (by decide) (by decide) rfl (Nat.le_of_ble_eq_true rfl) dX3_fetch_3 (fun _ => kw_adr _ _) (fun E h => h) (fun v9 u9 h9 => ?_)
  obtain ⟨⟨rfl, hi⟩, h9⟩ := h9
  subst u9
  obtain ⟨q, hq, rfl⟩ := hi
  refine kg_aload_n cx dX3_fetch_6 rfl ?_
  refine kg_get (ci := 3) cx 0 0 kfs_X3 rfl (by decide) rfl rfl kf_X3_23 dX3_fetch_7 ?_
  refine kg_iload_n cx dX3_fetch_10 rfl ?_
  refine kg_aload_n cx dX3_fetch_11 rfl ?_
  refine kg_get (ci := 3) cx 0 1 kfs_X3 rfl (by decide) rfl rfl kf_X3_30 dX3_fetch_12 ?_
  refine kg_getN (ci := 1) cx 2 6 kfs_X1 rfl (by decide) rfl rfl (kfn_X3_45 cx.2.2.2.2.2.2.2.2) dX3_fetch_15 ?_
  refine kg_callVN (ci := 2) (na := 2) cx (c_X2_bring l D c ad n hn u q (u 15 0 0) h Q hq hh hH hQ) 1 rfl rfl kcd_X2_bring (kmn_X3_49 cx.2.2.2.2.2.2.2.2) kin_X2 kim_X2_bring ksl_X2_bring (by decide +kernel) rfl (by decide) (by decide) rfl (Nat.le_of_ble_eq_true rfl) dX3_fetch_18 (fun _ => kw_adr _ _) (fun v9 u9 h9 => ?_)
  obtain ⟨r9, rfl, hb9⟩ := h9
  rcases kBring_r hb9 with ⟨f, hf, rfl⟩ | rfl
  · refine kg_istore_n cx dX3_fetch_21 (by decide) ?_
    refine kg_iload_n cx dX3_fetch_22 rfl ?_
    refine kg_if_ge cx 29 dX3_fetch_23 (by decide) (fun h1 => ?_) (fun h1 => ?_)
    · refine kg_aload_n cx dX3_fetch_29 rfl ?_
      refine kg_get (ci := 3) cx 0 0 kfs_X3 rfl (by decide) rfl rfl kf_X3_23 dX3_fetch_30 ?_
      refine kg_getN (ci := 2) cx 1 1 kfs_X2 rfl (by decide) rfl rfl (kfn_X3_52 cx.2.2.2.2.2.2.2.2) dX3_fetch_33 ?_
      refine kg_iload_n cx dX3_fetch_36 rfl ?_
      refine kg_aaldN cx 4 2 f rfl rfl (rfl) (hf) (by omega) (k_if hf _) dX3_fetch_37 ?_
      refine kg_dup cx dX3_fetch_38 rfl ?_
      refine kg_getN (ci := 0) cx (44 + f) 2 kfs_X0 rfl (by decide) (kw_at_o hf) rfl (kfn_X3_56 cx.2.2.2.2.2.2.2.2) dX3_fetch_39 ?_
      refine kg_iconst (v := 1) cx dX3_fetch_42 (by decide) ?_
      refine kg_iadd cx dX3_fetch_43 ?_
      refine kg_putN (ci := 0) (ty := .int) cx (44 + f) 2 kfs_X0 tyX0 tyX0_ok nmX0 rfl (by decide) (kw_at_o hf) (Nat.le_of_ble_eq_true rfl) (kfn_X3_56 cx.2.2.2.2.2.2.2.2) rfl (by decide +kernel) rfl rfl (ks_pins hf _) dX3_fetch_44 ?_
      refine kg_iload_n cx dX3_fetch_47 rfl ?_
      exact kx_ireturn cx hr (rfl) _ rfl (⟨q, hq, rfl, Or.inr ⟨f, u9, hf, hb9, rfl, rfl⟩⟩) dX3_fetch_48 (by decide)
    · exact absurd (nI_ge0 (by omega)) h1
  · refine kg_istore_n cx dX3_fetch_21 (by decide) ?_
    refine kg_iload_n cx dX3_fetch_22 rfl ?_
    refine kg_if_ge cx 29 dX3_fetch_23 (by decide) (fun h1 => ?_) (fun h1 => ?_)
    · exact absurd h1 (by decide)
    · refine kg_bipush (v := (-2)) cx dX3_fetch_26 (by decide) ?_
      exact kx_ireturn cx hr (rfl) _ rfl (⟨q, hq, rfl, Or.inl ⟨hb9, rfl⟩⟩) dX3_fetch_28 (by decide)
/-- an UPDATE: the number k of the page q in the frame f becomes x, by the transaction t, behind z records -/
def kSet (u : kS) (f t q k : Nat) (x : Int32) (z : Nat) : kS := ku (ku (ku (kFol (kApp u (z + 1) 0 (nI t) (nI q) (nI k) (u 5 f k) x (-1)) (z + 1) t 0) 5 f k x) 5 f 8 (nI (z + 1))) 3 f 0 1
set_option maxHeartbeats 4000000 in
set_option maxRecDepth 100000 in
theorem c_X3_set (l : Launch) (hl : l.stackTraces = false) (D : va_G) (c : Nat → ClassId) (ad : Nat → Nat → Nat) (n : Nat) (hn : n ≤ 8) (u : kS) (a x y val : Int32) (z : Nat) (hs : u 14 0 0 = nI z) (hrm : kRm u (3 + kct (fun t => u 16 t 0) 8) → z < 400) : kX l D c ad n yX3_set (Cond.code yX3_set cX3_set 7 (some .int)) 8 124 6 36 u [.ref (ad 0 0), .int a, .int x, .int y, .int val] (fun v u9 => ∃ t q k f, t < 8 ∧ a = nI t ∧ q < 32 ∧ x = nI q ∧ k < 8 ∧ y = nI k ∧ u 16 t 0 ≠ 0 ∧ u 17 t 0 = 0 ∧ kPin u n x f ∧ ((¬ kRm u (3 + kct (fun t => u 16 t 0) 8) ∧ v = some (.int (-2)) ∧ u9 = u) ∨ (kRm u (3 + kct (fun t => u 16 t 0) 8) ∧ v = some (.int (nI (z + 1))) ∧ u9 = kSet u f t q k val z))) (fun E => (E = sA ∧ ¬ (kIn a 8 ∧ kIn x 32 ∧ kIn y 8)) ∨ (E = sS ∧ ∃ t, t < 8 ∧ a = nI t ∧ kIn x 32 ∧ kIn y 8 ∧ ¬ (u 16 t 0 ≠ 0 ∧ u 17 t 0 = 0 ∧ ∃ f, kPin u n x f))) := by
  refine kx.mk (by decide) (by simp [Value.category]) (Nat.le_of_ble_eq_true rfl) ?_
  intro p e s m args below meth c9 cx hr hZ hno9
  refine kg_iload_n cx dX3_set_0 rfl ?_
  refine kg_bipush (v := (nI 8)) cx dX3_set_1 (by decide) ?_
  refine kx_callS (na := 2) cx hZ hno9 (c_X3_checkBelow l hl D c ad n u a 8 (by decide)) kcd_X3_checkBelow km_X3_41 kin_X3 kst_X3_checkBelow (by decide +kernel) rfl (by decide) (by decide) (by decide) rfl (Nat.le_of_ble_eq_true rfl) dX3_set_3 (fun _ => kw_adr _ _) (fun E h => Or.inl ⟨h.1, fun q => h.2 q.1⟩) (fun v9 u9 h9 => ?_)
  obtain ⟨⟨rfl, hi⟩, h9⟩ := h9
  subst u9
  refine kg_iload_n cx dX3_set_6 rfl ?_
  refine kg_bipush (v := (nI 32)) cx dX3_set_7 (by decide) ?_
  refine kx_callS (na := 2) cx hZ hno9 (c_X3_checkBelow l hl D c ad n u x 32 (by decide)) kcd_X3_checkBelow km_X3_41 kin_X3 kst_X3_checkBelow (by decide +kernel) rfl (by decide) (by decide) (by decide) rfl (Nat.le_of_ble_eq_true rfl) dX3_set_9 (fun _ => kw_adr _ _) (fun E h => Or.inl ⟨h.1, fun q => h.2 q.2.1⟩) (fun v9 u9 h9 => ?_)
  obtain ⟨⟨rfl, hj⟩, h9⟩ := h9
  subst u9
  refine kg_iload_n cx dX3_set_12 rfl ?_
  refine kg_bipush (v := (nI 8)) cx dX3_set_13 (by decide) ?_
  refine kx_callS (na := 2) cx hZ hno9 (c_X3_checkBelow l hl D c ad n u y 8 (by decide)) kcd_X3_checkBelow km_X3_41 kin_X3 kst_X3_checkBelow (by decide +kernel) rfl (by decide) (by decide) (by decide) rfl (Nat.le_of_ble_eq_true rfl) dX3_set_15 (fun _ => kw_adr _ _) (fun E h => Or.inl ⟨h.1, fun q => h.2 q.2.2⟩) (fun v9 u9 h9 => ?_)
  obtain ⟨⟨rfl, hm⟩, h9⟩ := h9
  subst u9
  obtain ⟨t, ht, rfl⟩ := hi
  refine kg_aload_n cx dX3_set_18 rfl ?_
  refine kg_iload_n cx dX3_set_19 rfl ?_
  refine kx_callV (ci := 3) (na := 1) cx hZ hno9 (c_X3_checkGoesOn l hl D c ad n u t ht) 0 rfl rfl kcd_X3_checkGoesOn km_X3_80 kin_X3 kim_X3_checkGoesOn ksl_X3_checkGoesOn (by decide +kernel) rfl (by decide) (by decide) (by decide) rfl (Nat.le_of_ble_eq_true rfl) dX3_set_20 (fun _ => kw_adr _ _) (fun E h => Or.inr ⟨h.1, t, ht, rfl, hj, hm, fun q => h.2 ⟨q.1, q.2.1⟩⟩) (fun v9 u9 h9 => ?_)
  obtain ⟨⟨rfl, ha, hg⟩, h9⟩ := h9
  subst u9
  refine kg_aload_n cx dX3_set_23 rfl ?_
  refine kg_iload_n cx dX3_set_24 rfl ?_
  refine kx_callV (ci := 3) (na := 1) cx hZ hno9 (c_X3_pinnedFrame l hl D c ad n hn u x) 0 rfl rfl kcd_X3_pinnedFrame km_X3_61 kin_X3 kim_X3_pinnedFrame ksl_X3_pinnedFrame (by decide +kernel) rfl (by decide) (by decide) (by decide) rfl (Nat.le_of_ble_eq_true rfl) dX3_set_25 (fun _ => kw_adr _ _) (fun E h => Or.inr ⟨h.1, t, ht, rfl, hj, hm, fun q => h.2 q.2.2⟩) (fun v9 u9 h9 => ?_)
  obtain ⟨⟨f, hf, rfl⟩, h9⟩ := h9
  subst u9
  obtain ⟨q, hq, rfl⟩ := hj
  obtain ⟨k, hk, rfl⟩ := hm
  refine kg_astore cx dX3_set_28 (by decide) ?_
  refine kg_aload_n cx dX3_set_30 rfl ?_
  refine kg_get (ci := 3) cx 0 1 kfs_X3 rfl (by decide) rfl rfl kf_X3_30 dX3_set_31 ?_
  refine kg_iconst (v := (nI 3)) cx dX3_set_34 (by decide) ?_
  refine kg_aload_n cx dX3_set_35 rfl ?_
  refine kg_callV (ci := 3) (na := 0) cx (c_X3_activeOnes l D c ad n u) 0 rfl rfl kcd_X3_activeOnes km_X3_73 kin_X3 kim_X3_activeOnes ksl_X3_activeOnes (by decide +kernel) rfl (by decide) (by decide) rfl (Nat.le_of_ble_eq_true rfl) dX3_set_36 (fun _ => kw_adr _ _) (fun v9 u9 h9 => ?_)
  obtain ⟨rfl, h9⟩ := h9
  subst u9
  refine kg_iadd cx dX3_set_39 ?_
  refine kg_top (nI (3 + kct (fun t => u 16 t 0) 8)) (nI_add _ _) ?_
  refine kg_callVN (ci := 1) (na := 1) cx (c_X1_hasRoomFor l D c ad n u (nI (3 + kct (fun t => u 16 t 0) 8))) 2 rfl rfl kcd_X1_hasRoomFor (kmn_X3_76 cx.2.2.2.2.2.2.2.2) kin_X1 kim_X1_hasRoomFor ksl_X1_hasRoomFor (by decide +kernel) rfl (by decide) (by decide) rfl (Nat.le_of_ble_eq_true rfl) dX3_set_40 (fun _ => kw_adr _ _) (fun v9 u9 h9 => ?_)
  obtain ⟨rfl, h9⟩ := h9
  subst u9
  refine kg_if_ne cx 49 dX3_set_43 (by decide) (fun h2 => ?_) (fun h2 => ?_)
  · have hr3 : kRm u (3 + kct (fun t => u 16 t 0) 8) := by
      by_cases q9 : kRm u (3 + kct (fun t => u 16 t 0) 8)
      · exact q9
      · exact absurd (kb_0 q9) h2
    refine kg_aload_n cx dX3_set_49 rfl ?_
    refine kg_get (ci := 3) cx 0 1 kfs_X3 rfl (by decide) rfl rfl kf_X3_30 dX3_set_50 ?_
    refine kg_iconst (v := 0) cx dX3_set_53 (by decide) ?_
    refine kg_iload_n cx dX3_set_54 rfl ?_
    refine kg_iload_n cx dX3_set_55 rfl ?_
    refine kg_iload_n cx dX3_set_56 rfl ?_
    refine kg_aload cx dX3_set_57 rfl ?_
    refine kg_getN (ci := 0) cx (44 + f) 0 kfs_X0 rfl (by decide) (kw_at_o hf.1) rfl (kfn_X3_65 cx.2.2.2.2.2.2.2.2) dX3_set_59 ?_
    refine kg_iload_n cx dX3_set_62 rfl ?_
    refine kg_ialdN cx (44 + n + f) 0 k rfl (kw_at_r hf.1) (rfl) (Nat.lt_succ_of_lt hk) (by decide) (rfl) dX3_set_63 ?_
    refine kg_iload cx dX3_set_64 rfl ?_
    refine kg_iconst (v := (-1)) cx dX3_set_66 (by decide) ?_
    refine kg_callVN (ci := 1) (na := 7) cx (c_X1_append l D c ad n u z t 0 0 (nI q) (nI k) (u 5 f k) val (-1) hs (hrm hr3) ht (by decide) (fun h => absurd h (by decide))) 2 rfl rfl kcd_X1_append (kmn_X3_83 cx.2.2.2.2.2.2.2.2) kin_X1 kim_X1_append ksl_X1_append (by decide +kernel) rfl (by decide) (by decide) rfl (Nat.le_of_ble_eq_true rfl) dX3_set_67 (fun _ => kw_adr _ _) (fun v9 u9 h9 => ?_)
    obtain ⟨rfl, h9⟩ := h9
    subst u9
    refine kg_istore cx dX3_set_70 (by decide) ?_
    refine kg_aload cx dX3_set_72 rfl ?_
    refine kg_iload_n cx dX3_set_74 rfl ?_
    refine kg_iload cx dX3_set_75 rfl ?_
    refine kg_iload cx dX3_set_77 rfl ?_
    refine kg_callVN (ci := 0) (na := 3) cx (c_X0_change l D c ad n _ f k val (nI (z + 1)) hf.1 hk) (44 + f) rfl (kw_at_o hf.1) kcd_X0_change (kmn_X3_87 cx.2.2.2.2.2.2.2.2) kin_X0 kim_X0_change ksl_X0_change (by decide +kernel) rfl (by decide) (by decide) rfl (Nat.le_of_ble_eq_true rfl) dX3_set_79 (fun _ => kw_adr _ _) (fun v9 u9 h9 => ?_)
    obtain ⟨rfl, h9⟩ := h9
    subst u9
    refine kg_iload cx dX3_set_82 rfl ?_
    exact kx_ireturn cx hr (rfl) _ rfl (⟨t, q, k, f, ht, rfl, hq, rfl, hk, rfl, ha, hg, hf, Or.inr ⟨hr3, rfl, rfl⟩⟩) dX3_set_84 (by decide)
  · refine kg_bipush (v := (-2)) cx dX3_set_46 (by decide) ?_
    exact kx_ireturn cx hr (rfl) _ rfl (⟨t, q, k, f, ht, rfl, hq, rfl, hk, rfl, ha, hg, hf, Or.inl ⟨fun q9 => absurd ((kb_1 q9).symm.trans h2) (by decide), rfl, rfl⟩⟩) dX3_set_48 (by decide)
def kCom (u : kS) (t z : Nat) : kS := ku (kFlu (kFol (kApp u (z + 1) (nI 2) (nI t) (-1) (-1) (-1) (-1) (-1)) (z + 1) t 0) (nI (z + 1))) 16 t 0 0
set_option maxHeartbeats 4000000 in
set_option maxRecDepth 100000 in
theorem c_X3_commit (l : Launch) (hl : l.stackTraces = false) (D : va_G) (c : Nat → ClassId) (ad : Nat → Nat → Nat) (n : Nat) (u : kS) (a : Int32) (z : Nat) (hs : u 14 0 0 = nI z) (hz : ∀ t, t < 8 → u 16 t 0 ≠ 0 → z < 400) : kX l D c ad n yX3_commit (Cond.code yX3_commit cX3_commit 3 (some .int)) 8 124 3 18 u [.ref (ad 0 0), .int a] (fun v u9 => ∃ t, t < 8 ∧ a = nI t ∧ u 16 t 0 ≠ 0 ∧ u 17 t 0 = 0 ∧ v = some (.int (nI (z + 1))) ∧ u9 = kCom u t z) (fun E => (E = sA ∧ ¬ kIn a 8) ∨ (E = sS ∧ ∃ t, t < 8 ∧ a = nI t ∧ ¬ (u 16 t 0 ≠ 0 ∧ u 17 t 0 = 0))) := by
  refine kx.mk (by decide) (by simp [Value.category]) (Nat.le_of_ble_eq_true rfl) ?_
  intro p e s m args below meth c9 cx hr hZ hno9
  refine kg_iload_n cx dX3_commit_0 rfl ?_
  refine kg_bipush (v := (nI 8)) cx dX3_commit_1 (by decide) ?_
  refine kx_callS (na := 2) cx hZ hno9 (c_X3_checkBelow l hl D c ad n u a 8 (by decide)) kcd_X3_checkBelow km_X3_41 kin_X3 kst_X3_checkBelow (by decide +kernel) rfl (by decide) (by decide) (by decide) rfl (Nat.le_of_ble_eq_true rfl) dX3_commit_3 (fun _ => kw_adr _ _) (fun E h => Or.inl h) (fun v9 u9 h9 => ?_)
  obtain ⟨⟨rfl, hi⟩, h9⟩ := h9
  subst u9
  obtain ⟨t, ht, rfl⟩ := hi
  refine kg_aload_n cx dX3_commit_6 rfl ?_
  refine kg_iload_n cx dX3_commit_7 rfl ?_
  refine kx_callV (ci := 3) (na := 1) cx hZ hno9 (c_X3_checkGoesOn l hl D c ad n u t ht) 0 rfl rfl kcd_X3_checkGoesOn km_X3_80 kin_X3 kim_X3_checkGoesOn ksl_X3_checkGoesOn (by decide +kernel) rfl (by decide) (by decide) (by decide) rfl (Nat.le_of_ble_eq_true rfl) dX3_commit_8 (fun _ => kw_adr _ _) (fun E h => Or.inr ⟨h.1, t, ht, rfl, h.2⟩) (fun v9 u9 h9 => ?_)
  obtain ⟨⟨rfl, ha, hg⟩, h9⟩ := h9
  subst u9
  refine kg_aload_n cx dX3_commit_11 rfl ?_
  refine kg_get (ci := 3) cx 0 1 kfs_X3 rfl (by decide) rfl rfl kf_X3_30 dX3_commit_12 ?_
  refine kg_iconst (v := (nI 2)) cx dX3_commit_15 (by decide) ?_
  refine kg_iload_n cx dX3_commit_16 rfl ?_
  refine kg_callVN (ci := 1) (na := 2) cx (c_X1_appendLast l D c ad n u z t (nI 2) hs (hz t ht ha) ht (by decide)) 2 rfl rfl kcd_X1_appendLast (kmn_X3_91 cx.2.2.2.2.2.2.2.2) kin_X1 kim_X1_appendLast ksl_X1_appendLast (by decide +kernel) rfl (by decide) (by decide) rfl (Nat.le_of_ble_eq_true rfl) dX3_commit_17 (fun _ => kw_adr _ _) (fun v9 u9 h9 => ?_)
  obtain ⟨rfl, h9⟩ := h9
  subst u9
  refine kg_istore_n cx dX3_commit_20 (by decide) ?_
  refine kg_aload_n cx dX3_commit_21 rfl ?_
  refine kg_get (ci := 3) cx 0 1 kfs_X3 rfl (by decide) rfl rfl kf_X3_30 dX3_commit_22 ?_
  refine kg_iload_n cx dX3_commit_25 rfl ?_
  refine kg_callVN (ci := 1) (na := 1) cx (c_X1_flushTo l D c ad n _ (nI (z + 1))) 2 rfl rfl kcd_X1_flushTo (kmn_X3_94 cx.2.2.2.2.2.2.2.2) kin_X1 kim_X1_flushTo ksl_X1_flushTo (by decide +kernel) rfl (by decide) (by decide) rfl (Nat.le_of_ble_eq_true rfl) dX3_commit_26 (fun _ => kw_adr _ _) (fun v9 u9 h9 => ?_)
  obtain ⟨rfl, h9⟩ := h9
  subst u9
  refine kg_aload_n cx dX3_commit_29 rfl ?_
  refine kg_get (ci := 3) cx 0 2 kfs_X3 rfl (by decide) rfl rfl kf_X3_34 dX3_commit_30 ?_
  refine kg_iload_n cx dX3_commit_33 rfl ?_
  refine kg_iconst (v := 0) cx dX3_commit_34 (by decide) ?_
  refine kg_zastN cx 5 1 t rfl rfl (rfl) (ht) (by decide) (by decide) (ks_active t _) dX3_commit_35 ?_
  refine kg_iload_n cx dX3_commit_36 rfl ?_
  exact kx_ireturn cx hr (rfl) _ rfl (⟨t, ht, rfl, ha, hg, rfl, rfl⟩) dX3_commit_37 (by decide)
