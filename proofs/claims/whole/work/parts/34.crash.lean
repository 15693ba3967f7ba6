theorem kEmp_F {u : kS} {f F a b : Nat} (h : 6 ≤ F ∨ F = 0) : kEmp u f F a b = u F a b := by
  have h1 : F ≠ 1 := by omega
  have h2 : F ≠ 2 := by omega
  have h3 : F ≠ 3 := by omega
  have h4 : F ≠ 4 := by omega
  have h5 : F ≠ 5 := by omega
  simp [kEmp, ku, kfr, h1, h2, h3, h4, h5]
theorem kClr_F {u : kS} {F a b : Nat} (h : 6 ≤ F ∨ F = 0) : ∀ k, kClr u k F a b = u F a b
  | 0 => rfl
  | k + 1 => by
    show kEmp _ _ F a b = _
    rw [kEmp_F h]
    exact kClr_F h k
/-- a crash up to its redoing: the log cut at fl, the pool empty, none active, the records laid on the disk -/
def kCr (u : kS) (n fl : Nat) (T Wd Pg Nb : Nat → Nat) : kS := kRedo (kfl (kfl (ku (kClr (kFols (kCut u fl) T Wd fl) n) 6 0 0 0) 16 8 0) 17 8 0) Pg Nb fl
theorem kCr_9 {u : kS} {n fl a b : Nat} {T Wd Pg Nb : Nat → Nat} : kCr u n fl T Wd Pg Nb 9 a b = u 9 a b := by
  unfold kCr
  rw [kRedo_F (by decide)]
  simp only [kfl]
  rw [if_neg (by simp), if_neg (by simp), ku_F (by decide), kClr_F (by omega), kFols_F (by decide), kCut_F (by decide)]
theorem kCr_14 {u : kS} {n fl : Nat} {T Wd Pg Nb : Nat → Nat} : kCr u n fl T Wd Pg Nb 14 0 0 = nI fl := by
  unfold kCr
  rw [kRedo_F (by decide)]
  simp only [kfl]
  rw [if_neg (by simp), if_neg (by simp), ku_F (by decide), kClr_F (by omega), kFols_F (by decide)]
  simp [kCut, kfl, ku]
theorem kUnd_14 {T Pg Nb : Nat → Nat} : ∀ (i : Nat) (u : kS) (z d : Nat), u 14 0 0 = nI z → (kUnd T Pg Nb i u z d).1 14 0 0 = nI (kUnd T Pg Nb i u z d).2.1
  | 0, _, _, _, h => h
  | i + 1, u, z, d, h => by
    rw [kUnd_s]
    split
    · exact kUnd_14 i _ _ _ kUnd1_14
    · exact kUnd_14 i _ _ _ h
/-- the undoing of a crash, and how many it undid -/
def kCr2 (u : kS) (n fl : Nat) (T Wd Pg Nb : Nat → Nat) : kS := ku (kUnd T Pg Nb fl (kCr u n fl T Wd Pg Nb) fl 0).1 19 0 0 (nI (kUnd T Pg Nb fl (kCr u n fl T Wd Pg Nb) fl 0).2.2)
def kCr3 (u : kS) (n fl : Nat) (T Wd Pg Nb : Nat → Nat) : kS := (kEnds (kCr2 u n fl T Wd Pg Nb) (kUnd T Pg Nb fl (kCr u n fl T Wd Pg Nb) fl 0).2.1 8).1
def kCr4 (u : kS) (n fl : Nat) (T Wd Pg Nb : Nat → Nat) : kS := kFlu (kCr3 u n fl T Wd Pg Nb) (kCr3 u n fl T Wd Pg Nb 14 0 0)
def kCrash (u : kS) (n fl : Nat) (T Wd Pg Nb : Nat → Nat) : kS := ku (kCr4 u n fl T Wd Pg Nb) 18 0 0 (kCr4 u n fl T Wd Pg Nb 18 0 0 + 1)
set_option maxHeartbeats 4000000 in
set_option maxRecDepth 100000 in
theorem c_X3_crash (l : Launch) (D : va_G) (c : Nat → ClassId) (ad : Nat → Nat → Nat) (n : Nat) (hn : n ≤ 8) (u : kS) (fl : Nat) (T Wd Pg Nb : Nat → Nat) (hf : u 15 0 0 = nI fl) (hl4 : fl ≤ 400) (hT : ∀ i, i ≤ fl → 1 ≤ i → u 9 i 1 = nI (T i) ∧ T i < 8) (hW : ∀ i, i ≤ fl → 1 ≤ i → u 9 i 0 = 1 → u 9 i 6 = nI (Wd i)) (hW4 : ∀ i, Wd i ≤ 400) (hP : ∀ i, i ≤ fl → 1 ≤ i → (u 9 i 0 = 0 ∨ u 9 i 0 = 1) → u 9 i 2 = nI (Pg i) ∧ Pg i < 32 ∧ u 9 i 3 = nI (Nb i) ∧ Nb i < 8) (hOk1 : kUndOk T Pg Nb fl (kCr u n fl T Wd Pg Nb) fl) (hOk2 : ∀ t, t < 8 → (kEnds (kCr2 u n fl T Wd Pg Nb) (kUnd T Pg Nb fl (kCr u n fl T Wd Pg Nb) fl 0).2.1 t).1 12 t 0 < (kEnds (kCr2 u n fl T Wd Pg Nb) (kUnd T Pg Nb fl (kCr u n fl T Wd Pg Nb) fl 0).2.1 t).1 11 t 0 → (kEnds (kCr2 u n fl T Wd Pg Nb) (kUnd T Pg Nb fl (kCr u n fl T Wd Pg Nb) fl 0).2.1 t).2 < 400) : kC l D c ad n yX3_crash (Cond.code yX3_crash cX3_crash 2 (some .int)) 5 118 u [.ref (ad 0 0)] (fun v u9 => v = some (.int (u 14 0 0 - u 15 0 0)) ∧ u9 = kCrash u n fl T Wd Pg Nb) := by
  refine kC.mk (by decide) (by simp [Value.category]) (Nat.le_of_ble_eq_true rfl) ?_
  intro p e s m args below meth c9 cx hr
  refine kg_aload_n cx dX3_crash_0 rfl ?_
  refine kg_get (ci := 3) cx 0 1 kfs_X3 rfl (by decide) rfl rfl kf_X3_30 dX3_crash_1 ?_
  refine kg_callVN (ci := 1) (na := 0) cx (c_X1_dropUnflushed l D c ad n u fl T Wd hf hl4 hT hW hW4) 2 rfl rfl kcd_X1_dropUnflushed (kmn_X3_127 cx.2.2.2.2.2.2.2.2) kin_X1 kim_X1_dropUnflushed ksl_X1_dropUnflushed (by decide +kernel) rfl (by decide) (by decide) rfl (Nat.le_of_ble_eq_true rfl) dX3_crash_4 (fun _ => kw_adr _ _) (fun v9 u9 h9 => ?_)
  obtain ⟨rfl, h9⟩ := h9
  subst u9
  refine kg_istore_n cx dX3_crash_7 (by decide) ?_
  refine kg_aload_n cx dX3_crash_8 rfl ?_
  refine kg_get (ci := 3) cx 0 0 kfs_X3 rfl (by decide) rfl rfl kf_X3_23 dX3_crash_9 ?_
  refine kg_callVN (ci := 2) (na := 0) cx (c_X2_clear l D c ad n hn _) 1 rfl rfl kcd_X2_clear (kmn_X3_130 cx.2.2.2.2.2.2.2.2) kin_X2 kim_X2_clear ksl_X2_clear (by decide +kernel) rfl (by decide) (by decide) rfl (Nat.le_of_ble_eq_true rfl) dX3_crash_12 (fun _ => kw_adr _ _) (fun v9 u9 h9 => ?_)
  obtain ⟨rfl, h9⟩ := h9
  subst u9
  refine kg_aload_n cx dX3_crash_15 rfl ?_
  refine kg_callV (ci := 3) (na := 0) cx (c_X3_forgetActiveOnes l D c ad n _) 0 rfl rfl kcd_X3_forgetActiveOnes km_X3_133 kin_X3 kim_X3_forgetActiveOnes ksl_X3_forgetActiveOnes (by decide +kernel) rfl (by decide) (by decide) rfl (Nat.le_of_ble_eq_true rfl) dX3_crash_16 (fun _ => kw_adr _ _) (fun v9 u9 h9 => ?_)
  obtain ⟨rfl, h9⟩ := h9
  subst u9
  refine kg_aload_n cx dX3_crash_19 rfl ?_
  refine kg_callV (ci := 3) (na := 0) cx (c_X3_redoOnDisk l D c ad n (kfl (kfl (ku (kClr (kFols (kCut u fl) T Wd fl) n) 6 0 0 0) 16 8 0) 17 8 0) fl Pg Nb (by simp only [kfl]; rw [if_neg (by simp), if_neg (by simp), ku_F (by decide), kClr_F (by omega), kFols_F (by decide)]; simp [kCut, kfl, ku]) hl4 (fun i h1 h2 h3 => by
      have e : ∀ b, (kfl (kfl (ku (kClr (kFols (kCut u fl) T Wd fl) n) 6 0 0 0) 16 8 0) 17 8 0) 9 i b = u 9 i b := fun b => by simp only [kfl]; rw [if_neg (by simp), if_neg (by simp), ku_F (by decide), kClr_F (by omega), kFols_F (by decide), kCut_F (by decide)]
      rw [e, e] at *
      exact hP i h1 h2 h3)) 0 rfl rfl kcd_X3_redoOnDisk km_X3_136 kin_X3 kim_X3_redoOnDisk ksl_X3_redoOnDisk (by decide +kernel) rfl (by decide) (by decide) rfl (Nat.le_of_ble_eq_true rfl) dX3_crash_20 (fun _ => kw_adr _ _) (fun v9 u9 h9 => ?_)
  obtain ⟨rfl, h9⟩ := h9
  subst u9
  refine kg_aload_n cx dX3_crash_23 rfl ?_
  refine kg_aload_n cx dX3_crash_24 rfl ?_
  refine kg_callV (ci := 3) (na := 0) cx (c_X3_undoOnDisk l D c ad n (kCr u n fl T Wd Pg Nb) fl T Pg Nb kCr_14 hl4 (fun i h1 h2 => by rw [kCr_9]; exact hT i h1 h2) (fun i h1 h2 h3 => by
      rw [kCr_9, kCr_9] at *
      exact hP i h1 h2 h3) hOk1) 0 rfl rfl kcd_X3_undoOnDisk km_X3_139 kin_X3 kim_X3_undoOnDisk ksl_X3_undoOnDisk (by decide +kernel) rfl (by decide) (by decide) rfl (Nat.le_of_ble_eq_true rfl) dX3_crash_25 (fun _ => kw_adr _ _) (fun v9 u9 h9 => ?_)
  obtain ⟨rfl, h9⟩ := h9
  subst u9
  refine kg_put (ci := 3) (ty := .int) cx 0 5 kfs_X3 tyX3 tyX3_ok nmX3 rfl (by decide) rfl (Nat.le_of_ble_eq_true rfl) kf_X3_142 rfl (by decide +kernel) rfl rfl (ks_undoneByCrash _) dX3_crash_28 ?_
  refine kg_aload_n cx dX3_crash_31 rfl ?_
  refine kg_callV (ci := 3) (na := 0) cx (c_X3_endUnended l D c ad n (kCr2 u n fl T Wd Pg Nb) (kUnd T Pg Nb fl (kCr u n fl T Wd Pg Nb) fl 0).2.1 ((ku_F (by decide)).trans (kUnd_14 _ _ _ _ kCr_14)) hOk2) 0 rfl rfl kcd_X3_endUnended km_X3_145 kin_X3 kim_X3_endUnended ksl_X3_endUnended (by decide +kernel) rfl (by decide) (by decide) rfl (Nat.le_of_ble_eq_true rfl) dX3_crash_32 (fun _ => kw_adr _ _) (fun v9 u9 h9 => ?_)
  obtain ⟨rfl, h9⟩ := h9
  subst u9
  refine kg_aload_n cx dX3_crash_35 rfl ?_
  refine kg_get (ci := 3) cx 0 1 kfs_X3 rfl (by decide) rfl rfl kf_X3_30 dX3_crash_36 ?_
  refine kg_aload_n cx dX3_crash_39 rfl ?_
  refine kg_get (ci := 3) cx 0 1 kfs_X3 rfl (by decide) rfl rfl kf_X3_30 dX3_crash_40 ?_
  refine kg_getN (ci := 1) cx 2 5 kfs_X1 rfl (by decide) rfl rfl (kfn_X3_100 cx.2.2.2.2.2.2.2.2) dX3_crash_43 ?_
  refine kg_callVN (ci := 1) (na := 1) cx (c_X1_flushTo l D c ad n _ _) 2 rfl rfl kcd_X1_flushTo (kmn_X3_94 cx.2.2.2.2.2.2.2.2) kin_X1 kim_X1_flushTo ksl_X1_flushTo (by decide +kernel) rfl (by decide) (by decide) rfl (Nat.le_of_ble_eq_true rfl) dX3_crash_46 (fun _ => kw_adr _ _) (fun v9 u9 h9 => ?_)
  obtain ⟨rfl, h9⟩ := h9
  subst u9
  refine kg_aload_n cx dX3_crash_49 rfl ?_
  refine kg_dup cx dX3_crash_50 rfl ?_
  refine kg_get (ci := 3) cx 0 4 kfs_X3 rfl (by decide) rfl rfl kf_X3_148 dX3_crash_51 ?_
  refine kg_iconst (v := 1) cx dX3_crash_54 (by decide) ?_
  refine kg_iadd cx dX3_crash_55 ?_
  refine kg_put (ci := 3) (ty := .int) cx 0 4 kfs_X3 tyX3 tyX3_ok nmX3 rfl (by decide) rfl (Nat.le_of_ble_eq_true rfl) kf_X3_148 rfl (by decide +kernel) rfl rfl (ks_crashes _) dX3_crash_56 ?_
  refine kg_iload_n cx dX3_crash_59 rfl ?_
  exact kg_ireturn cx hr (rfl) _ rfl (⟨rfl, rfl⟩) dX3_crash_60
