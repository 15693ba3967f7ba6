/-- a contract over ClockPool's cells, of a method that may throw -/
abbrev kX (l : Launch) (D : va_G) (c : Nat → ClassId) (ad : Nat → Nat → Nat) (n : Nat) (y : MethodName) (cd : Cond) (fr lc mc ms : Nat) (u : kS) (av : List Value) (post : Option Value → kS → Prop) (pe : String → Prop) : Prop := kx l y cd fr lc mc ms D (kty c) (kw ad c n u) av (kw ad c n) post pe
abbrev sA : String := "java/lang/IllegalArgumentException"
abbrev sS : String := "java/lang/IllegalStateException"
/-- x is one of 0 .. B - 1 -/
def kIn (x : Int32) (B : Nat) : Prop := ∃ j, j < B ∧ x = nI j
theorem kIn_of {x : Int32} {B : Nat} (hB : B < 2 ^ 31) (h1 : ¬ x < 0) (h2 : x < nI B) : kIn x B := by
  rcases pk_ix x hB with h | h | h
  · exact absurd h h1
  · exact absurd h2 (Int32.not_lt.mpr h)
  · exact h
theorem kIn_lo {x : Int32} {B : Nat} (hB : B < 2 ^ 31) (h1 : x < 0) : ¬ kIn x B := by
  rintro ⟨j, hj, rfl⟩
  exact nI_pos (by omega) h1
theorem kIn_hi {x : Int32} {B : Nat} (hB : B < 2 ^ 31) (h1 : ¬ x < nI B) : ¬ kIn x B := by
  rintro ⟨j, hj, rfl⟩
  exact h1 (nI_lt hj hB)
/-- the page pg is in the frame f, and has pins -/
def kPin (u : kS) (n : Nat) (pg : Int32) (f : Nat) : Prop := f < n ∧ u 1 f 0 = pg ∧ (∀ j, j < f → u 1 j 0 ≠ pg) ∧ u 2 f 0 ≠ 0
set_option maxHeartbeats 4000000 in
set_option maxRecDepth 100000 in
/-- checkBelow -/
theorem c_X3_checkBelow (l : Launch) (hl : l.stackTraces = false) (D : va_G) (c : Nat → ClassId) (ad : Nat → Nat → Nat) (n : Nat) (u : kS) (x : Int32) (B : Nat) (hB : B < 2 ^ 31) : kX l D c ad n yX3_checkBelow (Cond.code yX3_checkBelow cX3_checkBelow 2 none) 6 82 1 6 u [.int x, .int (nI B)] (fun v u9 => (v = none ∧ kIn x B) ∧ u9 = u) (fun E => E = sA ∧ ¬ kIn x B) := by
  refine kx.mk (by decide) (by simp [Value.category]) (Nat.le_of_ble_eq_true rfl) ?_
  intro p e s m args below meth c9 cx hr hZ hno9
  refine kg_iload_n cx dX3_checkBelow_0 rfl ?_
  refine kg_if_lt cx 9 dX3_checkBelow_1 (by decide) (fun h1 => ?_) (fun h1 => ?_)
  · exact kx_throw cx hZ hno9 hl kx_fA kx_f kcl_X3_112 kin_IllegalArgumentException kx_gA kx_bA kx_oA dX3_checkBelow_9 dX3_checkBelow_12 dX3_checkBelow_13 dX3_checkBelow_16 ⟨Nat.le_of_ble_eq_true rfl, Nat.le_of_ble_eq_true rfl⟩ (by decide) (by decide) (⟨rfl, kIn_lo hB h1⟩)
  · refine kg_iload_n cx dX3_checkBelow_4 rfl ?_
    refine kg_iload_n cx dX3_checkBelow_5 rfl ?_
    refine kg_icmp_lt cx 17 dX3_checkBelow_6 (by decide) (fun h2 => ?_) (fun h2 => ?_)
    · exact kx_return cx hr _ rfl (⟨⟨rfl, kIn_of hB h1 h2⟩, rfl⟩) dX3_checkBelow_17 (by decide)
    · exact kx_throw cx hZ hno9 hl kx_fA kx_f kcl_X3_112 kin_IllegalArgumentException kx_gA kx_bA kx_oA dX3_checkBelow_9 dX3_checkBelow_12 dX3_checkBelow_13 dX3_checkBelow_16 ⟨Nat.le_of_ble_eq_true rfl, Nat.le_of_ble_eq_true rfl⟩ (by decide) (by decide) (⟨rfl, kIn_hi hB h2⟩)
set_option maxHeartbeats 4000000 in
set_option maxRecDepth 100000 in
theorem c_X3_checkActive (l : Launch) (hl : l.stackTraces = false) (D : va_G) (c : Nat → ClassId) (ad : Nat → Nat → Nat) (n : Nat) (u : kS) (t : Nat) (ht : t < 8) : kX l D c ad n yX3_checkActive (Cond.code yX3_checkActive cX3_checkActive 2 none) 6 82 1 6 u [.ref (ad 0 0), .int (nI t)] (fun v u9 => (v = none ∧ u 16 t 0 ≠ 0) ∧ u9 = u) (fun E => E = sS ∧ u 16 t 0 = 0) := by
  refine kx.mk (by decide) (by simp [Value.category]) (Nat.le_of_ble_eq_true rfl) ?_
  intro p e s m args below meth c9 cx hr hZ hno9
  refine kg_aload_n cx dX3_checkActive_0 rfl ?_
  refine kg_get (ci := 3) cx 0 2 kfs_X3 rfl (by decide) rfl rfl kf_X3_34 dX3_checkActive_1 ?_
  refine kg_iload_n cx dX3_checkActive_4 rfl ?_
  refine kg_zaldN cx 5 1 t rfl rfl (rfl) (ht) (by decide) (rfl) dX3_checkActive_5 ?_
  refine kg_if_ne cx 17 dX3_checkActive_6 (by decide) (fun h1 => ?_) (fun h1 => ?_)
  · exact kx_return cx hr _ rfl (⟨⟨rfl, h1⟩, rfl⟩) dX3_checkActive_17 (by decide)
  · exact kx_throw cx hZ hno9 hl kx_fS kx_f kcl_X3_170 kin_IllegalStateException kx_gS kx_bS kx_oS dX3_checkActive_9 dX3_checkActive_12 dX3_checkActive_13 dX3_checkActive_16 ⟨Nat.le_of_ble_eq_true rfl, Nat.le_of_ble_eq_true rfl⟩ (by decide) (by decide) (⟨rfl, h1⟩)
set_option maxHeartbeats 4000000 in
set_option maxRecDepth 100000 in
theorem c_X3_checkGoesOn (l : Launch) (hl : l.stackTraces = false) (D : va_G) (c : Nat → ClassId) (ad : Nat → Nat → Nat) (n : Nat) (u : kS) (t : Nat) (ht : t < 8) : kX l D c ad n yX3_checkGoesOn (Cond.code yX3_checkGoesOn cX3_checkGoesOn 2 none) 7 103 2 12 u [.ref (ad 0 0), .int (nI t)] (fun v u9 => (v = none ∧ u 16 t 0 ≠ 0 ∧ u 17 t 0 = 0) ∧ u9 = u) (fun E => E = sS ∧ ¬ (u 16 t 0 ≠ 0 ∧ u 17 t 0 = 0)) := by
  refine kx.mk (by decide) (by simp [Value.category]) (Nat.le_of_ble_eq_true rfl) ?_
  intro p e s m args below meth c9 cx hr hZ hno9
  refine kg_aload_n cx dX3_checkGoesOn_0 rfl ?_
  refine kg_iload_n cx dX3_checkGoesOn_1 rfl ?_
  refine kx_callV (ci := 3) (na := 1) cx hZ hno9 (c_X3_checkActive l hl D c ad n u t ht) 0 rfl rfl kcd_X3_checkActive km_X3_97 kin_X3 kim_X3_checkActive ksl_X3_checkActive (by decide +kernel) rfl (by decide) (by decide) (by decide) rfl (Nat.le_of_ble_eq_true rfl) dX3_checkGoesOn_2 (fun _ => kw_adr _ _) (fun E h => ⟨h.1, fun q => q.1 h.2⟩) (fun v9 u9 h9 => ?_)
  obtain ⟨⟨rfl, ha⟩, h9⟩ := h9
  subst u9
  refine kg_aload_n cx dX3_checkGoesOn_5 rfl ?_
  refine kg_get (ci := 3) cx 0 3 kfs_X3 rfl (by decide) rfl rfl kf_X3_38 dX3_checkGoesOn_6 ?_
  refine kg_iload_n cx dX3_checkGoesOn_9 rfl ?_
  refine kg_zaldN cx 6 1 t rfl rfl (rfl) (ht) (by decide) (rfl) dX3_checkGoesOn_10 ?_
  refine kg_if_eq cx 22 dX3_checkGoesOn_11 (by decide) (fun h1 => ?_) (fun h1 => ?_)
  · exact kx_return cx hr _ rfl (⟨⟨rfl, ha, h1⟩, rfl⟩) dX3_checkGoesOn_22 (by decide)
  · exact kx_throw cx hZ hno9 hl kx_fS kx_f kcl_X3_170 kin_IllegalStateException kx_gS kx_bS kx_oS dX3_checkGoesOn_14 dX3_checkGoesOn_17 dX3_checkGoesOn_18 dX3_checkGoesOn_21 ⟨Nat.le_of_ble_eq_true rfl, Nat.le_of_ble_eq_true rfl⟩ (by decide) (by decide) (⟨rfl, fun q => h1 q.2⟩)
set_option maxHeartbeats 4000000 in
set_option maxRecDepth 100000 in
theorem c_X3_pinnedFrame (l : Launch) (hl : l.stackTraces = false) (D : va_G) (c : Nat → ClassId) (ad : Nat → Nat → Nat) (n : Nat) (hn : n ≤ 8) (u : kS) (pg : Int32) : kX l D c ad n yX3_pinnedFrame (Cond.code yX3_pinnedFrame cX3_pinnedFrame 3 (some (.object "ClockPool$Frame"))) 6 82 1 6 u [.ref (ad 0 0), .int pg] (fun v u9 => (∃ f, kPin u n pg f ∧ v = some (.ref (ad 13 f))) ∧ u9 = u) (fun E => E = sS ∧ ¬ ∃ f, kPin u n pg f) := by
  refine kx.mk (by decide) (by simp [Value.category]) (Nat.le_of_ble_eq_true rfl) ?_
  intro p e s m args below meth c9 cx hr hZ hno9
  refine kg_aload_n cx dX3_pinnedFrame_0 rfl ?_
  refine kg_get (ci := 3) cx 0 0 kfs_X3 rfl (by decide) rfl rfl kf_X3_23 dX3_pinnedFrame_1 ?_
  refine kg_iload_n cx dX3_pinnedFrame_4 rfl ?_
  refine kg_callVN (ci := 2) (na := 1) cx (c_X2_find l D c ad n hn u pg) 1 rfl rfl kcd_X2_find (kmn_X3_115 cx.2.2.2.2.2.2.2.2) kin_X2 kim_X2_find ksl_X2_find (by decide +kernel) rfl (by decide) (by decide) rfl (Nat.le_of_ble_eq_true rfl) dX3_pinnedFrame_5 (fun _ => kw_adr _ _) (fun v9 u9 h9 => ?_)
  obtain ⟨⟨r9, rfl, hr9⟩, h9⟩ := h9
  subst u9
  rcases hr9 with ⟨f, hf, rfl, hpf, hlf⟩ | ⟨rfl, hno⟩
  · refine kg_istore_n cx dX3_pinnedFrame_8 (by decide) ?_
    refine kg_iload_n cx dX3_pinnedFrame_9 rfl ?_
    refine kg_if_lt cx 28 dX3_pinnedFrame_10 (by decide) (fun h1 => ?_) (fun h1 => ?_)
    · exact absurd h1 (nI_pos (by omega))
    · refine kg_aload_n cx dX3_pinnedFrame_13 rfl ?_
      refine kg_get (ci := 3) cx 0 0 kfs_X3 rfl (by decide) rfl rfl kf_X3_23 dX3_pinnedFrame_14 ?_
      refine kg_getN (ci := 2) cx 1 1 kfs_X2 rfl (by decide) rfl rfl (kfn_X3_52 cx.2.2.2.2.2.2.2.2) dX3_pinnedFrame_17 ?_
      refine kg_iload_n cx dX3_pinnedFrame_20 rfl ?_
      refine kg_aaldN cx 4 2 f rfl rfl (rfl) (hf) (by omega) (k_if hf _) dX3_pinnedFrame_21 ?_
      refine kg_getN (ci := 0) cx (44 + f) 2 kfs_X0 rfl (by decide) (kw_at_o hf) rfl (kfn_X3_56 cx.2.2.2.2.2.2.2.2) dX3_pinnedFrame_22 ?_
      refine kg_if_ne cx 36 dX3_pinnedFrame_25 (by decide) (fun h2 => ?_) (fun h2 => ?_)
      · refine kg_aload_n cx dX3_pinnedFrame_36 rfl ?_
        refine kg_get (ci := 3) cx 0 0 kfs_X3 rfl (by decide) rfl rfl kf_X3_23 dX3_pinnedFrame_37 ?_
        refine kg_getN (ci := 2) cx 1 1 kfs_X2 rfl (by decide) rfl rfl (kfn_X3_52 cx.2.2.2.2.2.2.2.2) dX3_pinnedFrame_40 ?_
        refine kg_iload_n cx dX3_pinnedFrame_43 rfl ?_
        refine kg_aaldN cx 4 2 f rfl rfl (rfl) (hf) (by omega) (k_if hf _) dX3_pinnedFrame_44 ?_
        exact kx_areturn cx hr _ rfl (⟨⟨f, ⟨hf, hpf, hlf, h2⟩, rfl⟩, rfl⟩) dX3_pinnedFrame_45 (by decide)
      · exact kx_throw cx hZ hno9 hl kx_fS kx_f kcl_X3_170 kin_IllegalStateException kx_gS kx_bS kx_oS dX3_pinnedFrame_28 dX3_pinnedFrame_31 dX3_pinnedFrame_32 dX3_pinnedFrame_35 ⟨Nat.le_of_ble_eq_true rfl, Nat.le_of_ble_eq_true rfl⟩ (by decide) (by decide) (⟨rfl, fun ⟨g, g1, g2, g3, g4⟩ => by
            have e : g = f := by
              rcases Nat.lt_trichotomy g f with q | q | q
              · exact absurd g2 (hlf g q)
              · exact q
              · exact absurd hpf (g3 f q)
            subst e
            exact g4 h2⟩)
  · refine kg_istore_n cx dX3_pinnedFrame_8 (by decide) ?_
    refine kg_iload_n cx dX3_pinnedFrame_9 rfl ?_
    refine kg_if_lt cx 28 dX3_pinnedFrame_10 (by decide) (fun h1 => ?_) (fun h1 => ?_)
    · exact kx_throw cx hZ hno9 hl kx_fS kx_f kcl_X3_170 kin_IllegalStateException kx_gS kx_bS kx_oS dX3_pinnedFrame_28 dX3_pinnedFrame_31 dX3_pinnedFrame_32 dX3_pinnedFrame_35 ⟨Nat.le_of_ble_eq_true rfl, Nat.le_of_ble_eq_true rfl⟩ (by decide) (by decide) (⟨rfl, fun ⟨g, g1, g2, g3, g4⟩ => hno g g1 g2⟩)
    · exact absurd (by decide) h1
set_option maxHeartbeats 4000000 in
set_option maxRecDepth 100000 in
theorem c_X3_release (l : Launch) (hl : l.stackTraces = false) (D : va_G) (c : Nat → ClassId) (ad : Nat → Nat → Nat) (n : Nat) (hn : n ≤ 8) (u : kS) (x : Int32) : kX l D c ad n yX3_release (Cond.code yX3_release cX3_release 3 (some .int)) 7 104 2 12 u [.ref (ad 0 0), .int x] (fun v u9 => ∃ f, kIn x 32 ∧ kPin u n x f ∧ v = some (.int (u 2 f 0 - 1)) ∧ u9 = ku u 2 f 0 (u 2 f 0 - 1)) (fun E => (E = sA ∧ ¬ kIn x 32) ∨ (E = sS ∧ kIn x 32 ∧ ¬ ∃ f, kPin u n x f)) := by
  refine kx.mk (by decide) (by simp [Value.category]) (Nat.le_of_ble_eq_true rfl) ?_
  intro p e s m args below meth c9 cx hr hZ hno9
  refine kg_iload_n cx dX3_release_0 rfl ?_
  refine kg_bipush (v := (nI 32)) cx dX3_release_1 (by decide) ?_
  refine kx_callS (na := 2) cx hZ hno9 (c_X3_checkBelow l hl D c ad n u x 32 (by decide)) kcd_X3_checkBelow km_X3_41 kin_X3 kst_X3_checkBelow (by decide +kernel) rfl (by decide) (by decide) (by decide) rfl (Nat.le_of_ble_eq_true rfl) dX3_release_3 (fun _ => kw_adr _ _) (fun E h => Or.inl h) (fun v9 u9 h9 => ?_)
  obtain ⟨⟨rfl, hi⟩, h9⟩ := h9
  subst u9
  refine kg_aload_n cx dX3_release_6 rfl ?_
  refine kg_iload_n cx dX3_release_7 rfl ?_
  refine kx_callV (ci := 3) (na := 1) cx hZ hno9 (c_X3_pinnedFrame l hl D c ad n hn u x) 0 rfl rfl kcd_X3_pinnedFrame km_X3_61 kin_X3 kim_X3_pinnedFrame ksl_X3_pinnedFrame (by decide +kernel) rfl (by decide) (by decide) (by decide) rfl (Nat.le_of_ble_eq_true rfl) dX3_release_8 (fun _ => kw_adr _ _) (fun E h => Or.inr ⟨h.1, hi, h.2⟩) (fun v9 u9 h9 => ?_)
  obtain ⟨⟨f, hf, rfl⟩, h9⟩ := h9
  subst u9
  refine kg_astore_n cx dX3_release_11 (by decide) ?_
  refine kg_aload_n cx dX3_release_12 rfl ?_
  refine kg_dup cx dX3_release_13 rfl ?_
  refine kg_getN (ci := 0) cx (44 + f) 2 kfs_X0 rfl (by decide) (kw_at_o hf.1) rfl (kfn_X3_56 cx.2.2.2.2.2.2.2.2) dX3_release_14 ?_
  refine kg_iconst (v := 1) cx dX3_release_17 (by decide) ?_
  refine kg_isub cx dX3_release_18 ?_
  refine kg_putN (ci := 0) (ty := .int) cx (44 + f) 2 kfs_X0 tyX0 tyX0_ok nmX0 rfl (by decide) (kw_at_o hf.1) (Nat.le_of_ble_eq_true rfl) (kfn_X3_56 cx.2.2.2.2.2.2.2.2) rfl (by decide +kernel) rfl rfl (ks_pins hf.1 _) dX3_release_19 ?_
  refine kg_aload_n cx dX3_release_22 rfl ?_
  refine kg_getN (ci := 0) cx (44 + f) 2 kfs_X0 rfl (by decide) (kw_at_o hf.1) rfl (kfn_X3_56 cx.2.2.2.2.2.2.2.2) dX3_release_23 ?_
  refine kg_top (u 2 f 0 - 1) (ku_s _ _ _ _ _) ?_
  exact kx_ireturn cx hr (rfl) _ rfl (⟨f, hi, hf, rfl, rfl⟩) dX3_release_26 (by decide)
set_option maxHeartbeats 4000000 in
set_option maxRecDepth 100000 in
theorem c_X3_get (l : Launch) (hl : l.stackTraces = false) (D : va_G) (c : Nat → ClassId) (ad : Nat → Nat → Nat) (n : Nat) (hn : n ≤ 8) (u : kS) (x y : Int32) : kX l D c ad n yX3_get (Cond.code yX3_get cX3_get 3 (some .int)) 7 104 3 18 u [.ref (ad 0 0), .int x, .int y] (fun v u9 => (∃ f k, kIn x 32 ∧ kPin u n x f ∧ k < 8 ∧ y = nI k ∧ v = some (.int (u 5 f k))) ∧ u9 = u) (fun E => (E = sA ∧ ¬ (kIn x 32 ∧ kIn y 8)) ∨ (E = sS ∧ kIn x 32 ∧ kIn y 8 ∧ ¬ ∃ f, kPin u n x f)) := by
  refine kx.mk (by decide) (by simp [Value.category]) (Nat.le_of_ble_eq_true rfl) ?_
  intro p e s m args below meth c9 cx hr hZ hno9
  refine kg_iload_n cx dX3_get_0 rfl ?_
  refine kg_bipush (v := (nI 32)) cx dX3_get_1 (by decide) ?_
  refine kx_callS (na := 2) cx hZ hno9 (c_X3_checkBelow l hl D c ad n u x 32 (by decide)) kcd_X3_checkBelow km_X3_41 kin_X3 kst_X3_checkBelow (by decide +kernel) rfl (by decide) (by decide) (by decide) rfl (Nat.le_of_ble_eq_true rfl) dX3_get_3 (fun _ => kw_adr _ _) (fun E h => Or.inl ⟨h.1, fun q => h.2 q.1⟩) (fun v9 u9 h9 => ?_)
  obtain ⟨⟨rfl, hi⟩, h9⟩ := h9
  subst u9
  refine kg_iload_n cx dX3_get_6 rfl ?_
  refine kg_bipush (v := (nI 8)) cx dX3_get_7 (by decide) ?_
  refine kx_callS (na := 2) cx hZ hno9 (c_X3_checkBelow l hl D c ad n u y 8 (by decide)) kcd_X3_checkBelow km_X3_41 kin_X3 kst_X3_checkBelow (by decide +kernel) rfl (by decide) (by decide) (by decide) rfl (Nat.le_of_ble_eq_true rfl) dX3_get_9 (fun _ => kw_adr _ _) (fun E h => Or.inl ⟨h.1, fun q => h.2 q.2⟩) (fun v9 u9 h9 => ?_)
  obtain ⟨⟨rfl, hj⟩, h9⟩ := h9
  subst u9
  refine kg_aload_n cx dX3_get_12 rfl ?_
  refine kg_iload_n cx dX3_get_13 rfl ?_
  refine kx_callV (ci := 3) (na := 1) cx hZ hno9 (c_X3_pinnedFrame l hl D c ad n hn u x) 0 rfl rfl kcd_X3_pinnedFrame km_X3_61 kin_X3 kim_X3_pinnedFrame ksl_X3_pinnedFrame (by decide +kernel) rfl (by decide) (by decide) (by decide) rfl (Nat.le_of_ble_eq_true rfl) dX3_get_14 (fun _ => kw_adr _ _) (fun E h => Or.inr ⟨h.1, hi, hj, h.2⟩) (fun v9 u9 h9 => ?_)
  obtain ⟨⟨f, hf, rfl⟩, h9⟩ := h9
  subst u9
  have hj2 := hj
  obtain ⟨k, hk⟩ := hj2
  refine kg_getN (ci := 0) cx (44 + f) 0 kfs_X0 rfl (by decide) (kw_at_o hf.1) rfl (kfn_X3_65 cx.2.2.2.2.2.2.2.2) dX3_get_17 ?_
  refine kg_iload_n cx dX3_get_20 rfl ?_
  refine kg_ialdN cx (44 + n + f) 0 k rfl (kw_at_r hf.1) (hk.2) (Nat.lt_succ_of_lt hk.1) (by decide) (rfl) dX3_get_21 ?_
  exact kx_ireturn cx hr (rfl) _ rfl (⟨⟨f, k, hi, hf, hk.1, hk.2, rfl⟩, rfl⟩) dX3_get_22 (by decide)
set_option maxHeartbeats 4000000 in
set_option maxRecDepth 100000 in
theorem c_X3_disk (l : Launch) (hl : l.stackTraces = false) (D : va_G) (c : Nat → ClassId) (ad : Nat → Nat → Nat) (n : Nat) (u : kS) (x y : Int32) : kX l D c ad n yX3_disk (Cond.code yX3_disk cX3_disk 3 (some .int)) 7 103 2 12 u [.ref (ad 0 0), .int x, .int y] (fun v u9 => (∃ q k, q < 32 ∧ x = nI q ∧ k < 9 ∧ y = nI k ∧ v = some (.int (u 0 q k))) ∧ u9 = u) (fun E => E = sA ∧ ¬ (kIn x 32 ∧ kIn y 9)) := by
  refine kx.mk (by decide) (by simp [Value.category]) (Nat.le_of_ble_eq_true rfl) ?_
  intro p e s m args below meth c9 cx hr hZ hno9
  refine kg_iload_n cx dX3_disk_0 rfl ?_
  refine kg_bipush (v := (nI 32)) cx dX3_disk_1 (by decide) ?_
  refine kx_callS (na := 2) cx hZ hno9 (c_X3_checkBelow l hl D c ad n u x 32 (by decide)) kcd_X3_checkBelow km_X3_41 kin_X3 kst_X3_checkBelow (by decide +kernel) rfl (by decide) (by decide) (by decide) rfl (Nat.le_of_ble_eq_true rfl) dX3_disk_3 (fun _ => kw_adr _ _) (fun E h => ⟨h.1, fun q => h.2 q.1⟩) (fun v9 u9 h9 => ?_)
  obtain ⟨⟨rfl, hi⟩, h9⟩ := h9
  subst u9
  refine kg_iload_n cx dX3_disk_6 rfl ?_
  refine kg_bipush (v := (nI 9)) cx dX3_disk_7 (by decide) ?_
  refine kx_callS (na := 2) cx hZ hno9 (c_X3_checkBelow l hl D c ad n u y 9 (by decide)) kcd_X3_checkBelow km_X3_41 kin_X3 kst_X3_checkBelow (by decide +kernel) rfl (by decide) (by decide) (by decide) rfl (Nat.le_of_ble_eq_true rfl) dX3_disk_9 (fun _ => kw_adr _ _) (fun E h => ⟨h.1, fun q => h.2 q.2⟩) (fun v9 u9 h9 => ?_)
  obtain ⟨⟨rfl, hj⟩, h9⟩ := h9
  subst u9
  obtain ⟨q, hq⟩ := hi
  obtain ⟨k, hk⟩ := hj
  refine kg_aload_n cx dX3_disk_12 rfl ?_
  refine kg_get (ci := 3) cx 0 0 kfs_X3 rfl (by decide) rfl rfl kf_X3_23 dX3_disk_13 ?_
  refine kg_getN (ci := 2) cx 1 0 kfs_X2 rfl (by decide) rfl rfl (kfn_X3_151 cx.2.2.2.2.2.2.2.2) dX3_disk_16 ?_
  refine kg_iload_n cx dX3_disk_19 rfl ?_
  refine kg_aaldAN cx 3 3 q rfl rfl (hq.2) (hq.1) (by decide) (k_if hq.1 _) dX3_disk_20 ?_
  refine kg_iload_n cx dX3_disk_21 rfl ?_
  refine kg_ialdN cx (12 + q) 0 k rfl (kw_at_d hq.1) (hk.2) (hk.1) (by decide) (rfl) dX3_disk_22 ?_
  exact kx_ireturn cx hr (rfl) _ rfl (⟨⟨q, k, hq.1, hq.2, hk.1, hk.2, rfl⟩, rfl⟩) dX3_disk_23 (by decide)
set_option maxHeartbeats 4000000 in
set_option maxRecDepth 100000 in
theorem c_X3_flush (l : Launch) (hl : l.stackTraces = false) (D : va_G) (c : Nat → ClassId) (ad : Nat → Nat → Nat) (n : Nat) (u : kS) (x : Int32) : kX l D c ad n yX3_flush (Cond.code yX3_flush cX3_flush 2 (some .int)) 6 82 1 6 u [.ref (ad 0 0), .int x] (fun v u9 => (¬ x < 0 ∧ v = some (.int (kFlu u x 15 0 0))) ∧ u9 = kFlu u x) (fun E => E = sA ∧ x < 0) := by
  refine kx.mk (by decide) (by simp [Value.category]) (Nat.le_of_ble_eq_true rfl) ?_
  intro p e s m args below meth c9 cx hr hZ hno9
  refine kg_iload_n cx dX3_flush_0 rfl ?_
  refine kg_if_ge cx 12 dX3_flush_1 (by decide) (fun h1 => ?_) (fun h1 => ?_)
  · refine kg_aload_n cx dX3_flush_12 rfl ?_
    refine kg_get (ci := 3) cx 0 1 kfs_X3 rfl (by decide) rfl rfl kf_X3_30 dX3_flush_13 ?_
    refine kg_iload_n cx dX3_flush_16 rfl ?_
    refine kg_callVN (ci := 1) (na := 1) cx (c_X1_flushTo l D c ad n u x) 2 rfl rfl kcd_X1_flushTo (kmn_X3_94 cx.2.2.2.2.2.2.2.2) kin_X1 kim_X1_flushTo ksl_X1_flushTo (by decide +kernel) rfl (by decide) (by decide) rfl (Nat.le_of_ble_eq_true rfl) dX3_flush_17 (fun _ => kw_adr _ _) (fun v9 u9 h9 => ?_)
    obtain ⟨rfl, h9⟩ := h9
    subst u9
    refine kg_aload_n cx dX3_flush_20 rfl ?_
    refine kg_get (ci := 3) cx 0 1 kfs_X3 rfl (by decide) rfl rfl kf_X3_30 dX3_flush_21 ?_
    refine kg_getN (ci := 1) cx 2 6 kfs_X1 rfl (by decide) rfl rfl (kfn_X3_45 cx.2.2.2.2.2.2.2.2) dX3_flush_24 ?_
    exact kx_ireturn cx hr (rfl) _ rfl (⟨⟨Int32.not_lt.mpr h1, rfl⟩, rfl⟩) dX3_flush_27 (by decide)
  · exact kx_throw cx hZ hno9 hl kx_fA kx_f kcl_X3_112 kin_IllegalArgumentException kx_gA kx_bA kx_oA dX3_flush_4 dX3_flush_7 dX3_flush_8 dX3_flush_11 ⟨Nat.le_of_ble_eq_true rfl, Nat.le_of_ble_eq_true rfl⟩ (by decide) (by decide) (⟨rfl, Int32.not_le.mp h1⟩)
set_option maxHeartbeats 4000000 in
set_option maxRecDepth 100000 in
theorem c_X3_clean (l : Launch) (hl : l.stackTraces = false) (D : va_G) (c : Nat → ClassId) (ad : Nat → Nat → Nat) (n : Nat) (hn : n ≤ 8) (u : kS) (x : Int32) (hQ : ∀ f, f < n → u 3 f 0 ≠ 0 → u 1 f 0 = x → kIn x 32 → True) : kX l D c ad n yX3_clean (Cond.code yX3_clean cX3_clean 4 (some .boolean)) 7 103 1 6 u [.ref (ad 0 0), .int x] (fun v u9 => ∃ q, q < 32 ∧ x = nI q ∧ ((∃ f, f < n ∧ u 1 f 0 = x ∧ (∀ j, j < f → u 1 j 0 ≠ x) ∧ u 3 f 0 ≠ 0 ∧ u 5 f 8 ≤ u 15 0 0 ∧ v = some (.int 1) ∧ u9 = kBack u f q) ∨ ((∀ f, f < n → u 1 f 0 = x → (∀ j, j < f → u 1 j 0 ≠ x) → ¬ (u 3 f 0 ≠ 0 ∧ u 5 f 8 ≤ u 15 0 0)) ∧ v = some (.int 0) ∧ u9 = u))) (fun E => E = sA ∧ ¬ kIn x 32) := by
  refine kx.mk (by decide) (by simp [Value.category]) (Nat.le_of_ble_eq_true rfl) ?_
  intro p e s m args below meth c9 cx hr hZ hno9
  refine kg_iload_n cx dX3_clean_0 rfl ?_
  refine kg_bipush (v := (nI 32)) cx dX3_clean_1 (by decide) ?_
  refine kx_callS (na := 2) cx hZ hno9 (c_X3_checkBelow l hl D c ad n u x 32 (by decide)) kcd_X3_checkBelow km_X3_41 kin_X3 kst_X3_checkBelow (by decide +kernel) rfl (by decide) (by decide) (by decide) rfl (Nat.le_of_ble_eq_true rfl) dX3_clean_3 (fun _ => kw_adr _ _) (fun E h => h) (fun v9 u9 h9 => ?_)
  obtain ⟨⟨rfl, hi⟩, h9⟩ := h9
  subst u9
  refine kg_aload_n cx dX3_clean_6 rfl ?_
  refine kg_get (ci := 3) cx 0 0 kfs_X3 rfl (by decide) rfl rfl kf_X3_23 dX3_clean_7 ?_
  refine kg_iload_n cx dX3_clean_10 rfl ?_
  refine kg_callVN (ci := 2) (na := 1) cx (c_X2_find l D c ad n hn u x) 1 rfl rfl kcd_X2_find (kmn_X3_115 cx.2.2.2.2.2.2.2.2) kin_X2 kim_X2_find ksl_X2_find (by decide +kernel) rfl (by decide) (by decide) rfl (Nat.le_of_ble_eq_true rfl) dX3_clean_11 (fun _ => kw_adr _ _) (fun v9 u9 h9 => ?_)
  obtain ⟨⟨r9, rfl, hr9⟩, h9⟩ := h9
  subst u9
  obtain ⟨q, hq, hq2⟩ := hi
  rcases hr9 with ⟨f, hf, rfl, hpf, hlf⟩ | ⟨rfl, hno⟩
  · refine kg_istore_n cx dX3_clean_14 (by decide) ?_
    refine kg_iload_n cx dX3_clean_15 rfl ?_
    refine kg_if_ge cx 21 dX3_clean_16 (by decide) (fun h1 => ?_) (fun h1 => ?_)
    · refine kg_aload_n cx dX3_clean_21 rfl ?_
      refine kg_get (ci := 3) cx 0 0 kfs_X3 rfl (by decide) rfl rfl kf_X3_23 dX3_clean_22 ?_
      refine kg_getN (ci := 2) cx 1 1 kfs_X2 rfl (by decide) rfl rfl (kfn_X3_52 cx.2.2.2.2.2.2.2.2) dX3_clean_25 ?_
      refine kg_iload_n cx dX3_clean_28 rfl ?_
      refine kg_aaldN cx 4 2 f rfl rfl (rfl) (hf) (by omega) (k_if hf _) dX3_clean_29 ?_
      refine kg_astore_n cx dX3_clean_30 (by decide) ?_
      refine kg_aload_n cx dX3_clean_31 rfl ?_
      refine kg_getN (ci := 0) cx (44 + f) 3 kfs_X0 rfl (by decide) (kw_at_o hf) rfl (kfn_X3_119 cx.2.2.2.2.2.2.2.2) dX3_clean_32 ?_
      refine kg_if_eq cx 55 dX3_clean_35 (by decide) (fun h2 => ?_) (fun h2 => ?_)
      · refine kg_iconst (v := 0) cx dX3_clean_55 (by decide) ?_
        exact kx_ireturn cx hr (nar_0) _ rfl (⟨q, hq, hq2, Or.inr ⟨fun g g1 g2 g3 ⟨g4, g5⟩ => by
            have e : g = f := by
              rcases Nat.lt_trichotomy g f with q9 | q9 | q9
              · exact absurd g2 (hlf g q9)
              · exact q9
              · exact absurd hpf (g3 f q9)
            subst e
            exact g4 h2, rfl, rfl⟩⟩) dX3_clean_56 (by decide)
      · refine kg_aload_n cx dX3_clean_38 rfl ?_
        refine kg_getN (ci := 0) cx (44 + f) 0 kfs_X0 rfl (by decide) (kw_at_o hf) rfl (kfn_X3_65 cx.2.2.2.2.2.2.2.2) dX3_clean_39 ?_
        refine kg_bipush (v := (nI 8)) cx dX3_clean_42 (by decide) ?_
        refine kg_ialdN cx (44 + n + f) 0 8 rfl (kw_at_r hf) (rfl) (by decide) (by decide) (rfl) dX3_clean_44 ?_
        refine kg_aload_n cx dX3_clean_45 rfl ?_
        refine kg_get (ci := 3) cx 0 1 kfs_X3 rfl (by decide) rfl rfl kf_X3_30 dX3_clean_46 ?_
        refine kg_getN (ci := 1) cx 2 6 kfs_X1 rfl (by decide) rfl rfl (kfn_X3_45 cx.2.2.2.2.2.2.2.2) dX3_clean_49 ?_
        refine kg_icmp_le cx 57 dX3_clean_52 (by decide) (fun h3 => ?_) (fun h3 => ?_)
        · refine kg_aload_n cx dX3_clean_57 rfl ?_
          refine kg_get (ci := 3) cx 0 0 kfs_X3 rfl (by decide) rfl rfl kf_X3_23 dX3_clean_58 ?_
          refine kg_aload_n cx dX3_clean_61 rfl ?_
          refine kg_callVN (ci := 2) (na := 1) cx (c_X2_writeBack l D c ad n hn u f q hf hq (hpf.trans hq2)) 1 rfl rfl kcd_X2_writeBack (kmn_X3_123 cx.2.2.2.2.2.2.2.2) kin_X2 kim_X2_writeBack ksl_X2_writeBack (by decide +kernel) rfl (by decide) (by decide) rfl (Nat.le_of_ble_eq_true rfl) dX3_clean_62 (fun _ => kw_adr _ _) (fun v9 u9 h9 => ?_)
          obtain ⟨rfl, h9⟩ := h9
          subst u9
          refine kg_iconst (v := 1) cx dX3_clean_65 (by decide) ?_
          exact kx_ireturn cx hr (nar_1) _ rfl (⟨q, hq, hq2, Or.inl ⟨f, hf, hpf, hlf, h2, h3, rfl, rfl⟩⟩) dX3_clean_66 (by decide)
        · refine kg_iconst (v := 0) cx dX3_clean_55 (by decide) ?_
          exact kx_ireturn cx hr (nar_0) _ rfl (⟨q, hq, hq2, Or.inr ⟨fun g g1 g2 g3 ⟨g4, g5⟩ => by
              have e : g = f := by
                rcases Nat.lt_trichotomy g f with q9 | q9 | q9
                · exact absurd g2 (hlf g q9)
                · exact q9
                · exact absurd hpf (g3 f q9)
              subst e
              exact h3 g5, rfl, rfl⟩⟩) dX3_clean_56 (by decide)
    · exact absurd (nI_ge0 (by omega)) h1
  · refine kg_istore_n cx dX3_clean_14 (by decide) ?_
    refine kg_iload_n cx dX3_clean_15 rfl ?_
    refine kg_if_ge cx 21 dX3_clean_16 (by decide) (fun h1 => ?_) (fun h1 => ?_)
    · exact absurd h1 (by decide)
    · refine kg_iconst (v := 0) cx dX3_clean_19 (by decide) ?_
      exact kx_ireturn cx hr (nar_0) _ rfl (⟨q, hq, hq2, Or.inr ⟨fun g g1 g2 _ _ => hno g g1 g2, rfl, rfl⟩⟩) dX3_clean_20 (by decide)
