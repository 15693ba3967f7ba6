/-- room for a page: the least empty frame, or the one that the hand takes -/
def kRoom (u : kS) (n : Nat) (fl : Int32) (h : Nat) (r : Int32) (u9 : kS) : Prop := (∃ f, f < n ∧ u 1 f 0 = -1 ∧ (∀ j, j < f → u 1 j 0 ≠ -1) ∧ r = nI f ∧ u9 = u) ∨ ((∀ j, j < n → u 1 j 0 ≠ -1) ∧ r = kO (kTurn n fl (2 * n) u h).2 ∧ u9 = (kTurn n fl (2 * n) u h).1)
/-- the frame f is written to the page q -/
def kBack (u : kS) (f q : Nat) : kS := ku (ku (kcp u 0 q 5 f) 3 f 0 0) 7 0 0 (u 7 0 0 + 1)
/-- the page p comes into the frame f (that had the page q) -/
def kLoad (u : kS) (p f q : Nat) : kS := if u 3 f 0 = 0 then ku (ku (kcp u 5 f 0 p) 1 f 0 (nI p)) 8 0 0 (u 8 0 0 + 1) else ku (ku (kcp (kBack u f q) 5 f 0 p) 1 f 0 (nI p)) 8 0 0 ((kBack u f q) 8 0 0 + 1)
/-- a page p is brought: r the frame, or -1 -/
def kBring (u : kS) (n : Nat) (p : Nat) (fl : Int32) (h : Nat) (Q : Nat → Nat) (r : Int32) (u9 : kS) : Prop :=
  (∃ f, f < n ∧ u 1 f 0 = nI p ∧ (∀ j, j < f → u 1 j 0 ≠ nI p) ∧ r = nI f ∧ u9 = ku u 4 f 0 1) ∨
  (∃ f, f < n ∧ (∀ j, j < n → u 1 j 0 ≠ nI p) ∧ u 1 f 0 = -1 ∧ (∀ j, j < f → u 1 j 0 ≠ -1) ∧ r = nI f ∧ u9 = ku (kLoad u p f (Q f)) 4 f 0 1) ∨
  (∃ f, f < n ∧ (∀ j, j < n → u 1 j 0 ≠ nI p) ∧ (∀ j, j < n → u 1 j 0 ≠ -1) ∧ (kTurn n fl (2 * n) u h).2 = some f ∧ r = nI f ∧ u9 = ku (kLoad (kTurn n fl (2 * n) u h).1 p f (Q f)) 4 f 0 1) ∨
  ((∀ j, j < n → u 1 j 0 ≠ nI p) ∧ (∀ j, j < n → u 1 j 0 ≠ -1) ∧ (kTurn n fl (2 * n) u h).2 = none ∧ r = -1 ∧ u9 = (kTurn n fl (2 * n) u h).1)
set_option maxHeartbeats 4000000 in
set_option maxRecDepth 100000 in
/-- Pool.roomFor -/
theorem c_X2_roomFor (l : Launch) (D : va_G) (c : Nat → ClassId) (ad : Nat → Nat → Nat) (n : Nat) (hn : n ≤ 8) (u : kS) (fl : Int32) (h : Nat) (hh : h < n) (hH : u 6 0 0 = nI h) : kC l D c ad n yX2_roomFor (Cond.code yX2_roomFor cX2_roomFor 3 (some .int)) 2 44 u [.ref (ad 1 0), .int fl] (fun v u9 => ∃ r, v = some (.int r) ∧ kRoom u n fl h r u9) := by
  refine kC.mk (by decide) (by simp [Value.category]) (Nat.le_of_ble_eq_true rfl) ?_
  intro p e s m args below meth c9 cx hr
  refine kg_aload_n cx dX2_roomFor_0 rfl ?_
  refine kg_iconst (v := (-1)) cx dX2_roomFor_1 (by decide) ?_
  refine kg_callV (ci := 2) (na := 1) cx (c_X2_find l D c ad n hn u (-1)) 1 rfl rfl kcd_X2_find km_X2_27 kin_X2 kim_X2_find ksl_X2_find (by decide +kernel) rfl (by decide) (by decide) rfl (Nat.le_of_ble_eq_true rfl) dX2_roomFor_2 (fun _ => kw_adr _ _) (fun v9 u9 h9 => ?_)
  obtain ⟨⟨r9, rfl, hr9⟩, h9⟩ := h9
  subst u9
  rcases hr9 with ⟨f, hf, rfl, hpf, hlf⟩ | ⟨rfl, hno⟩
  · refine kg_istore_n cx dX2_roomFor_5 (by decide) ?_
    refine kg_iload_n cx dX2_roomFor_6 rfl ?_
    refine kg_if_lt cx 14 dX2_roomFor_7 (by decide) (fun h1 => ?_) (fun h1 => ?_)
    · exact absurd h1 (nI_pos (by omega))
    · refine kg_iload_n cx dX2_roomFor_10 rfl ?_
      refine kg_goto cx 19 dX2_roomFor_11 (by decide) ?_
      exact kg_ireturn cx hr (rfl) _ rfl (⟨_, rfl, Or.inl ⟨f, hf, hpf, hlf, rfl, rfl⟩⟩) dX2_roomFor_19
  · refine kg_istore_n cx dX2_roomFor_5 (by decide) ?_
    refine kg_iload_n cx dX2_roomFor_6 rfl ?_
    refine kg_if_lt cx 14 dX2_roomFor_7 (by decide) (fun h1 => ?_) (fun h1 => ?_)
    · refine kg_aload_n cx dX2_roomFor_14 rfl ?_
      refine kg_iload_n cx dX2_roomFor_15 rfl ?_
      refine kg_callV (ci := 2) (na := 1) cx (c_X2_turnHand l D c ad n hn u fl h hh hH) 1 rfl rfl kcd_X2_turnHand km_X2_42 kin_X2 kim_X2_turnHand ksl_X2_turnHand (by decide +kernel) rfl (by decide) (by decide) rfl (Nat.le_of_ble_eq_true rfl) dX2_roomFor_16 (fun _ => kw_adr _ _) (fun v9 u9 h9 => ?_)
      obtain ⟨rfl, h9⟩ := h9
      subst u9
      exact kg_ireturn cx hr (rfl) _ rfl (⟨_, rfl, Or.inr ⟨hno, rfl, rfl⟩⟩) dX2_roomFor_19
    · exact absurd (by decide) h1
set_option maxHeartbeats 4000000 in
set_option maxRecDepth 100000 in
/-- Pool.writeBack -/
theorem c_X2_writeBack (l : Launch) (D : va_G) (c : Nat → ClassId) (ad : Nat → Nat → Nat) (n : Nat) (hn : n ≤ 8) (u : kS) (f q : Nat) (hf : f < n) (hq : q < 32) (hQ : u 1 f 0 = nI q) : kC l D c ad n yX2_writeBack (Cond.code yX2_writeBack cX2_writeBack 2 none) 1 60 u [.ref (ad 1 0), .ref (ad 13 f)] (fun v u9 => v = none ∧ u9 = kBack u f q) := by
  refine kC.mk (by decide) (by simp [Value.category]) (Nat.le_of_ble_eq_true rfl) ?_
  intro p e s m args below meth c9 cx hr
  refine kg_aload_n cx dX2_writeBack_0 rfl ?_
  refine kg_getN (ci := 0) cx (44 + f) 0 kfs_X0 rfl (by decide) (kw_at_o hf) rfl (kfn_X2_59 cx.2.2.2.2.2.2.2.2) dX2_writeBack_1 ?_
  refine kg_iconst (v := 0) cx dX2_writeBack_4 (by decide) ?_
  refine kg_aload_n cx dX2_writeBack_5 rfl ?_
  refine kg_get (ci := 2) cx 1 0 kfs_X2 rfl (by decide) rfl rfl kf_X2_11 dX2_writeBack_6 ?_
  refine kg_aload_n cx dX2_writeBack_9 rfl ?_
  refine kg_getN (ci := 0) cx (44 + f) 1 kfs_X0 rfl (by decide) (kw_at_o hf) rfl (kfn_X2_23 cx.2.2.2.2.2.2.2.2) dX2_writeBack_10 ?_
  refine kg_top (nI q) (hQ) ?_
  refine kg_aaldAN cx 3 3 q rfl rfl (rfl) (hq) (by decide) (k_if hq _) dX2_writeBack_13 ?_
  refine kg_iconst (v := 0) cx dX2_writeBack_14 (by decide) ?_
  refine kg_bipush (v := (nI 9)) cx dX2_writeBack_15 (by decide) ?_
  refine kg_copyi (N := 9) cx (44 + n + f) (12 + q) 0 km_X2_63 rfl (kw_at_r hf) (kw_at_d hq) (by decide) rfl (by decide) (by decide) ⟨Nat.le_of_ble_eq_true rfl, Nat.le_of_ble_eq_true rfl⟩ (ks_back hq) dX2_writeBack_17 ?_
  refine kg_aload_n cx dX2_writeBack_20 rfl ?_
  refine kg_iconst (v := 0) cx dX2_writeBack_21 (by decide) ?_
  refine kg_putN (ci := 0) (ty := .boolean) cx (44 + f) 3 kfs_X0 tyX0 tyX0_ok nmX0 rfl (by decide) (kw_at_o hf) (Nat.le_of_ble_eq_true rfl) (kfn_X2_52 cx.2.2.2.2.2.2.2.2) rfl (by decide +kernel) rfl rfl (ks_dirty hf _) dX2_writeBack_22 ?_
  refine kg_aload_n cx dX2_writeBack_25 rfl ?_
  refine kg_dup cx dX2_writeBack_26 rfl ?_
  refine kg_get (ci := 2) cx 1 3 kfs_X2 rfl (by decide) rfl rfl kf_X2_72 dX2_writeBack_27 ?_
  refine kg_top (u 7 0 0) (by simp [ku, kcp]) ?_
  refine kg_iconst (v := 1) cx dX2_writeBack_30 (by decide) ?_
  refine kg_iadd cx dX2_writeBack_31 ?_
  refine kg_put (ci := 2) (ty := .int) cx 1 3 kfs_X2 tyX2 tyX2_ok nmX2 rfl (by decide) rfl (Nat.le_of_ble_eq_true rfl) kf_X2_72 rfl (by decide +kernel) rfl rfl (ks_written _) dX2_writeBack_32 ?_
  exact kg_return cx hr _ rfl (⟨rfl, rfl⟩) dX2_writeBack_35
set_option maxHeartbeats 4000000 in
set_option maxRecDepth 100000 in
/-- Pool.load -/
theorem c_X2_load (l : Launch) (D : va_G) (c : Nat → ClassId) (ad : Nat → Nat → Nat) (n : Nat) (hn : n ≤ 8) (u : kS) (p9 f q : Nat) (hp : p9 < 32) (hf : f < n) (hQ : u 3 f 0 ≠ 0 → u 1 f 0 = nI q ∧ q < 32) : kC l D c ad n yX2_load (Cond.code yX2_load cX2_load 3 none) 2 81 u [.ref (ad 1 0), .int (nI p9), .ref (ad 13 f)] (fun v u9 => v = none ∧ u9 = kLoad u p9 f q) := by
  refine kC.mk (by decide) (by simp [Value.category]) (Nat.le_of_ble_eq_true rfl) ?_
  intro p e s m args below meth c9 cx hr
  refine kg_aload_n cx dX2_load_0 rfl ?_
  refine kg_getN (ci := 0) cx (44 + f) 3 kfs_X0 rfl (by decide) (kw_at_o hf) rfl (kfn_X2_52 cx.2.2.2.2.2.2.2.2) dX2_load_1 ?_
  refine kg_if_eq cx 12 dX2_load_4 (by decide) (fun h1 => ?_) (fun h1 => ?_)
  · refine kg_aload_n cx dX2_load_12 rfl ?_
    refine kg_get (ci := 2) cx 1 0 kfs_X2 rfl (by decide) rfl rfl kf_X2_11 dX2_load_13 ?_
    refine kg_iload_n cx dX2_load_16 rfl ?_
    refine kg_aaldAN cx 3 3 p9 rfl rfl (rfl) (hp) (by decide) (k_if hp _) dX2_load_17 ?_
    refine kg_iconst (v := 0) cx dX2_load_18 (by decide) ?_
    refine kg_aload_n cx dX2_load_19 rfl ?_
    refine kg_getN (ci := 0) cx (44 + f) 0 kfs_X0 rfl (by decide) (kw_at_o hf) rfl (kfn_X2_59 cx.2.2.2.2.2.2.2.2) dX2_load_20 ?_
    refine kg_iconst (v := 0) cx dX2_load_23 (by decide) ?_
    refine kg_bipush (v := (nI 9)) cx dX2_load_24 (by decide) ?_
    refine kg_copyi (N := 9) cx (12 + p9) (44 + n + f) 0 km_X2_63 rfl (kw_at_d hp) (kw_at_r hf) (by decide) rfl (by decide) (by decide) ⟨Nat.le_of_ble_eq_true rfl, Nat.le_of_ble_eq_true rfl⟩ ks_load dX2_load_26 ?_
    refine kg_aload_n cx dX2_load_29 rfl ?_
    refine kg_iload_n cx dX2_load_30 rfl ?_
    refine kg_putN (ci := 0) (ty := .int) cx (44 + f) 1 kfs_X0 tyX0 tyX0_ok nmX0 rfl (by decide) (kw_at_o hf) (Nat.le_of_ble_eq_true rfl) (kfn_X2_23 cx.2.2.2.2.2.2.2.2) rfl (by decide +kernel) rfl rfl (ks_page hf _) dX2_load_31 ?_
    refine kg_aload_n cx dX2_load_34 rfl ?_
    refine kg_dup cx dX2_load_35 rfl ?_
    refine kg_get (ci := 2) cx 1 4 kfs_X2 rfl (by decide) rfl rfl kf_X2_69 dX2_load_36 ?_
    refine kg_top (u 8 0 0) (by simp [ku, kcp]) ?_
    refine kg_iconst (v := 1) cx dX2_load_39 (by decide) ?_
    refine kg_iadd cx dX2_load_40 ?_
    refine kg_put (ci := 2) (ty := .int) cx 1 4 kfs_X2 tyX2 tyX2_ok nmX2 rfl (by decide) rfl (Nat.le_of_ble_eq_true rfl) kf_X2_69 rfl (by decide +kernel) rfl rfl (ks_come _) dX2_load_41 ?_
    exact kg_return cx hr _ rfl (⟨rfl, by unfold kLoad; rw [if_pos h1]⟩) dX2_load_44
  · refine kg_aload_n cx dX2_load_7 rfl ?_
    refine kg_aload_n cx dX2_load_8 rfl ?_
    refine kg_callV (ci := 2) (na := 1) cx (c_X2_writeBack l D c ad n hn u f q hf (hQ h1).2 (hQ h1).1) 1 rfl rfl kcd_X2_writeBack km_X2_55 kin_X2 kim_X2_writeBack ksl_X2_writeBack (by decide +kernel) rfl (by decide) (by decide) rfl (Nat.le_of_ble_eq_true rfl) dX2_load_9 (fun _ => kw_adr _ _) (fun v9 u9 h9 => ?_)
    obtain ⟨rfl, h9⟩ := h9
    subst u9
    refine kg_aload_n cx dX2_load_12 rfl ?_
    refine kg_get (ci := 2) cx 1 0 kfs_X2 rfl (by decide) rfl rfl kf_X2_11 dX2_load_13 ?_
    refine kg_iload_n cx dX2_load_16 rfl ?_
    refine kg_aaldAN cx 3 3 p9 rfl rfl (rfl) (hp) (by decide) (k_if hp _) dX2_load_17 ?_
    refine kg_iconst (v := 0) cx dX2_load_18 (by decide) ?_
    refine kg_aload_n cx dX2_load_19 rfl ?_
    refine kg_getN (ci := 0) cx (44 + f) 0 kfs_X0 rfl (by decide) (kw_at_o hf) rfl (kfn_X2_59 cx.2.2.2.2.2.2.2.2) dX2_load_20 ?_
    refine kg_iconst (v := 0) cx dX2_load_23 (by decide) ?_
    refine kg_bipush (v := (nI 9)) cx dX2_load_24 (by decide) ?_
    refine kg_copyi (N := 9) cx (12 + p9) (44 + n + f) 0 km_X2_63 rfl (kw_at_d hp) (kw_at_r hf) (by decide) rfl (by decide) (by decide) ⟨Nat.le_of_ble_eq_true rfl, Nat.le_of_ble_eq_true rfl⟩ ks_load dX2_load_26 ?_
    refine kg_aload_n cx dX2_load_29 rfl ?_
    refine kg_iload_n cx dX2_load_30 rfl ?_
    refine kg_putN (ci := 0) (ty := .int) cx (44 + f) 1 kfs_X0 tyX0 tyX0_ok nmX0 rfl (by decide) (kw_at_o hf) (Nat.le_of_ble_eq_true rfl) (kfn_X2_23 cx.2.2.2.2.2.2.2.2) rfl (by decide +kernel) rfl rfl (ks_page hf _) dX2_load_31 ?_
    refine kg_aload_n cx dX2_load_34 rfl ?_
    refine kg_dup cx dX2_load_35 rfl ?_
    refine kg_get (ci := 2) cx 1 4 kfs_X2 rfl (by decide) rfl rfl kf_X2_69 dX2_load_36 ?_
    refine kg_top ((kBack u f q) 8 0 0) (by simp [ku, kcp]) ?_
    refine kg_iconst (v := 1) cx dX2_load_39 (by decide) ?_
    refine kg_iadd cx dX2_load_40 ?_
    refine kg_put (ci := 2) (ty := .int) cx 1 4 kfs_X2 tyX2 tyX2_ok nmX2 rfl (by decide) rfl (Nat.le_of_ble_eq_true rfl) kf_X2_69 rfl (by decide +kernel) rfl rfl (ks_come _) dX2_load_41 ?_
    exact kg_return cx hr _ rfl (⟨rfl, by unfold kLoad; rw [if_neg h1]⟩) dX2_load_44
set_option maxHeartbeats 4000000 in
set_option maxRecDepth 100000 in
/-- Pool.bring -/
theorem c_X2_bring (l : Launch) (D : va_G) (c : Nat → ClassId) (ad : Nat → Nat → Nat) (n : Nat) (hn : n ≤ 8) (u : kS) (p9 : Nat) (fl : Int32) (h : Nat) (Q : Nat → Nat) (hp : p9 < 32) (hh : h < n) (hH : u 6 0 0 = nI h) (hQ : ∀ f, f < n → u 3 f 0 ≠ 0 → u 1 f 0 = nI (Q f) ∧ Q f < 32) : kC l D c ad n yX2_bring (Cond.code yX2_bring cX2_bring 4 (some .int)) 3 103 u [.ref (ad 1 0), .int (nI p9), .int fl] (fun v u9 => ∃ r, v = some (.int r) ∧ kBring u n p9 fl h Q r u9) := by
  refine kC.mk (by decide) (by simp [Value.category]) (Nat.le_of_ble_eq_true rfl) ?_
  intro p e s m args below meth c9 cx hr
  refine kg_aload_n cx dX2_bring_0 rfl ?_
  refine kg_iload_n cx dX2_bring_1 rfl ?_
  refine kg_callV (ci := 2) (na := 1) cx (c_X2_find l D c ad n hn u (nI p9)) 1 rfl rfl kcd_X2_find km_X2_27 kin_X2 kim_X2_find ksl_X2_find (by decide +kernel) rfl (by decide) (by decide) rfl (Nat.le_of_ble_eq_true rfl) dX2_bring_2 (fun _ => kw_adr _ _) (fun v9 u9 h9 => ?_)
  obtain ⟨⟨r9, rfl, hr9⟩, h9⟩ := h9
  subst u9
  rcases hr9 with ⟨f, hf, rfl, hpf, hlf⟩ | ⟨rfl, hno⟩
  · refine kg_istore_n cx dX2_bring_5 (by decide) ?_
    refine kg_iload_n cx dX2_bring_6 rfl ?_
    refine kg_if_ge cx 33 dX2_bring_7 (by decide) (fun h1 => ?_) (fun h1 => ?_)
    · refine kg_aload_n cx dX2_bring_33 rfl ?_
      refine kg_get (ci := 2) cx 1 1 kfs_X2 rfl (by decide) rfl rfl kf_X2_18 dX2_bring_34 ?_
      refine kg_iload_n cx dX2_bring_37 rfl ?_
      refine kg_aaldN cx 4 2 f rfl rfl (rfl) (hf) (by omega) (k_if hf _) dX2_bring_38 ?_
      refine kg_iconst (v := 1) cx dX2_bring_39 (by decide) ?_
      refine kg_putN (ci := 0) (ty := .boolean) cx (44 + f) 4 kfs_X0 tyX0 tyX0_ok nmX0 rfl (by decide) (kw_at_o hf) (Nat.le_of_ble_eq_true rfl) (kfn_X2_38 cx.2.2.2.2.2.2.2.2) rfl (by decide +kernel) rfl rfl (ks_marked hf _) dX2_bring_40 ?_
      refine kg_iload_n cx dX2_bring_43 rfl ?_
      exact kg_ireturn cx hr (rfl) _ rfl (⟨_, rfl, Or.inl ⟨f, hf, hpf, hlf, rfl, rfl⟩⟩) dX2_bring_44
    · exact absurd (nI_ge0 (by omega)) h1
  · refine kg_istore_n cx dX2_bring_5 (by decide) ?_
    refine kg_iload_n cx dX2_bring_6 rfl ?_
    refine kg_if_ge cx 33 dX2_bring_7 (by decide) (fun h1 => ?_) (fun h1 => ?_)
    · exact absurd h1 (by decide)
    · refine kg_aload_n cx dX2_bring_10 rfl ?_
      refine kg_iload_n cx dX2_bring_11 rfl ?_
      refine kg_callV (ci := 2) (na := 1) cx (c_X2_roomFor l D c ad n hn u fl h hh hH) 1 rfl rfl kcd_X2_roomFor km_X2_31 kin_X2 kim_X2_roomFor ksl_X2_roomFor (by decide +kernel) rfl (by decide) (by decide) rfl (Nat.le_of_ble_eq_true rfl) dX2_bring_12 (fun _ => kw_adr _ _) (fun v9 u9 h9 => ?_)
      obtain ⟨r9, rfl, hr9⟩ := h9
      rcases hr9 with ⟨f, hf, hpf, hlf, rfl, h9⟩ | ⟨hno2, hr2, h9⟩
      · subst u9
        refine kg_istore_n cx dX2_bring_15 (by decide) ?_
        refine kg_iload_n cx dX2_bring_16 rfl ?_
        refine kg_if_ge cx 22 dX2_bring_17 (by decide) (fun h2 => ?_) (fun h2 => ?_)
        · refine kg_aload_n cx dX2_bring_22 rfl ?_
          refine kg_iload_n cx dX2_bring_23 rfl ?_
          refine kg_aload_n cx dX2_bring_24 rfl ?_
          refine kg_get (ci := 2) cx 1 1 kfs_X2 rfl (by decide) rfl rfl kf_X2_18 dX2_bring_25 ?_
          refine kg_iload_n cx dX2_bring_28 rfl ?_
          refine kg_aaldN cx 4 2 f rfl rfl (rfl) (hf) (by omega) (k_if hf _) dX2_bring_29 ?_
          refine kg_callV (ci := 2) (na := 2) cx (c_X2_load l D c ad n hn u p9 f (Q f) hp hf (hQ f hf)) 1 rfl rfl kcd_X2_load km_X2_34 kin_X2 kim_X2_load ksl_X2_load (by decide +kernel) rfl (by decide) (by decide) rfl (Nat.le_of_ble_eq_true rfl) dX2_bring_30 (fun _ => kw_adr _ _) (fun v9 u9 h9 => ?_)
          obtain ⟨rfl, h9⟩ := h9
          subst u9
          refine kg_aload_n cx dX2_bring_33 rfl ?_
          refine kg_get (ci := 2) cx 1 1 kfs_X2 rfl (by decide) rfl rfl kf_X2_18 dX2_bring_34 ?_
          refine kg_iload_n cx dX2_bring_37 rfl ?_
          refine kg_aaldN cx 4 2 f rfl rfl (rfl) (hf) (by omega) (k_if hf _) dX2_bring_38 ?_
          refine kg_iconst (v := 1) cx dX2_bring_39 (by decide) ?_
          refine kg_putN (ci := 0) (ty := .boolean) cx (44 + f) 4 kfs_X0 tyX0 tyX0_ok nmX0 rfl (by decide) (kw_at_o hf) (Nat.le_of_ble_eq_true rfl) (kfn_X2_38 cx.2.2.2.2.2.2.2.2) rfl (by decide +kernel) rfl rfl (ks_marked hf _) dX2_bring_40 ?_
          refine kg_iload_n cx dX2_bring_43 rfl ?_
          exact kg_ireturn cx hr (rfl) _ rfl (⟨_, rfl, Or.inr (Or.inl ⟨f, hf, hno, hpf, hlf, rfl, rfl⟩)⟩) dX2_bring_44
        · exact absurd (nI_ge0 (by omega)) h2
      · subst u9
        cases ht : (kTurn n fl (2 * n) u h).2 with
        | none =>
          rw [ht] at hr2
          subst hr2
          refine kg_istore_n cx dX2_bring_15 (by decide) ?_
          refine kg_iload_n cx dX2_bring_16 rfl ?_
          refine kg_if_ge cx 22 dX2_bring_17 (by decide) (fun h2 => ?_) (fun h2 => ?_)
          · exact absurd h2 (by decide)
          · refine kg_iconst (v := (-1)) cx dX2_bring_20 (by decide) ?_
            exact kg_ireturn cx hr (rfl) _ rfl (⟨_, rfl, Or.inr (Or.inr (Or.inr ⟨hno, hno2, ht, rfl, rfl⟩))⟩) dX2_bring_21
        | some f =>
          rw [ht] at hr2
          subst hr2
          have hf : f < n := kTurn_lt _ _ _ f hh ht
          refine kg_istore_n cx dX2_bring_15 (by decide) ?_
          refine kg_iload_n cx dX2_bring_16 rfl ?_
          refine kg_if_ge cx 22 dX2_bring_17 (by decide) (fun h2 => ?_) (fun h2 => ?_)
          · refine kg_aload_n cx dX2_bring_22 rfl ?_
            refine kg_iload_n cx dX2_bring_23 rfl ?_
            refine kg_aload_n cx dX2_bring_24 rfl ?_
            refine kg_get (ci := 2) cx 1 1 kfs_X2 rfl (by decide) rfl rfl kf_X2_18 dX2_bring_25 ?_
            refine kg_iload_n cx dX2_bring_28 rfl ?_
            refine kg_aaldN cx 4 2 f rfl rfl (rfl) (hf) (by omega) (k_if hf _) dX2_bring_29 ?_
            refine kg_callV (ci := 2) (na := 2) cx (c_X2_load l D c ad n hn (kTurn n fl (2 * n) u h).1 p9 f (Q f) hp hf (fun q => by rw [kTurn_F (by decide) (by decide)] at q ⊢; exact hQ f hf q)) 1 rfl rfl kcd_X2_load km_X2_34 kin_X2 kim_X2_load ksl_X2_load (by decide +kernel) rfl (by decide) (by decide) rfl (Nat.le_of_ble_eq_true rfl) dX2_bring_30 (fun _ => kw_adr _ _) (fun v9 u9 h9 => ?_)
            obtain ⟨rfl, h9⟩ := h9
            subst u9
            refine kg_aload_n cx dX2_bring_33 rfl ?_
            refine kg_get (ci := 2) cx 1 1 kfs_X2 rfl (by decide) rfl rfl kf_X2_18 dX2_bring_34 ?_
            refine kg_iload_n cx dX2_bring_37 rfl ?_
            refine kg_aaldN cx 4 2 f rfl rfl (rfl) (hf) (by omega) (k_if hf _) dX2_bring_38 ?_
            refine kg_iconst (v := 1) cx dX2_bring_39 (by decide) ?_
            refine kg_putN (ci := 0) (ty := .boolean) cx (44 + f) 4 kfs_X0 tyX0 tyX0_ok nmX0 rfl (by decide) (kw_at_o hf) (Nat.le_of_ble_eq_true rfl) (kfn_X2_38 cx.2.2.2.2.2.2.2.2) rfl (by decide +kernel) rfl rfl (ks_marked hf _) dX2_bring_40 ?_
            refine kg_iload_n cx dX2_bring_43 rfl ?_
            exact kg_ireturn cx hr (rfl) _ rfl (⟨_, rfl, Or.inr (Or.inr (Or.inl ⟨f, hf, hno, hno2, ht, rfl, rfl⟩))⟩) dX2_bring_44
          · exact absurd (nI_ge0 (by omega)) h2
/-- the first k frames empty -/
def kClr (u : kS) : Nat → kS
  | 0 => u
  | k + 1 => kEmp (kClr u k) k
set_option maxHeartbeats 4000000 in
set_option maxRecDepth 100000 in
/-- Pool.clear -/
theorem c_X2_clear (l : Launch) (D : va_G) (c : Nat → ClassId) (ad : Nat → Nat → Nat) (n : Nat) (hn : n ≤ 8) (u : kS) : kC l D c ad n yX2_clear (Cond.code yX2_clear cX2_clear 2 none) 2 43 u [.ref (ad 1 0)] (fun v u9 => v = none ∧ u9 = ku (kClr u n) 6 0 0 0) := by
  refine kC.mk (by decide) (by simp [Value.category]) (Nat.le_of_ble_eq_true rfl) ?_
  intro p e s m args below meth c9 cx hr
  refine kg_iconst (v := 0) cx dX2_clear_0 (by decide) ?_
  refine kg_istore_n cx dX2_clear_1 (by decide) ?_
  have loop : ∀ (k i : Nat), n - i = k → i ≤ n → kgC p l e 2 43 s m args below meth c9 2 D c ad n u (fun v u9 => v = none ∧ u9 = ku (kClr u n) 6 0 0 0) (kClr u i) 2 [some (.ref (ad 1 0)), some (.int (nI i))] [] := by
    intro k
    induction k with
    | zero =>
      intro i hk hi
      have e8 : i = n := by omega
      subst i
      refine kg_iload_n cx dX2_clear_2 rfl ?_
      refine kg_aload_n cx dX2_clear_3 rfl ?_
      refine kg_get (ci := 2) cx 1 1 kfs_X2 rfl (by decide) rfl rfl kf_X2_18 dX2_clear_4 ?_
      refine kg_alen (v := nI n) cx 4 2 rfl rfl rfl dX2_clear_7 ?_
      refine kg_icmp_ge cx 26 dX2_clear_8 (by decide) (fun h1 => ?_) (fun h1 => ?_)
      · refine kg_aload_n cx dX2_clear_26 rfl ?_
        refine kg_iconst (v := 0) cx dX2_clear_27 (by decide) ?_
        refine kg_put (ci := 2) (ty := .int) cx 1 2 kfs_X2 tyX2 tyX2_ok nmX2 rfl (by decide) rfl (Nat.le_of_ble_eq_true rfl) kf_X2_45 rfl (by decide +kernel) rfl rfl (ks_hand _) dX2_clear_28 ?_
        exact kg_return cx hr _ rfl (⟨rfl, rfl⟩) dX2_clear_31
      · exact absurd (Int32.le_refl _) h1
    | succ k ih =>
      intro i hk hi
      have hin : i < n := by omega
      refine kg_iload_n cx dX2_clear_2 rfl ?_
      refine kg_aload_n cx dX2_clear_3 rfl ?_
      refine kg_get (ci := 2) cx 1 1 kfs_X2 rfl (by decide) rfl rfl kf_X2_18 dX2_clear_4 ?_
      refine kg_alen (v := nI n) cx 4 2 rfl rfl rfl dX2_clear_7 ?_
      refine kg_icmp_ge cx 26 dX2_clear_8 (by decide) (fun h1 => ?_) (fun h1 => ?_)
      · exact absurd h1 (nI_ge hin (by omega))
      · refine kg_aload_n cx dX2_clear_11 rfl ?_
        refine kg_get (ci := 2) cx 1 1 kfs_X2 rfl (by decide) rfl rfl kf_X2_18 dX2_clear_12 ?_
        refine kg_iload_n cx dX2_clear_15 rfl ?_
        refine kg_aaldN cx 4 2 i rfl rfl (rfl) (hin) (by omega) (k_if hin _) dX2_clear_16 ?_
        refine kg_callVN (ci := 0) (na := 0) cx (c_X0_makeEmpty l D c ad n (kClr u i) i hin) (44 + i) rfl (kw_at_o hin) kcd_X0_makeEmpty (kmn_X2_75 cx.2.2.2.2.2.2.2.2) kin_X0 kim_X0_makeEmpty ksl_X0_makeEmpty (by decide +kernel) rfl (by decide) (by decide) rfl (Nat.le_of_ble_eq_true rfl) dX2_clear_17 (fun _ => kw_adr _ _) (fun v9 u9 h9 => ?_)
        obtain ⟨rfl, h9⟩ := h9
        subst u9
        refine kg_iinc (v := nI (i + 1)) cx dX2_clear_20 rfl (nI_1 i) (by decide) ?_
        refine kg_goto cx 2 dX2_clear_23 (by decide) ?_
        exact ih (i + 1) (by omega) (by omega)
  exact loop n 0 rfl (Nat.zero_le _)
