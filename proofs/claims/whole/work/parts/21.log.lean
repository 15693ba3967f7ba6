/-- x and the first k of f, added from the left -/
def kss (x : Int32) (f : Nat → Int32) : Nat → Int32
  | 0 => x
  | k + 1 => kss x f k + f k
set_option maxHeartbeats 4000000 in
set_option maxRecDepth 100000 in
/-- Log.hasRoomFor -/
theorem c_X1_hasRoomFor (l : Launch) (D : va_G) (c : Nat → ClassId) (ad : Nat → Nat → Nat) (n : Nat) (u : kS) (x : Int32) : kC l D c ad n yX1_hasRoomFor (Cond.code yX1_hasRoomFor cX1_hasRoomFor 4 (some .boolean)) 0 0 u [.ref (ad 2 0), .int x] (fun v u9 => v = some (.int (kb (kss (u 14 0 0 + x) (fun t => u 13 t 0) 8 ≤ nI 400))) ∧ u9 = u) := by
  refine kC.mk (by decide) (by simp [Value.category]) (Nat.le_of_ble_eq_true rfl) ?_
  intro p e s m args below meth c9 cx hr
  refine kg_aload_n cx dX1_hasRoomFor_0 rfl ?_
  refine kg_get (ci := 1) cx 2 5 kfs_X1 rfl (by decide) rfl rfl kf_X1_32 dX1_hasRoomFor_1 ?_
  refine kg_iload_n cx dX1_hasRoomFor_4 rfl ?_
  refine kg_iadd cx dX1_hasRoomFor_5 ?_
  refine kg_istore_n cx dX1_hasRoomFor_6 (by decide) ?_
  refine kg_iconst (v := 0) cx dX1_hasRoomFor_7 (by decide) ?_
  refine kg_istore_n cx dX1_hasRoomFor_8 (by decide) ?_
  have loop : ∀ (k i : Nat), 8 - i = k → i ≤ 8 → kgC p l e 0 0 s m args below meth c9 4 D c ad n u (fun v u9 => v = some (.int (kb (kss (u 14 0 0 + x) (fun t => u 13 t 0) 8 ≤ nI 400))) ∧ u9 = u) u 9 [some (.ref (ad 2 0)), some (.int x), some (.int (kss (u 14 0 0 + x) (fun t => u 13 t 0) i)), some (.int (nI i))] [] := by
    intro k
    induction k with
    | zero =>
      intro i hk hi
      have e8 : i = 8 := by omega
      subst e8
      refine kg_iload_n cx dX1_hasRoomFor_9 rfl ?_
      refine kg_bipush (v := (nI 8)) cx dX1_hasRoomFor_10 (by decide) ?_
      refine kg_icmp_ge cx 30 dX1_hasRoomFor_12 (by decide) (fun h1 => ?_) (fun h1 => ?_)
      · refine kg_iload_n cx dX1_hasRoomFor_30 rfl ?_
        refine kg_sipush (v := (nI 400)) cx dX1_hasRoomFor_31 (by decide) ?_
        refine kg_icmp_gt cx 41 dX1_hasRoomFor_34 (by decide) (fun h2 => ?_) (fun h2 => ?_)
        · refine kg_iconst (v := 0) cx dX1_hasRoomFor_41 (by decide) ?_
          refine kg_top (kb (kss (u 14 0 0 + x) (fun t => u 13 t 0) 8 ≤ nI 400)) (kb_0 (fun q => absurd q (Int32.not_le.mpr h2))).symm ?_
          exact kg_ireturn cx hr (kb_nar _) _ rfl (⟨rfl, rfl⟩) dX1_hasRoomFor_42
        · refine kg_iconst (v := 1) cx dX1_hasRoomFor_37 (by decide) ?_
          refine kg_goto cx 42 dX1_hasRoomFor_38 (by decide) ?_
          refine kg_top (kb (kss (u 14 0 0 + x) (fun t => u 13 t 0) 8 ≤ nI 400)) (kb_1 (Int32.not_lt.mp h2)).symm ?_
          exact kg_ireturn cx hr (kb_nar _) _ rfl (⟨rfl, rfl⟩) dX1_hasRoomFor_42
      · exact absurd (Int32.le_refl _) h1
    | succ k ih =>
      intro i hk hi
      refine kg_iload_n cx dX1_hasRoomFor_9 rfl ?_
      refine kg_bipush (v := (nI 8)) cx dX1_hasRoomFor_10 (by decide) ?_
      refine kg_icmp_ge cx 30 dX1_hasRoomFor_12 (by decide) (fun h1 => ?_) (fun h1 => ?_)
      · exact absurd h1 (nI_ge (show i < 8 by omega) (by decide))
      · refine kg_iload_n cx dX1_hasRoomFor_15 rfl ?_
        refine kg_aload_n cx dX1_hasRoomFor_16 rfl ?_
        refine kg_get (ci := 1) cx 2 4 kfs_X1 rfl (by decide) rfl rfl kf_X1_25 dX1_hasRoomFor_17 ?_
        refine kg_iload_n cx dX1_hasRoomFor_20 rfl ?_
        refine kg_ialdN cx 11 0 i rfl rfl (rfl) (by omega) (by decide) (rfl) dX1_hasRoomFor_21 ?_
        refine kg_iadd cx dX1_hasRoomFor_22 ?_
        refine kg_istore_n cx dX1_hasRoomFor_23 (by decide) ?_
        refine kg_iinc (v := nI (i + 1)) cx dX1_hasRoomFor_24 rfl (nI_1 i) (by decide) ?_
        refine kg_goto cx 9 dX1_hasRoomFor_27 (by decide) ?_
        exact ih (i + 1) (by omega) (by omega)
  exact loop 8 0 rfl (by decide)
/-- what follows from the record i of transaction t (if it is an UNDO: of record w) -/
def kFol (u : kS) (i t w : Nat) : kS :=
  if u 9 i 0 = 0 then ku (ku (ku u 10 i 0 0) 11 t 0 (nI i)) 13 t 0 (u 13 t 0 + 1)
  else if u 9 i 0 = 1 then ku (ku (ku u 10 i 0 0) 10 w 0 1) 13 t 0 (u 13 t 0 - 1)
  else ku (ku (ku u 10 i 0 0) 12 t 0 (nI i)) 13 t 0 0
theorem kFol_F {u : kS} {i t w F a b : Nat} (h : F ≠ 10 ∧ F ≠ 11 ∧ F ≠ 12 ∧ F ≠ 13) : kFol u i t w F a b = u F a b := by
  obtain ⟨h0, h1, h2, h3⟩ := h
  unfold kFol
  split
  · rw [ku_F h3, ku_F h1, ku_F h0]
  · split
    · rw [ku_F h3, ku_F h0, ku_F h0]
    · rw [ku_F h3, ku_F h2, ku_F h0]
/-- a record laid behind the last one -/
def kApp (u : kS) (i : Nat) (k0 k1 k2 k3 k4 k5 k6 : Int32) : kS := ku (ku (ku (ku (ku (ku (ku (ku u 14 0 0 (nI i)) 9 i 0 k0) 9 i 1 k1) 9 i 2 k2) 9 i 3 k3) 9 i 4 k4) 9 i 5 k5) 9 i 6 k6
set_option maxHeartbeats 4000000 in
set_option maxRecDepth 100000 in
/-- Log.follow -/
theorem c_X1_follow (l : Launch) (D : va_G) (c : Nat → ClassId) (ad : Nat → Nat → Nat) (n : Nat) (u : kS) (i t w : Nat) (hi : i ≤ 400) (ht : t < 8) (hT : u 9 i 1 = nI t) (hw : w ≤ 400) (hW : u 9 i 0 = 1 → u 9 i 6 = nI w) : kC l D c ad n yX1_follow (Cond.code yX1_follow cX1_follow 4 none) 1 22 u [.ref (ad 2 0), .int (nI i)] (fun v u9 => v = none ∧ u9 = kFol u i t w) := by
  refine kC.mk (by decide) (by simp [Value.category]) (Nat.le_of_ble_eq_true rfl) ?_
  intro p e s m args below meth c9 cx hr
  refine kg_aload_n cx dX1_follow_0 rfl ?_
  refine kg_iload_n cx dX1_follow_1 rfl ?_
  refine kg_iconst (v := 1) cx dX1_follow_2 (by decide) ?_
  refine kg_callV (ci := 1) (na := 2) cx (c_X1_value l D c ad n u i 1 hi (by decide)) 2 rfl rfl kcd_X1_value km_X1_28 kin_X1 kim_X1_value ksl_X1_value (by decide +kernel) rfl (by decide) (by decide) rfl (Nat.le_of_ble_eq_true rfl) dX1_follow_3 (fun _ => kw_adr _ _) (fun v9 u9 h9 => ?_)
  obtain ⟨rfl, h9⟩ := h9
  subst u9
  refine kg_top (nI t) (hT) ?_
  refine kg_istore_n cx dX1_follow_6 (by decide) ?_
  refine kg_aload_n cx dX1_follow_7 rfl ?_
  refine kg_iload_n cx dX1_follow_8 rfl ?_
  refine kg_iconst (v := 0) cx dX1_follow_9 (by decide) ?_
  refine kg_callV (ci := 1) (na := 2) cx (c_X1_value l D c ad n u i 0 hi (by decide)) 2 rfl rfl kcd_X1_value km_X1_28 kin_X1 kim_X1_value ksl_X1_value (by decide +kernel) rfl (by decide) (by decide) rfl (Nat.le_of_ble_eq_true rfl) dX1_follow_10 (fun _ => kw_adr _ _) (fun v9 u9 h9 => ?_)
  obtain ⟨rfl, h9⟩ := h9
  subst u9
  refine kg_istore_n cx dX1_follow_13 (by decide) ?_
  refine kg_aload_n cx dX1_follow_14 rfl ?_
  refine kg_get (ci := 1) cx 2 1 kfs_X1 rfl (by decide) rfl rfl kf_X1_15 dX1_follow_15 ?_
  refine kg_iload_n cx dX1_follow_18 rfl ?_
  refine kg_iconst (v := 0) cx dX1_follow_19 (by decide) ?_
  refine kg_zastN cx 8 1 i rfl rfl (rfl) (by omega) (by decide) (by decide) (ks_undone i _) dX1_follow_20 ?_
  refine kg_iload_n cx dX1_follow_21 rfl ?_
  refine kg_if_ne cx 45 dX1_follow_22 (by decide) (fun h1 => ?_) (fun h1 => ?_)
  · refine kg_iload_n cx dX1_follow_45 rfl ?_
    refine kg_iconst (v := 1) cx dX1_follow_46 (by decide) ?_
    refine kg_icmp_ne cx 76 dX1_follow_47 (by decide) (fun h2 => ?_) (fun h2 => ?_)
    · refine kg_aload_n cx dX1_follow_76 rfl ?_
      refine kg_get (ci := 1) cx 2 3 kfs_X1 rfl (by decide) rfl rfl kf_X1_22 dX1_follow_77 ?_
      refine kg_iload_n cx dX1_follow_80 rfl ?_
      refine kg_iload_n cx dX1_follow_81 rfl ?_
      refine kg_iastN cx 10 0 t rfl rfl (rfl) (ht) (by decide) (ks_lastOver t _) dX1_follow_82 ?_
      refine kg_aload_n cx dX1_follow_83 rfl ?_
      refine kg_get (ci := 1) cx 2 4 kfs_X1 rfl (by decide) rfl rfl kf_X1_25 dX1_follow_84 ?_
      refine kg_iload_n cx dX1_follow_87 rfl ?_
      refine kg_iconst (v := 0) cx dX1_follow_88 (by decide) ?_
      refine kg_iastN cx 11 0 t rfl rfl (rfl) (ht) (by decide) (ks_openUpdates t _) dX1_follow_89 ?_
      exact kg_return cx hr _ rfl (⟨rfl, by unfold kFol; rw [if_neg h1, if_neg h2]⟩) dX1_follow_90
    · refine kg_aload_n cx dX1_follow_50 rfl ?_
      refine kg_get (ci := 1) cx 2 1 kfs_X1 rfl (by decide) rfl rfl kf_X1_15 dX1_follow_51 ?_
      refine kg_aload_n cx dX1_follow_54 rfl ?_
      refine kg_iload_n cx dX1_follow_55 rfl ?_
      refine kg_bipush (v := (nI 6)) cx dX1_follow_56 (by decide) ?_
      refine kg_callV (ci := 1) (na := 2) cx (c_X1_value l D c ad n (ku u 10 i 0 0) i 6 hi (by decide)) 2 rfl rfl kcd_X1_value km_X1_28 kin_X1 kim_X1_value ksl_X1_value (by decide +kernel) rfl (by decide) (by decide) rfl (Nat.le_of_ble_eq_true rfl) dX1_follow_58 (fun _ => kw_adr _ _) (fun v9 u9 h9 => ?_)
      obtain ⟨rfl, h9⟩ := h9
      subst u9
      refine kg_top (nI w) ((ku_F (by decide)).trans (hW h2)) ?_
      refine kg_iconst (v := 1) cx dX1_follow_61 (by decide) ?_
      refine kg_zastN cx 8 1 w rfl rfl (rfl) (by omega) (by decide) (by decide) (ks_undone w _) dX1_follow_62 ?_
      refine kg_aload_n cx dX1_follow_63 rfl ?_
      refine kg_get (ci := 1) cx 2 4 kfs_X1 rfl (by decide) rfl rfl kf_X1_25 dX1_follow_64 ?_
      refine kg_iload_n cx dX1_follow_67 rfl ?_
      refine kg_dup2 cx dX1_follow_68 rfl rfl ?_
      refine kg_ialdN (v := (u 13 t 0)) cx 11 0 t rfl rfl (rfl) (ht) (by decide) (by simp [ku]) dX1_follow_69 ?_
      refine kg_iconst (v := 1) cx dX1_follow_70 (by decide) ?_
      refine kg_isub cx dX1_follow_71 ?_
      refine kg_iastN cx 11 0 t rfl rfl (rfl) (ht) (by decide) (ks_openUpdates t _) dX1_follow_72 ?_
      refine kg_goto cx 90 dX1_follow_73 (by decide) ?_
      exact kg_return cx hr _ rfl (⟨rfl, by unfold kFol; rw [if_neg h1, if_pos h2]⟩) dX1_follow_90
  · refine kg_aload_n cx dX1_follow_25 rfl ?_
    refine kg_get (ci := 1) cx 2 2 kfs_X1 rfl (by decide) rfl rfl kf_X1_19 dX1_follow_26 ?_
    refine kg_iload_n cx dX1_follow_29 rfl ?_
    refine kg_iload_n cx dX1_follow_30 rfl ?_
    refine kg_iastN cx 9 0 t rfl rfl (rfl) (ht) (by decide) (ks_lastUpdate t _) dX1_follow_31 ?_
    refine kg_aload_n cx dX1_follow_32 rfl ?_
    refine kg_get (ci := 1) cx 2 4 kfs_X1 rfl (by decide) rfl rfl kf_X1_25 dX1_follow_33 ?_
    refine kg_iload_n cx dX1_follow_36 rfl ?_
    refine kg_dup2 cx dX1_follow_37 rfl rfl ?_
    refine kg_ialdN (v := (u 13 t 0)) cx 11 0 t rfl rfl (rfl) (ht) (by decide) (by simp [ku]) dX1_follow_38 ?_
    refine kg_iconst (v := 1) cx dX1_follow_39 (by decide) ?_
    refine kg_iadd cx dX1_follow_40 ?_
    refine kg_iastN cx 11 0 t rfl rfl (rfl) (ht) (by decide) (ks_openUpdates t _) dX1_follow_41 ?_
    refine kg_goto cx 90 dX1_follow_42 (by decide) ?_
    exact kg_return cx hr _ rfl (⟨rfl, by unfold kFol; rw [if_pos h1]⟩) dX1_follow_90
set_option maxHeartbeats 4000000 in
set_option maxRecDepth 100000 in
/-- Log.append, where there is room -/
theorem c_X1_append (l : Launch) (D : va_G) (c : Nat → ClassId) (ad : Nat → Nat → Nat) (n : Nat) (u : kS) (sz t w : Nat) (k0 k2 k3 k4 k5 k6 : Int32) (hs : u 14 0 0 = nI sz) (hz : sz < 400) (ht : t < 8) (hw : w ≤ 400) (hW : k0 = 1 → k6 = nI w) : kC l D c ad n yX1_append (Cond.code yX1_append cX1_append 9 (some .int)) 2 45 u [.ref (ad 2 0), .int k0, .int (nI t), .int k2, .int k3, .int k4, .int k5, .int k6] (fun v u9 => v = some (.int (nI (sz + 1))) ∧ u9 = kFol (kApp u (sz + 1) k0 (nI t) k2 k3 k4 k5 k6) (sz + 1) t w) := by
  refine kC.mk (by decide) (by simp [Value.category]) (Nat.le_of_ble_eq_true rfl) ?_
  intro p e s m args below meth c9 cx hr
  refine kg_aload_n cx dX1_append_0 rfl ?_
  refine kg_get (ci := 1) cx 2 5 kfs_X1 rfl (by decide) rfl rfl kf_X1_32 dX1_append_1 ?_
  refine kg_sipush (v := (nI 400)) cx dX1_append_4 (by decide) ?_
  refine kg_icmp_lt cx 15 dX1_append_7 (by decide) (fun h1 => ?_) (fun h1 => ?_)
  · refine kg_aload_n cx dX1_append_15 rfl ?_
    refine kg_dup cx dX1_append_16 rfl ?_
    refine kg_get (ci := 1) cx 2 5 kfs_X1 rfl (by decide) rfl rfl kf_X1_32 dX1_append_17 ?_
    refine kg_iconst (v := 1) cx dX1_append_20 (by decide) ?_
    refine kg_iadd cx dX1_append_21 ?_
    refine kg_top (nI (sz + 1)) (by rw [hs]; exact nI_1 sz) ?_
    refine kg_put (ci := 1) (ty := .int) cx 2 5 kfs_X1 tyX1 tyX1_ok nmX1 rfl (by decide) rfl (Nat.le_of_ble_eq_true rfl) kf_X1_32 rfl (by decide +kernel) rfl rfl (ks_size _) dX1_append_22 ?_
    refine kg_aload_n cx dX1_append_25 rfl ?_
    refine kg_get (ci := 1) cx 2 5 kfs_X1 rfl (by decide) rfl rfl kf_X1_32 dX1_append_26 ?_
    refine kg_top (nI (sz + 1)) (ku_s _ _ _ _ _) ?_
    refine kg_bipush (v := (nI 7)) cx dX1_append_29 (by decide) ?_
    refine kg_imul cx dX1_append_31 ?_
    refine kg_top (nI ((sz + 1) * 7)) (pk_mul _ 7) ?_
    refine kg_istore cx dX1_append_32 (by decide) ?_
    refine kg_aload_n cx dX1_append_34 rfl ?_
    refine kg_get (ci := 1) cx 2 0 kfs_X1 rfl (by decide) rfl rfl kf_X1_9 dX1_append_35 ?_
    refine kg_iload cx dX1_append_38 rfl ?_
    refine kg_iconst (v := 0) cx dX1_append_40 (by decide) ?_
    refine kg_iadd cx dX1_append_41 ?_
    refine kg_top (nI ((sz + 1) * 7 + 0)) (nI_add _ 0) ?_
    refine kg_iload_n cx dX1_append_42 rfl ?_
    refine kg_iastN cx 7 0 ((sz + 1) * 7 + 0) rfl rfl (rfl) (by omega) (by decide) (ks_cells (sz + 1) 0 (by decide) _) dX1_append_43 ?_
    refine kg_aload_n cx dX1_append_44 rfl ?_
    refine kg_get (ci := 1) cx 2 0 kfs_X1 rfl (by decide) rfl rfl kf_X1_9 dX1_append_45 ?_
    refine kg_iload cx dX1_append_48 rfl ?_
    refine kg_iconst (v := 1) cx dX1_append_50 (by decide) ?_
    refine kg_iadd cx dX1_append_51 ?_
    refine kg_top (nI ((sz + 1) * 7 + 1)) (nI_add _ 1) ?_
    refine kg_iload_n cx dX1_append_52 rfl ?_
    refine kg_iastN cx 7 0 ((sz + 1) * 7 + 1) rfl rfl (rfl) (by omega) (by decide) (ks_cells (sz + 1) 1 (by decide) _) dX1_append_53 ?_
    refine kg_aload_n cx dX1_append_54 rfl ?_
    refine kg_get (ci := 1) cx 2 0 kfs_X1 rfl (by decide) rfl rfl kf_X1_9 dX1_append_55 ?_
    refine kg_iload cx dX1_append_58 rfl ?_
    refine kg_iconst (v := (nI 2)) cx dX1_append_60 (by decide) ?_
    refine kg_iadd cx dX1_append_61 ?_
    refine kg_top (nI ((sz + 1) * 7 + 2)) (nI_add _ 2) ?_
    refine kg_iload_n cx dX1_append_62 rfl ?_
    refine kg_iastN cx 7 0 ((sz + 1) * 7 + 2) rfl rfl (rfl) (by omega) (by decide) (ks_cells (sz + 1) 2 (by decide) _) dX1_append_63 ?_
    refine kg_aload_n cx dX1_append_64 rfl ?_
    refine kg_get (ci := 1) cx 2 0 kfs_X1 rfl (by decide) rfl rfl kf_X1_9 dX1_append_65 ?_
    refine kg_iload cx dX1_append_68 rfl ?_
    refine kg_iconst (v := (nI 3)) cx dX1_append_70 (by decide) ?_
    refine kg_iadd cx dX1_append_71 ?_
    refine kg_top (nI ((sz + 1) * 7 + 3)) (nI_add _ 3) ?_
    refine kg_iload cx dX1_append_72 rfl ?_
    refine kg_iastN cx 7 0 ((sz + 1) * 7 + 3) rfl rfl (rfl) (by omega) (by decide) (ks_cells (sz + 1) 3 (by decide) _) dX1_append_74 ?_
    refine kg_aload_n cx dX1_append_75 rfl ?_
    refine kg_get (ci := 1) cx 2 0 kfs_X1 rfl (by decide) rfl rfl kf_X1_9 dX1_append_76 ?_
    refine kg_iload cx dX1_append_79 rfl ?_
    refine kg_iconst (v := (nI 4)) cx dX1_append_81 (by decide) ?_
    refine kg_iadd cx dX1_append_82 ?_
    refine kg_top (nI ((sz + 1) * 7 + 4)) (nI_add _ 4) ?_
    refine kg_iload cx dX1_append_83 rfl ?_
    refine kg_iastN cx 7 0 ((sz + 1) * 7 + 4) rfl rfl (rfl) (by omega) (by decide) (ks_cells (sz + 1) 4 (by decide) _) dX1_append_85 ?_
    refine kg_aload_n cx dX1_append_86 rfl ?_
    refine kg_get (ci := 1) cx 2 0 kfs_X1 rfl (by decide) rfl rfl kf_X1_9 dX1_append_87 ?_
    refine kg_iload cx dX1_append_90 rfl ?_
    refine kg_iconst (v := (nI 5)) cx dX1_append_92 (by decide) ?_
    refine kg_iadd cx dX1_append_93 ?_
    refine kg_top (nI ((sz + 1) * 7 + 5)) (nI_add _ 5) ?_
    refine kg_iload cx dX1_append_94 rfl ?_
    refine kg_iastN cx 7 0 ((sz + 1) * 7 + 5) rfl rfl (rfl) (by omega) (by decide) (ks_cells (sz + 1) 5 (by decide) _) dX1_append_96 ?_
    refine kg_aload_n cx dX1_append_97 rfl ?_
    refine kg_get (ci := 1) cx 2 0 kfs_X1 rfl (by decide) rfl rfl kf_X1_9 dX1_append_98 ?_
    refine kg_iload cx dX1_append_101 rfl ?_
    refine kg_bipush (v := (nI 6)) cx dX1_append_103 (by decide) ?_
    refine kg_iadd cx dX1_append_105 ?_
    refine kg_top (nI ((sz + 1) * 7 + 6)) (nI_add _ 6) ?_
    refine kg_iload cx dX1_append_106 rfl ?_
    refine kg_iastN cx 7 0 ((sz + 1) * 7 + 6) rfl rfl (rfl) (by omega) (by decide) (ks_cells (sz + 1) 6 (by decide) _) dX1_append_108 ?_
    refine kg_aload_n cx dX1_append_109 rfl ?_
    refine kg_aload_n cx dX1_append_110 rfl ?_
    refine kg_get (ci := 1) cx 2 5 kfs_X1 rfl (by decide) rfl rfl kf_X1_32 dX1_append_111 ?_
    refine kg_top (nI (sz + 1)) (by simp [ku]) ?_
    refine kg_callV (ci := 1) (na := 1) cx (c_X1_follow l D c ad n (kApp u (sz + 1) k0 (nI t) k2 k3 k4 k5 k6) (sz + 1) t w (by omega) ht (by simp [kApp, ku]) hw (by simp [kApp, ku]; exact hW)) 2 rfl rfl kcd_X1_follow km_X1_40 kin_X1 kim_X1_follow ksl_X1_follow (by decide +kernel) rfl (by decide) (by decide) rfl (Nat.le_of_ble_eq_true rfl) dX1_append_114 (fun _ => kw_adr _ _) (fun v9 u9 h9 => ?_)
    obtain ⟨rfl, h9⟩ := h9
    subst u9
    refine kg_aload_n cx dX1_append_117 rfl ?_
    refine kg_get (ci := 1) cx 2 5 kfs_X1 rfl (by decide) rfl rfl kf_X1_32 dX1_append_118 ?_
    refine kg_top (nI (sz + 1)) (by rw [kFol_F (by decide)]; simp [kApp, ku]) ?_
    exact kg_ireturn cx hr (rfl) _ rfl (⟨rfl, rfl⟩) dX1_append_121
  · exact absurd (by rw [hs]; exact nI_lt (by omega) (by decide)) h1
set_option maxHeartbeats 4000000 in
set_option maxRecDepth 100000 in
/-- Log.appendUndo -/
theorem c_X1_appendUndo (l : Launch) (D : va_G) (c : Nat → ClassId) (ad : Nat → Nat → Nat) (n : Nat) (u : kS) (sz t i : Nat) (x : Int32) (hs : u 14 0 0 = nI sz) (hz : sz < 400) (ht : t < 8) (hi : i ≤ 400) (hT : u 9 i 1 = nI t) : kC l D c ad n yX1_appendUndo (Cond.code yX1_appendUndo cX1_appendUndo 3 (some .int)) 3 73 u [.ref (ad 2 0), .int (nI i), .int x] (fun v u9 => v = some (.int (nI (sz + 1))) ∧ u9 = kFol (kApp u (sz + 1) 1 (nI t) (u 9 i 2) (u 9 i 3) x (u 9 i 4) (nI i)) (sz + 1) t i) := by
  refine kC.mk (by decide) (by simp [Value.category]) (Nat.le_of_ble_eq_true rfl) ?_
  intro p e s m args below meth c9 cx hr
  refine kg_aload_n cx dX1_appendUndo_0 rfl ?_
  refine kg_iconst (v := 1) cx dX1_appendUndo_1 (by decide) ?_
  refine kg_aload_n cx dX1_appendUndo_2 rfl ?_
  refine kg_iload_n cx dX1_appendUndo_3 rfl ?_
  refine kg_iconst (v := 1) cx dX1_appendUndo_4 (by decide) ?_
  refine kg_callV (ci := 1) (na := 2) cx (c_X1_value l D c ad n u i 1 hi (by decide)) 2 rfl rfl kcd_X1_value km_X1_28 kin_X1 kim_X1_value ksl_X1_value (by decide +kernel) rfl (by decide) (by decide) rfl (Nat.le_of_ble_eq_true rfl) dX1_appendUndo_5 (fun _ => kw_adr _ _) (fun v9 u9 h9 => ?_)
  obtain ⟨rfl, h9⟩ := h9
  subst u9
  refine kg_top (nI t) (hT) ?_
  refine kg_aload_n cx dX1_appendUndo_8 rfl ?_
  refine kg_iload_n cx dX1_appendUndo_9 rfl ?_
  refine kg_iconst (v := (nI 2)) cx dX1_appendUndo_10 (by decide) ?_
  refine kg_callV (ci := 1) (na := 2) cx (c_X1_value l D c ad n u i 2 hi (by decide)) 2 rfl rfl kcd_X1_value km_X1_28 kin_X1 kim_X1_value ksl_X1_value (by decide +kernel) rfl (by decide) (by decide) rfl (Nat.le_of_ble_eq_true rfl) dX1_appendUndo_11 (fun _ => kw_adr _ _) (fun v9 u9 h9 => ?_)
  obtain ⟨rfl, h9⟩ := h9
  subst u9
  refine kg_aload_n cx dX1_appendUndo_14 rfl ?_
  refine kg_iload_n cx dX1_appendUndo_15 rfl ?_
  refine kg_iconst (v := (nI 3)) cx dX1_appendUndo_16 (by decide) ?_
  refine kg_callV (ci := 1) (na := 2) cx (c_X1_value l D c ad n u i 3 hi (by decide)) 2 rfl rfl kcd_X1_value km_X1_28 kin_X1 kim_X1_value ksl_X1_value (by decide +kernel) rfl (by decide) (by decide) rfl (Nat.le_of_ble_eq_true rfl) dX1_appendUndo_17 (fun _ => kw_adr _ _) (fun v9 u9 h9 => ?_)
  obtain ⟨rfl, h9⟩ := h9
  subst u9
  refine kg_iload_n cx dX1_appendUndo_20 rfl ?_
  refine kg_aload_n cx dX1_appendUndo_21 rfl ?_
  refine kg_iload_n cx dX1_appendUndo_22 rfl ?_
  refine kg_iconst (v := (nI 4)) cx dX1_appendUndo_23 (by decide) ?_
  refine kg_callV (ci := 1) (na := 2) cx (c_X1_value l D c ad n u i 4 hi (by decide)) 2 rfl rfl kcd_X1_value km_X1_28 kin_X1 kim_X1_value ksl_X1_value (by decide +kernel) rfl (by decide) (by decide) rfl (Nat.le_of_ble_eq_true rfl) dX1_appendUndo_24 (fun _ => kw_adr _ _) (fun v9 u9 h9 => ?_)
  obtain ⟨rfl, h9⟩ := h9
  subst u9
  refine kg_iload_n cx dX1_appendUndo_27 rfl ?_
  refine kg_callV (ci := 1) (na := 7) cx (c_X1_append l D c ad n u sz t i 1 (u 9 i 2) (u 9 i 3) x (u 9 i 4) (nI i) hs hz ht hi (fun _ => rfl)) 2 rfl rfl kcd_X1_append km_X1_36 kin_X1 kim_X1_append ksl_X1_append (by decide +kernel) rfl (by decide) (by decide) rfl (Nat.le_of_ble_eq_true rfl) dX1_appendUndo_28 (fun _ => kw_adr _ _) (fun v9 u9 h9 => ?_)
  obtain ⟨rfl, h9⟩ := h9
  subst u9
  exact kg_ireturn cx hr (rfl) _ rfl (⟨rfl, rfl⟩) dX1_appendUndo_31
set_option maxHeartbeats 4000000 in
set_option maxRecDepth 100000 in
/-- Log.appendLast -/
theorem c_X1_appendLast (l : Launch) (D : va_G) (c : Nat → ClassId) (ad : Nat → Nat → Nat) (n : Nat) (u : kS) (sz t : Nat) (k0 : Int32) (hs : u 14 0 0 = nI sz) (hz : sz < 400) (ht : t < 8) (hk : k0 ≠ 1) : kC l D c ad n yX1_appendLast (Cond.code yX1_appendLast cX1_appendLast 3 (some .int)) 3 73 u [.ref (ad 2 0), .int k0, .int (nI t)] (fun v u9 => v = some (.int (nI (sz + 1))) ∧ u9 = kFol (kApp u (sz + 1) k0 (nI t) (-1) (-1) (-1) (-1) (-1)) (sz + 1) t 0) := by
  refine kC.mk (by decide) (by simp [Value.category]) (Nat.le_of_ble_eq_true rfl) ?_
  intro p e s m args below meth c9 cx hr
  refine kg_aload_n cx dX1_appendLast_0 rfl ?_
  refine kg_iload_n cx dX1_appendLast_1 rfl ?_
  refine kg_iload_n cx dX1_appendLast_2 rfl ?_
  refine kg_iconst (v := (-1)) cx dX1_appendLast_3 (by decide) ?_
  refine kg_iconst (v := (-1)) cx dX1_appendLast_4 (by decide) ?_
  refine kg_iconst (v := (-1)) cx dX1_appendLast_5 (by decide) ?_
  refine kg_iconst (v := (-1)) cx dX1_appendLast_6 (by decide) ?_
  refine kg_iconst (v := (-1)) cx dX1_appendLast_7 (by decide) ?_
  refine kg_callV (ci := 1) (na := 7) cx (c_X1_append l D c ad n u sz t 0 k0 (-1) (-1) (-1) (-1) (-1) hs hz ht (by decide) (fun h => absurd h hk)) 2 rfl rfl kcd_X1_append km_X1_36 kin_X1 kim_X1_append ksl_X1_append (by decide +kernel) rfl (by decide) (by decide) rfl (Nat.le_of_ble_eq_true rfl) dX1_appendLast_8 (fun _ => kw_adr _ _) (fun v9 u9 h9 => ?_)
  obtain ⟨rfl, h9⟩ := h9
  subst u9
  exact kg_ireturn cx hr (rfl) _ rfl (⟨rfl, rfl⟩) dX1_appendLast_11
/-- FLUSHED up to x, or the last record -/
def kFlu (u : kS) (x : Int32) : kS := ku u 15 0 0 (if u 15 0 0 < (if u 14 0 0 < x then u 14 0 0 else x) then (if u 14 0 0 < x then u 14 0 0 else x) else u 15 0 0)
set_option maxHeartbeats 4000000 in
set_option maxRecDepth 100000 in
/-- Log.flushTo -/
theorem c_X1_flushTo (l : Launch) (D : va_G) (c : Nat → ClassId) (ad : Nat → Nat → Nat) (n : Nat) (u : kS) (x : Int32) : kC l D c ad n yX1_flushTo (Cond.code yX1_flushTo cX1_flushTo 2 none) 1 16 u [.ref (ad 2 0), .int x] (fun v u9 => v = none ∧ u9 = kFlu u x) := by
  refine kC.mk (by decide) (by simp [Value.category]) (Nat.le_of_ble_eq_true rfl) ?_
  intro p e s m args below meth c9 cx hr
  refine kg_aload_n cx dX1_flushTo_0 rfl ?_
  refine kg_aload_n cx dX1_flushTo_1 rfl ?_
  refine kg_get (ci := 1) cx 2 6 kfs_X1 rfl (by decide) rfl rfl kf_X1_44 dX1_flushTo_2 ?_
  refine kg_iload_n cx dX1_flushTo_5 rfl ?_
  refine kg_aload_n cx dX1_flushTo_6 rfl ?_
  refine kg_get (ci := 1) cx 2 5 kfs_X1 rfl (by decide) rfl rfl kf_X1_32 dX1_flushTo_7 ?_
  refine kg_mmin cx km_X1_47 ⟨Nat.le_of_ble_eq_true rfl, Nat.le_of_ble_eq_true rfl⟩ (by decide) dX1_flushTo_10 ?_
  refine kg_mmax cx km_X1_52 ⟨Nat.le_of_ble_eq_true rfl, Nat.le_of_ble_eq_true rfl⟩ (by decide) dX1_flushTo_13 ?_
  refine kg_put (ci := 1) (ty := .int) cx 2 6 kfs_X1 tyX1 tyX1_ok nmX1 rfl (by decide) rfl (Nat.le_of_ble_eq_true rfl) kf_X1_44 rfl (by decide +kernel) rfl rfl (ks_flushed _) dX1_flushTo_16 ?_
  exact kg_return cx hr _ rfl (⟨rfl, rfl⟩) dX1_flushTo_19
def kFols (u : kS) (T Wd : Nat → Nat) : Nat → kS
  | 0 => u
  | k + 1 => kFol (kFols u T Wd k) (k + 1) (T (k + 1)) (Wd (k + 1))
theorem kFols_F {u : kS} {T Wd : Nat → Nat} {F a b : Nat} (h : F ≠ 10 ∧ F ≠ 11 ∧ F ≠ 12 ∧ F ≠ 13) : ∀ k, kFols u T Wd k F a b = u F a b
  | 0 => rfl
  | k + 1 => by
    show kFol _ _ _ _ F a b = _
    rw [kFol_F h]
    exact kFols_F h k
/-- the log cut at fl, what followed from its records forgotten -/
def kCut (u : kS) (fl : Nat) : kS := kfl (kfl (kfl (ku u 14 0 0 (nI fl)) 11 8 0) 12 8 0) 13 8 0
theorem kCut_F {u : kS} {fl F a b : Nat} (h : F ≠ 14 ∧ F ≠ 11 ∧ F ≠ 12 ∧ F ≠ 13) : kCut u fl F a b = u F a b := by
  obtain ⟨h0, h1, h2, h3⟩ := h
  simp [kCut, kfl, ku, h0, h1, h2, h3]
set_option maxHeartbeats 4000000 in
set_option maxRecDepth 100000 in
/-- Log.dropUnflushed -/
theorem c_X1_dropUnflushed (l : Launch) (D : va_G) (c : Nat → ClassId) (ad : Nat → Nat → Nat) (n : Nat) (u : kS) (fl : Nat) (T Wd : Nat → Nat) (hf : u 15 0 0 = nI fl) (hl : fl ≤ 400) (hT : ∀ i, i ≤ fl → 1 ≤ i → u 9 i 1 = nI (T i) ∧ T i < 8) (hW : ∀ i, i ≤ fl → 1 ≤ i → u 9 i 0 = 1 → u 9 i 6 = nI (Wd i)) (hW4 : ∀ i, Wd i ≤ 400) : kC l D c ad n yX1_dropUnflushed (Cond.code yX1_dropUnflushed cX1_dropUnflushed 3 (some .int)) 2 45 u [.ref (ad 2 0)] (fun v u9 => v = some (.int (u 14 0 0 - u 15 0 0)) ∧ u9 = kFols (kCut u fl) T Wd fl) := by
  refine kC.mk (by decide) (by simp [Value.category]) (Nat.le_of_ble_eq_true rfl) ?_
  intro p e s m args below meth c9 cx hr
  refine kg_aload_n cx dX1_dropUnflushed_0 rfl ?_
  refine kg_get (ci := 1) cx 2 5 kfs_X1 rfl (by decide) rfl rfl kf_X1_32 dX1_dropUnflushed_1 ?_
  refine kg_aload_n cx dX1_dropUnflushed_4 rfl ?_
  refine kg_get (ci := 1) cx 2 6 kfs_X1 rfl (by decide) rfl rfl kf_X1_44 dX1_dropUnflushed_5 ?_
  refine kg_isub cx dX1_dropUnflushed_8 ?_
  refine kg_istore_n cx dX1_dropUnflushed_9 (by decide) ?_
  refine kg_aload_n cx dX1_dropUnflushed_10 rfl ?_
  refine kg_aload_n cx dX1_dropUnflushed_11 rfl ?_
  refine kg_get (ci := 1) cx 2 6 kfs_X1 rfl (by decide) rfl rfl kf_X1_44 dX1_dropUnflushed_12 ?_
  refine kg_top (nI fl) (hf) ?_
  refine kg_put (ci := 1) (ty := .int) cx 2 5 kfs_X1 tyX1 tyX1_ok nmX1 rfl (by decide) rfl (Nat.le_of_ble_eq_true rfl) kf_X1_32 rfl (by decide +kernel) rfl rfl (ks_size _) dX1_dropUnflushed_15 ?_
  refine kg_aload_n cx dX1_dropUnflushed_18 rfl ?_
  refine kg_get (ci := 1) cx 2 2 kfs_X1 rfl (by decide) rfl rfl kf_X1_19 dX1_dropUnflushed_19 ?_
  refine kg_iconst (v := 0) cx dX1_dropUnflushed_22 (by decide) ?_
  refine kg_callS (na := 2) cx (c_fill l D c (q0 := 9) 0 rfl (by decide)) kcd_J7_fill_53178 km_X1_55 kin_J7 kst_J7_fill_53178 (by decide +kernel) rfl (by decide) (by decide) rfl (Nat.le_of_ble_eq_true rfl) dX1_dropUnflushed_23 (fun _ => k_set_adr (q := 9) rfl) (fun v9 u9 h9 => ?_)
  obtain rfl := h9
  refine kg_eq (ks_fill_lastUpdate 8 0) rfl rfl rfl ?_
  refine kg_aload_n cx dX1_dropUnflushed_26 rfl ?_
  refine kg_get (ci := 1) cx 2 3 kfs_X1 rfl (by decide) rfl rfl kf_X1_22 dX1_dropUnflushed_27 ?_
  refine kg_iconst (v := 0) cx dX1_dropUnflushed_30 (by decide) ?_
  refine kg_callS (na := 2) cx (c_fill l D c (q0 := 10) 0 rfl (by decide)) kcd_J7_fill_53178 km_X1_55 kin_J7 kst_J7_fill_53178 (by decide +kernel) rfl (by decide) (by decide) rfl (Nat.le_of_ble_eq_true rfl) dX1_dropUnflushed_31 (fun _ => k_set_adr (q := 10) rfl) (fun v9 u9 h9 => ?_)
  obtain rfl := h9
  refine kg_eq (ks_fill_lastOver 8 0) rfl rfl rfl ?_
  refine kg_aload_n cx dX1_dropUnflushed_34 rfl ?_
  refine kg_get (ci := 1) cx 2 4 kfs_X1 rfl (by decide) rfl rfl kf_X1_25 dX1_dropUnflushed_35 ?_
  refine kg_iconst (v := 0) cx dX1_dropUnflushed_38 (by decide) ?_
  refine kg_callS (na := 2) cx (c_fill l D c (q0 := 11) 0 rfl (by decide)) kcd_J7_fill_53178 km_X1_55 kin_J7 kst_J7_fill_53178 (by decide +kernel) rfl (by decide) (by decide) rfl (Nat.le_of_ble_eq_true rfl) dX1_dropUnflushed_39 (fun _ => k_set_adr (q := 11) rfl) (fun v9 u9 h9 => ?_)
  obtain rfl := h9
  refine kg_eq (ks_fill_openUpdates 8 0) rfl rfl rfl ?_
  refine kg_iconst (v := 1) cx dX1_dropUnflushed_42 (by decide) ?_
  refine kg_istore_n cx dX1_dropUnflushed_43 (by decide) ?_
  have loop : ∀ (k i : Nat), fl - i = k → i ≤ fl → kgC p l e 2 45 s m args below meth c9 3 D c ad n u (fun v u9 => v = some (.int (u 14 0 0 - u 15 0 0)) ∧ u9 = kFols (kCut u fl) T Wd fl) (kFols (kCut u fl) T Wd i) 44 [some (.ref (ad 2 0)), some (.int (u 14 0 0 - u 15 0 0)), some (.int (nI (i + 1)))] [] := by
    intro k
    induction k with
    | zero =>
      intro i hk hi
      have e8 : i = fl := by omega
      subst e8
      refine kg_iload_n cx dX1_dropUnflushed_44 rfl ?_
      refine kg_aload_n cx dX1_dropUnflushed_45 rfl ?_
      refine kg_get (ci := 1) cx 2 5 kfs_X1 rfl (by decide) rfl rfl kf_X1_32 dX1_dropUnflushed_46 ?_
      refine kg_top (nI i) (by rw [kFols_F (by decide)]; simp [kCut, kfl, ku]) ?_
      refine kg_icmp_gt cx 63 dX1_dropUnflushed_49 (by decide) (fun h1 => ?_) (fun h1 => ?_)
      · refine kg_iload_n cx dX1_dropUnflushed_63 rfl ?_
        exact kg_ireturn cx hr (rfl) _ rfl (⟨rfl, rfl⟩) dX1_dropUnflushed_64
      · exact absurd (nI_lt (show i < i + 1 by omega) (by omega)) h1
    | succ k ih =>
      intro i hk hi
      refine kg_iload_n cx dX1_dropUnflushed_44 rfl ?_
      refine kg_aload_n cx dX1_dropUnflushed_45 rfl ?_
      refine kg_get (ci := 1) cx 2 5 kfs_X1 rfl (by decide) rfl rfl kf_X1_32 dX1_dropUnflushed_46 ?_
      refine kg_top (nI fl) (by rw [kFols_F (by decide)]; simp [kCut, kfl, ku]) ?_
      refine kg_icmp_gt cx 63 dX1_dropUnflushed_49 (by decide) (fun h1 => ?_) (fun h1 => ?_)
      · exact absurd h1 (nI_nlt (show i + 1 ≤ fl by omega) (by omega))
      · refine kg_aload_n cx dX1_dropUnflushed_52 rfl ?_
        refine kg_iload_n cx dX1_dropUnflushed_53 rfl ?_
        refine kg_callV (ci := 1) (na := 1) cx (c_X1_follow l D c ad n (kFols (kCut u fl) T Wd i) (i + 1) (T (i + 1)) (Wd (i + 1)) (by omega) (hT (i + 1) (by omega) (by omega)).2 (by rw [kFols_F (by decide), kCut_F (by decide)]; exact (hT (i + 1) (by omega) (by omega)).1) (hW4 _) (by rw [kFols_F (by decide), kCut_F (by decide), kFols_F (by decide), kCut_F (by decide)]; exact hW (i + 1) (by omega) (by omega))) 2 rfl rfl kcd_X1_follow km_X1_40 kin_X1 kim_X1_follow ksl_X1_follow (by decide +kernel) rfl (by decide) (by decide) rfl (Nat.le_of_ble_eq_true rfl) dX1_dropUnflushed_54 (fun _ => kw_adr _ _) (fun v9 u9 h9 => ?_)
        obtain ⟨rfl, h9⟩ := h9
        subst u9
        refine kg_iinc (v := nI (i + 1 + 1)) cx dX1_dropUnflushed_57 rfl (nI_1 _) (by decide) ?_
        refine kg_goto cx 44 dX1_dropUnflushed_60 (by decide) ?_
        exact ih (i + 1) (by omega) (by omega)
  exact loop fl 0 rfl (Nat.zero_le _)
