/-- a record behind the last one, as the reference lays it -/
def kRec (u : kS) (z : Nat) (k0 t1 : Int32) : kS := ku (kApp u (z + 1) k0 t1 (-1) (-1) (-1) (-1) (-1)) 22 (z + 1) 0 0
/-- .. an UNDO of the record i, where the number is x now -/
def kTell (u : kS) (i z : Nat) (x : Int32) : kS := ku (ku (ku (ku (ku (ku (kRec u z 1 (u 9 i 1)) 9 (z + 1) 2 (u 9 i 2)) 9 (z + 1) 3 (u 9 i 3)) 9 (z + 1) 4 x) 9 (z + 1) 5 (u 9 i 4)) 9 (z + 1) 6 (nI i)) 22 i 0 1
set_option maxHeartbeats 4000000 in
set_option maxRecDepth 100000 in
theorem r_record (l : Launch) (D : va_G) (c : Nat → ClassId) (rd : Nat → Nat) (u : kS) (k0 t1 : Int32) (z : Nat) (hs : u 14 0 0 = nI z) (hz : z < 400) : kR l D c rd yX4_record (Cond.code yX4_record cX4_record 3 (some .int)) 0 0 u [.ref (rd 0), .int k0, .int t1] (fun v u9 => v = some (.int (nI (z + 1))) ∧ u9 = kRec u z k0 t1) := by
  refine kR.mk (by decide) (by simp [Value.category]) (Nat.le_of_ble_eq_true rfl) ?_
  intro p e s m args below meth c9 cx hr
  refine kg_aload_n cx dX4_record_0 rfl ?_
  refine kg_dup cx dX4_record_1 rfl ?_
  refine kg_get (ci := 4) cx 0 11 kfs_X4 rfl (by decide) rfl rfl kf_X4_113 dX4_record_2 ?_
  refine kg_iconst (v := 1) cx dX4_record_5 (by decide) ?_
  refine kg_iadd cx dX4_record_6 ?_
  refine kg_top (nI (z + 1)) (by rw [hs]; exact nI_1 z) ?_
  refine kg_put (ci := 4) (ty := .int) cx 0 11 kfs_X4 tyX4 tyX4_ok nmX4 rfl (by decide) rfl (Nat.le_of_ble_eq_true rfl) kf_X4_113 rfl (by decide +kernel) rfl rfl (kq_records _) dX4_record_7 ?_
  refine kg_aload_n cx dX4_record_10 rfl ?_
  refine kg_get (ci := 4) cx 0 13 kfs_X4 rfl (by decide) rfl rfl kf_X4_35 dX4_record_11 ?_
  refine kg_aload_n cx dX4_record_14 rfl ?_
  refine kg_get (ci := 4) cx 0 11 kfs_X4 rfl (by decide) rfl rfl kf_X4_113 dX4_record_15 ?_
  refine kg_top (nI (z + 1)) (by simp [ku]) ?_
  refine kg_iload_n cx dX4_record_18 rfl ?_
  refine kg_iastN cx 9 0 (z + 1) rfl rfl (rfl) (by omega) (by decide) (kq_kind (z + 1) _) dX4_record_19 ?_
  refine kg_aload_n cx dX4_record_20 rfl ?_
  refine kg_get (ci := 4) cx 0 14 kfs_X4 rfl (by decide) rfl rfl kf_X4_38 dX4_record_21 ?_
  refine kg_aload_n cx dX4_record_24 rfl ?_
  refine kg_get (ci := 4) cx 0 11 kfs_X4 rfl (by decide) rfl rfl kf_X4_113 dX4_record_25 ?_
  refine kg_top (nI (z + 1)) (by simp [ku]) ?_
  refine kg_iload_n cx dX4_record_28 rfl ?_
  refine kg_iastN cx 10 0 (z + 1) rfl rfl (rfl) (by omega) (by decide) (kq_of (z + 1) _) dX4_record_29 ?_
  refine kg_aload_n cx dX4_record_30 rfl ?_
  refine kg_get (ci := 4) cx 0 15 kfs_X4 rfl (by decide) rfl rfl kf_X4_41 dX4_record_31 ?_
  refine kg_aload_n cx dX4_record_34 rfl ?_
  refine kg_get (ci := 4) cx 0 11 kfs_X4 rfl (by decide) rfl rfl kf_X4_113 dX4_record_35 ?_
  refine kg_top (nI (z + 1)) (by simp [ku]) ?_
  refine kg_iconst (v := (-1)) cx dX4_record_38 (by decide) ?_
  refine kg_iastN cx 11 0 (z + 1) rfl rfl (rfl) (by omega) (by decide) (kq_page (z + 1) _) dX4_record_39 ?_
  refine kg_aload_n cx dX4_record_40 rfl ?_
  refine kg_get (ci := 4) cx 0 16 kfs_X4 rfl (by decide) rfl rfl kf_X4_44 dX4_record_41 ?_
  refine kg_aload_n cx dX4_record_44 rfl ?_
  refine kg_get (ci := 4) cx 0 11 kfs_X4 rfl (by decide) rfl rfl kf_X4_113 dX4_record_45 ?_
  refine kg_top (nI (z + 1)) (by simp [ku]) ?_
  refine kg_iconst (v := (-1)) cx dX4_record_48 (by decide) ?_
  refine kg_iastN cx 12 0 (z + 1) rfl rfl (rfl) (by omega) (by decide) (kq_which (z + 1) _) dX4_record_49 ?_
  refine kg_aload_n cx dX4_record_50 rfl ?_
  refine kg_get (ci := 4) cx 0 17 kfs_X4 rfl (by decide) rfl rfl kf_X4_47 dX4_record_51 ?_
  refine kg_aload_n cx dX4_record_54 rfl ?_
  refine kg_get (ci := 4) cx 0 11 kfs_X4 rfl (by decide) rfl rfl kf_X4_113 dX4_record_55 ?_
  refine kg_top (nI (z + 1)) (by simp [ku]) ?_
  refine kg_iconst (v := (-1)) cx dX4_record_58 (by decide) ?_
  refine kg_iastN cx 13 0 (z + 1) rfl rfl (rfl) (by omega) (by decide) (kq_was (z + 1) _) dX4_record_59 ?_
  refine kg_aload_n cx dX4_record_60 rfl ?_
  refine kg_get (ci := 4) cx 0 18 kfs_X4 rfl (by decide) rfl rfl kf_X4_50 dX4_record_61 ?_
  refine kg_aload_n cx dX4_record_64 rfl ?_
  refine kg_get (ci := 4) cx 0 11 kfs_X4 rfl (by decide) rfl rfl kf_X4_113 dX4_record_65 ?_
  refine kg_top (nI (z + 1)) (by simp [ku]) ?_
  refine kg_iconst (v := (-1)) cx dX4_record_68 (by decide) ?_
  refine kg_iastN cx 14 0 (z + 1) rfl rfl (rfl) (by omega) (by decide) (kq_becomes (z + 1) _) dX4_record_69 ?_
  refine kg_aload_n cx dX4_record_70 rfl ?_
  refine kg_get (ci := 4) cx 0 19 kfs_X4 rfl (by decide) rfl rfl kf_X4_53 dX4_record_71 ?_
  refine kg_aload_n cx dX4_record_74 rfl ?_
  refine kg_get (ci := 4) cx 0 11 kfs_X4 rfl (by decide) rfl rfl kf_X4_113 dX4_record_75 ?_
  refine kg_top (nI (z + 1)) (by simp [ku]) ?_
  refine kg_iconst (v := (-1)) cx dX4_record_78 (by decide) ?_
  refine kg_iastN cx 15 0 (z + 1) rfl rfl (rfl) (by omega) (by decide) (kq_undoes (z + 1) _) dX4_record_79 ?_
  refine kg_aload_n cx dX4_record_80 rfl ?_
  refine kg_get (ci := 4) cx 0 20 kfs_X4 rfl (by decide) rfl rfl kf_X4_56 dX4_record_81 ?_
  refine kg_aload_n cx dX4_record_84 rfl ?_
  refine kg_get (ci := 4) cx 0 11 kfs_X4 rfl (by decide) rfl rfl kf_X4_113 dX4_record_85 ?_
  refine kg_top (nI (z + 1)) (by simp [ku]) ?_
  refine kg_iconst (v := 0) cx dX4_record_88 (by decide) ?_
  refine kg_zastN cx 16 1 (z + 1) rfl rfl (rfl) (by omega) (by decide) (by decide) (kq_isUndone (z + 1) _) dX4_record_89 ?_
  refine kg_aload_n cx dX4_record_90 rfl ?_
  refine kg_get (ci := 4) cx 0 11 kfs_X4 rfl (by decide) rfl rfl kf_X4_113 dX4_record_91 ?_
  refine kg_top (nI (z + 1)) (by simp [ku]) ?_
  exact kg_ireturn cx hr (rfl) _ rfl (⟨rfl, rfl⟩) dX4_record_94
set_option maxHeartbeats 4000000 in
set_option maxRecDepth 100000 in
theorem r_tellUndo (l : Launch) (D : va_G) (c : Nat → ClassId) (rd : Nat → Nat) (u : kS) (i : Nat) (x : Int32) (z : Nat) (hs : u 14 0 0 = nI z) (hz : z < 400) (hi : i ≤ z) : kR l D c rd yX4_tellUndo (Cond.code yX4_tellUndo cX4_tellUndo 4 (some .int)) 1 22 u [.ref (rd 0), .int (nI i), .int x] (fun v u9 => v = some (.int (nI (z + 1))) ∧ u9 = kTell u i z x) := by
  refine kR.mk (by decide) (by simp [Value.category]) (Nat.le_of_ble_eq_true rfl) ?_
  intro p e s m args below meth c9 cx hr
  refine kg_aload_n cx dX4_tellUndo_0 rfl ?_
  refine kg_iconst (v := 1) cx dX4_tellUndo_1 (by decide) ?_
  refine kg_aload_n cx dX4_tellUndo_2 rfl ?_
  refine kg_get (ci := 4) cx 0 14 kfs_X4 rfl (by decide) rfl rfl kf_X4_38 dX4_tellUndo_3 ?_
  refine kg_iload_n cx dX4_tellUndo_6 rfl ?_
  refine kg_ialdN cx 10 0 i rfl rfl (rfl) (by omega) (by decide) (rfl) dX4_tellUndo_7 ?_
  refine kg_callV (ci := 4) (na := 2) cx (r_record l D c rd u 1 (u 9 i 1) z hs hz) 0 rfl rfl kcd_X4_record km_X4_122 kin_X4 kim_X4_record ksl_X4_record (by decide +kernel) rfl (by decide) (by decide) rfl (Nat.le_of_ble_eq_true rfl) dX4_tellUndo_8 (fun _ => kr_adr _ _) (fun v9 u9 h9 => ?_)
  obtain ⟨rfl, h9⟩ := h9
  subst u9
  refine kg_istore_n cx dX4_tellUndo_11 (by decide) ?_
  refine kg_aload_n cx dX4_tellUndo_12 rfl ?_
  refine kg_get (ci := 4) cx 0 15 kfs_X4 rfl (by decide) rfl rfl kf_X4_41 dX4_tellUndo_13 ?_
  refine kg_iload_n cx dX4_tellUndo_16 rfl ?_
  refine kg_aload_n cx dX4_tellUndo_17 rfl ?_
  refine kg_get (ci := 4) cx 0 15 kfs_X4 rfl (by decide) rfl rfl kf_X4_41 dX4_tellUndo_18 ?_
  refine kg_iload_n cx dX4_tellUndo_21 rfl ?_
  refine kg_ialdN (v := (u 9 i 2)) cx 11 0 i rfl rfl (rfl) (by omega) (by decide) (by simp [kRec, kApp, ku, show i ≠ z + 1 by omega]) dX4_tellUndo_22 ?_
  refine kg_iastN cx 11 0 (z + 1) rfl rfl (rfl) (by omega) (by decide) (kq_page (z + 1) _) dX4_tellUndo_23 ?_
  refine kg_aload_n cx dX4_tellUndo_24 rfl ?_
  refine kg_get (ci := 4) cx 0 16 kfs_X4 rfl (by decide) rfl rfl kf_X4_44 dX4_tellUndo_25 ?_
  refine kg_iload_n cx dX4_tellUndo_28 rfl ?_
  refine kg_aload_n cx dX4_tellUndo_29 rfl ?_
  refine kg_get (ci := 4) cx 0 16 kfs_X4 rfl (by decide) rfl rfl kf_X4_44 dX4_tellUndo_30 ?_
  refine kg_iload_n cx dX4_tellUndo_33 rfl ?_
  refine kg_ialdN (v := (u 9 i 3)) cx 12 0 i rfl rfl (rfl) (by omega) (by decide) (by simp [kRec, kApp, ku, show i ≠ z + 1 by omega]) dX4_tellUndo_34 ?_
  refine kg_iastN cx 12 0 (z + 1) rfl rfl (rfl) (by omega) (by decide) (kq_which (z + 1) _) dX4_tellUndo_35 ?_
  refine kg_aload_n cx dX4_tellUndo_36 rfl ?_
  refine kg_get (ci := 4) cx 0 17 kfs_X4 rfl (by decide) rfl rfl kf_X4_47 dX4_tellUndo_37 ?_
  refine kg_iload_n cx dX4_tellUndo_40 rfl ?_
  refine kg_iload_n cx dX4_tellUndo_41 rfl ?_
  refine kg_iastN cx 13 0 (z + 1) rfl rfl (rfl) (by omega) (by decide) (kq_was (z + 1) _) dX4_tellUndo_42 ?_
  refine kg_aload_n cx dX4_tellUndo_43 rfl ?_
  refine kg_get (ci := 4) cx 0 18 kfs_X4 rfl (by decide) rfl rfl kf_X4_50 dX4_tellUndo_44 ?_
  refine kg_iload_n cx dX4_tellUndo_47 rfl ?_
  refine kg_aload_n cx dX4_tellUndo_48 rfl ?_
  refine kg_get (ci := 4) cx 0 17 kfs_X4 rfl (by decide) rfl rfl kf_X4_47 dX4_tellUndo_49 ?_
  refine kg_iload_n cx dX4_tellUndo_52 rfl ?_
  refine kg_ialdN (v := (u 9 i 4)) cx 13 0 i rfl rfl (rfl) (by omega) (by decide) (by simp [kRec, kApp, ku, show i ≠ z + 1 by omega]) dX4_tellUndo_53 ?_
  refine kg_iastN cx 14 0 (z + 1) rfl rfl (rfl) (by omega) (by decide) (kq_becomes (z + 1) _) dX4_tellUndo_54 ?_
  refine kg_aload_n cx dX4_tellUndo_55 rfl ?_
  refine kg_get (ci := 4) cx 0 19 kfs_X4 rfl (by decide) rfl rfl kf_X4_53 dX4_tellUndo_56 ?_
  refine kg_iload_n cx dX4_tellUndo_59 rfl ?_
  refine kg_iload_n cx dX4_tellUndo_60 rfl ?_
  refine kg_iastN cx 15 0 (z + 1) rfl rfl (rfl) (by omega) (by decide) (kq_undoes (z + 1) _) dX4_tellUndo_61 ?_
  refine kg_aload_n cx dX4_tellUndo_62 rfl ?_
  refine kg_get (ci := 4) cx 0 20 kfs_X4 rfl (by decide) rfl rfl kf_X4_56 dX4_tellUndo_63 ?_
  refine kg_iload_n cx dX4_tellUndo_66 rfl ?_
  refine kg_iconst (v := 1) cx dX4_tellUndo_67 (by decide) ?_
  refine kg_zastN cx 16 1 i rfl rfl (rfl) (by omega) (by decide) (by decide) (kq_isUndone i _) dX4_tellUndo_68 ?_
  refine kg_iload_n cx dX4_tellUndo_69 rfl ?_
  exact kg_ireturn cx hr (rfl) _ rfl (⟨rfl, rfl⟩) dX4_tellUndo_70
/-- the page pg is in the frame f, with pins (as the reference asks) -/
def kPinR (u : kS) (n : Nat) (pg : Int32) (f : Nat) : Prop := f < n ∧ u 1 f 0 = pg ∧ (∀ j, j < f → u 1 j 0 ≠ pg) ∧ 0 < u 2 f 0
theorem kLeast_eq {u : kS} {pg : Int32} {f g : Nat} (h1 : u 1 f 0 = pg) (h2 : ∀ j, j < f → u 1 j 0 ≠ pg) (h3 : u 1 g 0 = pg) (h4 : ∀ j, j < g → u 1 j 0 ≠ pg) : g = f := by
  rcases Nat.lt_trichotomy g f with q | q | q
  · exact absurd h3 (h2 g q)
  · exact q
  · exact absurd h1 (h4 f q)
set_option maxHeartbeats 4000000 in
set_option maxRecDepth 100000 in
theorem r_isPinned (l : Launch) (D : va_G) (c : Nat → ClassId) (rd : Nat → Nat) (n : Nat) (u : kS) (pg : Int32) (hn : n ≤ 8) (hF : u 21 0 0 = nI n) : kR l D c rd yX4_isPinned (Cond.code yX4_isPinned cX4_isPinned 3 (some .boolean)) 1 22 u [.ref (rd 0), .int pg] (fun v u9 => (((∃ f, kPinR u n pg f) ∧ v = some (.int 1)) ∨ ((¬ ∃ f, kPinR u n pg f) ∧ v = some (.int 0))) ∧ u9 = u) := by
  refine kR.mk (by decide) (by simp [Value.category]) (Nat.le_of_ble_eq_true rfl) ?_
  intro p e s m args below meth c9 cx hr
  refine kg_aload_n cx dX4_isPinned_0 rfl ?_
  refine kg_iload_n cx dX4_isPinned_1 rfl ?_
  refine kg_callV (ci := 4) (na := 1) cx (r_frameOf l D c rd n u pg hn hF) 0 rfl rfl kcd_X4_frameOf km_X4_89 kin_X4 kim_X4_frameOf ksl_X4_frameOf (by decide +kernel) rfl (by decide) (by decide) rfl (Nat.le_of_ble_eq_true rfl) dX4_isPinned_2 (fun _ => kr_adr _ _) (fun v9 u9 h9 => ?_)
  obtain ⟨⟨r9, rfl, hr9⟩, h9⟩ := h9
  subst u9
  rcases hr9 with ⟨f, hf, rfl, hpf, hlf⟩ | ⟨rfl, hno⟩
  · refine kg_istore_n cx dX4_isPinned_5 (by decide) ?_
    refine kg_iload_n cx dX4_isPinned_6 rfl ?_
    refine kg_if_lt cx 23 dX4_isPinned_7 (by decide) (fun h1 => ?_) (fun h1 => ?_)
    · exact absurd h1 (nI_pos (by omega))
    · refine kg_aload_n cx dX4_isPinned_10 rfl ?_
      refine kg_get (ci := 4) cx 0 7 kfs_X4 rfl (by decide) rfl rfl kf_X4_25 dX4_isPinned_11 ?_
      refine kg_iload_n cx dX4_isPinned_14 rfl ?_
      refine kg_ialdN cx 6 0 f rfl rfl (rfl) (by omega) (by decide) (rfl) dX4_isPinned_15 ?_
      refine kg_if_le cx 23 dX4_isPinned_16 (by decide) (fun h2 => ?_) (fun h2 => ?_)
      · refine kg_iconst (v := 0) cx dX4_isPinned_23 (by decide) ?_
        exact kg_ireturn cx hr (nar_0) _ rfl (⟨Or.inr ⟨fun ⟨g, g1, g2, g3, g4⟩ => by
            have e := kLeast_eq hpf hlf g2 g3
            subst e
            exact absurd g4 (Int32.not_lt.mpr h2), rfl⟩, rfl⟩) dX4_isPinned_24
      · refine kg_iconst (v := 1) cx dX4_isPinned_19 (by decide) ?_
        refine kg_goto cx 24 dX4_isPinned_20 (by decide) ?_
        exact kg_ireturn cx hr (nar_1) _ rfl (⟨Or.inl ⟨⟨f, hf, hpf, hlf, Int32.not_le.mp h2⟩, rfl⟩, rfl⟩) dX4_isPinned_24
  · refine kg_istore_n cx dX4_isPinned_5 (by decide) ?_
    refine kg_iload_n cx dX4_isPinned_6 rfl ?_
    refine kg_if_lt cx 23 dX4_isPinned_7 (by decide) (fun h1 => ?_) (fun h1 => ?_)
    · refine kg_iconst (v := 0) cx dX4_isPinned_23 (by decide) ?_
      exact kg_ireturn cx hr (nar_0) _ rfl (⟨Or.inr ⟨fun ⟨g, g1, g2, g3, g4⟩ => hno g g1 g2, rfl⟩, rfl⟩) dX4_isPinned_24
    · exact absurd (by decide) h1
/-- record i ends the transaction t; or is an UPDATE of it that is not undone -/
abbrev kFin (u : kS) (t : Int32) (i : Nat) : Prop := u 9 i 1 = t ∧ (u 9 i 0 = nI 2 ∨ u 9 i 0 = nI 3)
abbrev kUpd (u : kS) (t : Int32) (i : Nat) : Prop := u 9 i 1 = t ∧ u 9 i 0 = 0 ∧ u 22 i 0 = 0
def kLast (u : kS) (t : Int32) : Nat → Nat
  | 0 => 0
  | i + 1 => if kFin u t (i + 1) then 0 else if kUpd u t (i + 1) then i + 1 else kLast u t i
def kUof (u : kS) (t : Int32) : Nat → Nat → Nat
  | 0, d => d
  | i + 1, d => if kFin u t (i + 1) then d else kUof u t i (if kUpd u t (i + 1) then d + 1 else d)
def kNeed (u : kS) (z : Nat) : Nat → Nat
  | 0 => 0
  | t + 1 => if u 16 t 0 = 0 then kNeed u z t else kNeed u z t + 1 + kUof u (nI t) z 0
set_option maxHeartbeats 4000000 in
set_option maxRecDepth 100000 in
theorem r_lastOf (l : Launch) (D : va_G) (c : Nat → ClassId) (rd : Nat → Nat) (u : kS) (t : Int32) (z : Nat) (hs : u 14 0 0 = nI z) (hz : z ≤ 400) : kR l D c rd yX4_lastOf (Cond.code yX4_lastOf cX4_lastOf 3 (some .int)) 0 0 u [.ref (rd 0), .int t] (fun v u9 => v = some (.int (nI (kLast u t z))) ∧ u9 = u) := by
  refine kR.mk (by decide) (by simp [Value.category]) (Nat.le_of_ble_eq_true rfl) ?_
  intro p e s m args below meth c9 cx hr
  refine kg_aload_n cx dX4_lastOf_0 rfl ?_
  refine kg_get (ci := 4) cx 0 11 kfs_X4 rfl (by decide) rfl rfl kf_X4_113 dX4_lastOf_1 ?_
  refine kg_top (nI z) (hs) ?_
  refine kg_istore_n cx dX4_lastOf_4 (by decide) ?_
  have loop : ∀ (k : Nat), k ≤ z → kLast u t z = kLast u t k → kgR p l e 0 0 s m args below meth c9 3 D c rd u (fun v u9 => v = some (.int (nI (kLast u t z))) ∧ u9 = u) u 5 [some (.ref (rd 0)), some (.int t), some (.int (nI k))] [] := by
    intro k
    induction k with
    | zero =>
      intro hi he
      refine kg_iload_n cx dX4_lastOf_5 rfl ?_
      refine kg_if_le cx 77 dX4_lastOf_6 (by decide) (fun h1 => ?_) (fun h1 => ?_)
      · refine kg_iconst (v := 0) cx dX4_lastOf_77 (by decide) ?_
        exact kg_ireturn cx hr (rfl) _ rfl (⟨by rw [he]; rfl, rfl⟩) dX4_lastOf_78
      · exact absurd (Int32.le_refl _) h1
    | succ k ih =>
      intro hi he
      refine kg_iload_n cx dX4_lastOf_5 rfl ?_
      refine kg_if_le cx 77 dX4_lastOf_6 (by decide) (fun h1 => ?_) (fun h1 => ?_)
      · exact absurd h1 (nI_nle (by omega) (by omega))
      · refine kg_aload_n cx dX4_lastOf_9 rfl ?_
        refine kg_get (ci := 4) cx 0 14 kfs_X4 rfl (by decide) rfl rfl kf_X4_38 dX4_lastOf_10 ?_
        refine kg_iload_n cx dX4_lastOf_13 rfl ?_
        refine kg_ialdN cx 10 0 (k + 1) rfl rfl (rfl) (by omega) (by decide) (rfl) dX4_lastOf_14 ?_
        refine kg_iload_n cx dX4_lastOf_15 rfl ?_
        refine kg_icmp_ne cx 41 dX4_lastOf_16 (by decide) (fun h2 => ?_) (fun h2 => ?_)
        · refine kg_aload_n cx dX4_lastOf_41 rfl ?_
          refine kg_get (ci := 4) cx 0 14 kfs_X4 rfl (by decide) rfl rfl kf_X4_38 dX4_lastOf_42 ?_
          refine kg_iload_n cx dX4_lastOf_45 rfl ?_
          refine kg_ialdN cx 10 0 (k + 1) rfl rfl (rfl) (by omega) (by decide) (rfl) dX4_lastOf_46 ?_
          refine kg_iload_n cx dX4_lastOf_47 rfl ?_
          refine kg_icmp_ne cx 71 dX4_lastOf_48 (by decide) (fun h4 => ?_) (fun h4 => ?_)
          · refine kg_iinc (v := nI k) cx dX4_lastOf_71 rfl (pk_m1 k) (by decide) ?_
            refine kg_goto cx 5 dX4_lastOf_74 (by decide) ?_
            exact ih (by omega) (by rw [he]; show (if _ then _ else _) = _; rw [if_neg (fun q => h2 q.1), if_neg (fun q => h4 q.1)])
          · refine kg_aload_n cx dX4_lastOf_51 rfl ?_
            refine kg_get (ci := 4) cx 0 13 kfs_X4 rfl (by decide) rfl rfl kf_X4_35 dX4_lastOf_52 ?_
            refine kg_iload_n cx dX4_lastOf_55 rfl ?_
            refine kg_ialdN cx 9 0 (k + 1) rfl rfl (rfl) (by omega) (by decide) (rfl) dX4_lastOf_56 ?_
            refine kg_if_ne cx 71 dX4_lastOf_57 (by decide) (fun h5 => ?_) (fun h5 => ?_)
            · refine kg_iinc (v := nI k) cx dX4_lastOf_71 rfl (pk_m1 k) (by decide) ?_
              refine kg_goto cx 5 dX4_lastOf_74 (by decide) ?_
              exact ih (by omega) (by rw [he]; show (if _ then _ else _) = _; rw [if_neg (fun q => h2 q.1), if_neg (fun q => h5 q.2.1)])
            · refine kg_aload_n cx dX4_lastOf_60 rfl ?_
              refine kg_get (ci := 4) cx 0 20 kfs_X4 rfl (by decide) rfl rfl kf_X4_56 dX4_lastOf_61 ?_
              refine kg_iload_n cx dX4_lastOf_64 rfl ?_
              refine kg_zaldN cx 16 1 (k + 1) rfl rfl (rfl) (by omega) (by decide) (rfl) dX4_lastOf_65 ?_
              refine kg_if_ne cx 71 dX4_lastOf_66 (by decide) (fun h6 => ?_) (fun h6 => ?_)
              · refine kg_iinc (v := nI k) cx dX4_lastOf_71 rfl (pk_m1 k) (by decide) ?_
                refine kg_goto cx 5 dX4_lastOf_74 (by decide) ?_
                exact ih (by omega) (by rw [he]; show (if _ then _ else _) = _; rw [if_neg (fun q => h2 q.1), if_neg (fun q => h6 q.2.2)])
              · refine kg_iload_n cx dX4_lastOf_69 rfl ?_
                exact kg_ireturn cx hr (rfl) _ rfl (⟨by rw [he]; show _ = some (Value.int (nI (if _ then _ else _))); rw [if_neg (fun q => h2 q.1), if_pos ⟨h4, h5, h6⟩], rfl⟩) dX4_lastOf_70
        · refine kg_aload_n cx dX4_lastOf_19 rfl ?_
          refine kg_get (ci := 4) cx 0 13 kfs_X4 rfl (by decide) rfl rfl kf_X4_35 dX4_lastOf_20 ?_
          refine kg_iload_n cx dX4_lastOf_23 rfl ?_
          refine kg_ialdN cx 9 0 (k + 1) rfl rfl (rfl) (by omega) (by decide) (rfl) dX4_lastOf_24 ?_
          refine kg_iconst (v := (nI 2)) cx dX4_lastOf_25 (by decide) ?_
          refine kg_icmp_eq cx 39 dX4_lastOf_26 (by decide) (fun h3 => ?_) (fun h3 => ?_)
          · refine kg_iconst (v := 0) cx dX4_lastOf_39 (by decide) ?_
            exact kg_ireturn cx hr (rfl) _ rfl (⟨by rw [he]; show some (Value.int (nI 0)) = some (Value.int (nI (if _ then _ else _))); rw [if_pos (⟨h2, Or.inl h3⟩)], rfl⟩) dX4_lastOf_40
          · refine kg_aload_n cx dX4_lastOf_29 rfl ?_
            refine kg_get (ci := 4) cx 0 13 kfs_X4 rfl (by decide) rfl rfl kf_X4_35 dX4_lastOf_30 ?_
            refine kg_iload_n cx dX4_lastOf_33 rfl ?_
            refine kg_ialdN cx 9 0 (k + 1) rfl rfl (rfl) (by omega) (by decide) (rfl) dX4_lastOf_34 ?_
            refine kg_iconst (v := (nI 3)) cx dX4_lastOf_35 (by decide) ?_
            refine kg_icmp_ne cx 41 dX4_lastOf_36 (by decide) (fun h7 => ?_) (fun h7 => ?_)
            · refine kg_aload_n cx dX4_lastOf_41 rfl ?_
              refine kg_get (ci := 4) cx 0 14 kfs_X4 rfl (by decide) rfl rfl kf_X4_38 dX4_lastOf_42 ?_
              refine kg_iload_n cx dX4_lastOf_45 rfl ?_
              refine kg_ialdN cx 10 0 (k + 1) rfl rfl (rfl) (by omega) (by decide) (rfl) dX4_lastOf_46 ?_
              refine kg_iload_n cx dX4_lastOf_47 rfl ?_
              refine kg_icmp_ne cx 71 dX4_lastOf_48 (by decide) (fun h4 => ?_) (fun h4 => ?_)
              · refine kg_iinc (v := nI k) cx dX4_lastOf_71 rfl (pk_m1 k) (by decide) ?_
                refine kg_goto cx 5 dX4_lastOf_74 (by decide) ?_
                exact ih (by omega) (by rw [he]; show (if _ then _ else _) = _; rw [if_neg (fun q => q.2.elim h3 h7), if_neg (fun q => h4 q.1)])
              · refine kg_aload_n cx dX4_lastOf_51 rfl ?_
                refine kg_get (ci := 4) cx 0 13 kfs_X4 rfl (by decide) rfl rfl kf_X4_35 dX4_lastOf_52 ?_
                refine kg_iload_n cx dX4_lastOf_55 rfl ?_
                refine kg_ialdN cx 9 0 (k + 1) rfl rfl (rfl) (by omega) (by decide) (rfl) dX4_lastOf_56 ?_
                refine kg_if_ne cx 71 dX4_lastOf_57 (by decide) (fun h5 => ?_) (fun h5 => ?_)
                · refine kg_iinc (v := nI k) cx dX4_lastOf_71 rfl (pk_m1 k) (by decide) ?_
                  refine kg_goto cx 5 dX4_lastOf_74 (by decide) ?_
                  exact ih (by omega) (by rw [he]; show (if _ then _ else _) = _; rw [if_neg (fun q => q.2.elim h3 h7), if_neg (fun q => h5 q.2.1)])
                · refine kg_aload_n cx dX4_lastOf_60 rfl ?_
                  refine kg_get (ci := 4) cx 0 20 kfs_X4 rfl (by decide) rfl rfl kf_X4_56 dX4_lastOf_61 ?_
                  refine kg_iload_n cx dX4_lastOf_64 rfl ?_
                  refine kg_zaldN cx 16 1 (k + 1) rfl rfl (rfl) (by omega) (by decide) (rfl) dX4_lastOf_65 ?_
                  refine kg_if_ne cx 71 dX4_lastOf_66 (by decide) (fun h6 => ?_) (fun h6 => ?_)
                  · refine kg_iinc (v := nI k) cx dX4_lastOf_71 rfl (pk_m1 k) (by decide) ?_
                    refine kg_goto cx 5 dX4_lastOf_74 (by decide) ?_
                    exact ih (by omega) (by rw [he]; show (if _ then _ else _) = _; rw [if_neg (fun q => q.2.elim h3 h7), if_neg (fun q => h6 q.2.2)])
                  · refine kg_iload_n cx dX4_lastOf_69 rfl ?_
                    exact kg_ireturn cx hr (rfl) _ rfl (⟨by rw [he]; show _ = some (Value.int (nI (if _ then _ else _))); rw [if_neg (fun q => q.2.elim h3 h7), if_pos ⟨h4, h5, h6⟩], rfl⟩) dX4_lastOf_70
            · refine kg_iconst (v := 0) cx dX4_lastOf_39 (by decide) ?_
              exact kg_ireturn cx hr (rfl) _ rfl (⟨by rw [he]; show some (Value.int (nI 0)) = some (Value.int (nI (if _ then _ else _))); rw [if_pos (⟨h2, Or.inr h7⟩)], rfl⟩) dX4_lastOf_40
  exact loop z (Nat.le_refl _) rfl
set_option maxHeartbeats 4000000 in
set_option maxRecDepth 100000 in
theorem r_undosOf (l : Launch) (D : va_G) (c : Nat → ClassId) (rd : Nat → Nat) (u : kS) (t : Int32) (z : Nat) (hs : u 14 0 0 = nI z) (hz : z ≤ 400) : kR l D c rd yX4_undosOf (Cond.code yX4_undosOf cX4_undosOf 4 (some .int)) 0 0 u [.ref (rd 0), .int t] (fun v u9 => v = some (.int (nI (kUof u t z 0))) ∧ u9 = u) := by
  refine kR.mk (by decide) (by simp [Value.category]) (Nat.le_of_ble_eq_true rfl) ?_
  intro p e s m args below meth c9 cx hr
  refine kg_iconst (v := 0) cx dX4_undosOf_0 (by decide) ?_
  refine kg_istore_n cx dX4_undosOf_1 (by decide) ?_
  refine kg_aload_n cx dX4_undosOf_2 rfl ?_
  refine kg_get (ci := 4) cx 0 11 kfs_X4 rfl (by decide) rfl rfl kf_X4_113 dX4_undosOf_3 ?_
  refine kg_top (nI z) (hs) ?_
  refine kg_istore_n cx dX4_undosOf_6 (by decide) ?_
  have loop : ∀ (k d : Nat), k ≤ z → kUof u t z 0 = kUof u t k d → kgR p l e 0 0 s m args below meth c9 4 D c rd u (fun v u9 => v = some (.int (nI (kUof u t z 0))) ∧ u9 = u) u 7 [some (.ref (rd 0)), some (.int t), some (.int (nI d)), some (.int (nI k))] [] := by
    intro k
    induction k with
    | zero =>
      intro d hi he
      refine kg_iload_n cx dX4_undosOf_7 rfl ?_
      refine kg_if_le cx 85 dX4_undosOf_8 (by decide) (fun h1 => ?_) (fun h1 => ?_)
      · refine kg_iload_n cx dX4_undosOf_85 rfl ?_
        exact kg_ireturn cx hr (rfl) _ rfl (⟨by rw [he]; rfl, rfl⟩) dX4_undosOf_86
      · exact absurd (Int32.le_refl _) h1
    | succ k ih =>
      intro d hi he
      refine kg_iload_n cx dX4_undosOf_7 rfl ?_
      refine kg_if_le cx 85 dX4_undosOf_8 (by decide) (fun h1 => ?_) (fun h1 => ?_)
      · exact absurd h1 (nI_nle (by omega) (by omega))
      · refine kg_aload_n cx dX4_undosOf_11 rfl ?_
        refine kg_get (ci := 4) cx 0 14 kfs_X4 rfl (by decide) rfl rfl kf_X4_38 dX4_undosOf_12 ?_
        refine kg_iload_n cx dX4_undosOf_15 rfl ?_
        refine kg_ialdN cx 10 0 (k + 1) rfl rfl (rfl) (by omega) (by decide) (rfl) dX4_undosOf_16 ?_
        refine kg_iload_n cx dX4_undosOf_17 rfl ?_
        refine kg_icmp_ne cx 43 dX4_undosOf_18 (by decide) (fun h2 => ?_) (fun h2 => ?_)
        · refine kg_aload_n cx dX4_undosOf_43 rfl ?_
          refine kg_get (ci := 4) cx 0 14 kfs_X4 rfl (by decide) rfl rfl kf_X4_38 dX4_undosOf_44 ?_
          refine kg_iload_n cx dX4_undosOf_47 rfl ?_
          refine kg_ialdN cx 10 0 (k + 1) rfl rfl (rfl) (by omega) (by decide) (rfl) dX4_undosOf_48 ?_
          refine kg_iload_n cx dX4_undosOf_49 rfl ?_
          refine kg_icmp_ne cx 77 dX4_undosOf_50 (by decide) (fun h4 => ?_) (fun h4 => ?_)
          · refine kg_iload_n cx dX4_undosOf_77 rfl ?_
            refine kg_istore_n cx dX4_undosOf_78 (by decide) ?_
            refine kg_iinc (v := nI k) cx dX4_undosOf_79 rfl (pk_m1 k) (by decide) ?_
            refine kg_goto cx 7 dX4_undosOf_82 (by decide) ?_
            exact ih d (by omega) (by rw [he]; show (if _ then _ else _) = _; rw [if_neg (fun q => h2 q.1), if_neg (fun q => h4 q.1)])
          · refine kg_aload_n cx dX4_undosOf_53 rfl ?_
            refine kg_get (ci := 4) cx 0 13 kfs_X4 rfl (by decide) rfl rfl kf_X4_35 dX4_undosOf_54 ?_
            refine kg_iload_n cx dX4_undosOf_57 rfl ?_
            refine kg_ialdN cx 9 0 (k + 1) rfl rfl (rfl) (by omega) (by decide) (rfl) dX4_undosOf_58 ?_
            refine kg_if_ne cx 77 dX4_undosOf_59 (by decide) (fun h5 => ?_) (fun h5 => ?_)
            · refine kg_iload_n cx dX4_undosOf_77 rfl ?_
              refine kg_istore_n cx dX4_undosOf_78 (by decide) ?_
              refine kg_iinc (v := nI k) cx dX4_undosOf_79 rfl (pk_m1 k) (by decide) ?_
              refine kg_goto cx 7 dX4_undosOf_82 (by decide) ?_
              exact ih d (by omega) (by rw [he]; show (if _ then _ else _) = _; rw [if_neg (fun q => h2 q.1), if_neg (fun q => h5 q.2.1)])
            · refine kg_aload_n cx dX4_undosOf_62 rfl ?_
              refine kg_get (ci := 4) cx 0 20 kfs_X4 rfl (by decide) rfl rfl kf_X4_56 dX4_undosOf_63 ?_
              refine kg_iload_n cx dX4_undosOf_66 rfl ?_
              refine kg_zaldN cx 16 1 (k + 1) rfl rfl (rfl) (by omega) (by decide) (rfl) dX4_undosOf_67 ?_
              refine kg_if_ne cx 77 dX4_undosOf_68 (by decide) (fun h6 => ?_) (fun h6 => ?_)
              · refine kg_iload_n cx dX4_undosOf_77 rfl ?_
                refine kg_istore_n cx dX4_undosOf_78 (by decide) ?_
                refine kg_iinc (v := nI k) cx dX4_undosOf_79 rfl (pk_m1 k) (by decide) ?_
                refine kg_goto cx 7 dX4_undosOf_82 (by decide) ?_
                exact ih d (by omega) (by rw [he]; show (if _ then _ else _) = _; rw [if_neg (fun q => h2 q.1), if_neg (fun q => h6 q.2.2)])
              · refine kg_iload_n cx dX4_undosOf_71 rfl ?_
                refine kg_iconst (v := 1) cx dX4_undosOf_72 (by decide) ?_
                refine kg_iadd cx dX4_undosOf_73 ?_
                refine kg_top (nI (d + 1)) (nI_1 d) ?_
                refine kg_goto cx 78 dX4_undosOf_74 (by decide) ?_
                refine kg_istore_n cx dX4_undosOf_78 (by decide) ?_
                refine kg_iinc (v := nI k) cx dX4_undosOf_79 rfl (pk_m1 k) (by decide) ?_
                refine kg_goto cx 7 dX4_undosOf_82 (by decide) ?_
                exact ih (d + 1) (by omega) (by rw [he]; show (if _ then _ else _) = _; rw [if_neg (fun q => h2 q.1), if_pos ⟨h4, h5, h6⟩])
        · refine kg_aload_n cx dX4_undosOf_21 rfl ?_
          refine kg_get (ci := 4) cx 0 13 kfs_X4 rfl (by decide) rfl rfl kf_X4_35 dX4_undosOf_22 ?_
          refine kg_iload_n cx dX4_undosOf_25 rfl ?_
          refine kg_ialdN cx 9 0 (k + 1) rfl rfl (rfl) (by omega) (by decide) (rfl) dX4_undosOf_26 ?_
          refine kg_iconst (v := (nI 2)) cx dX4_undosOf_27 (by decide) ?_
          refine kg_icmp_eq cx 41 dX4_undosOf_28 (by decide) (fun h3 => ?_) (fun h3 => ?_)
          · refine kg_iload_n cx dX4_undosOf_41 rfl ?_
            exact kg_ireturn cx hr (rfl) _ rfl (⟨by rw [he]; show some (Value.int (nI d)) = some (Value.int (nI (if _ then _ else _))); rw [if_pos (⟨h2, Or.inl h3⟩)], rfl⟩) dX4_undosOf_42
          · refine kg_aload_n cx dX4_undosOf_31 rfl ?_
            refine kg_get (ci := 4) cx 0 13 kfs_X4 rfl (by decide) rfl rfl kf_X4_35 dX4_undosOf_32 ?_
            refine kg_iload_n cx dX4_undosOf_35 rfl ?_
            refine kg_ialdN cx 9 0 (k + 1) rfl rfl (rfl) (by omega) (by decide) (rfl) dX4_undosOf_36 ?_
            refine kg_iconst (v := (nI 3)) cx dX4_undosOf_37 (by decide) ?_
            refine kg_icmp_ne cx 43 dX4_undosOf_38 (by decide) (fun h7 => ?_) (fun h7 => ?_)
            · refine kg_aload_n cx dX4_undosOf_43 rfl ?_
              refine kg_get (ci := 4) cx 0 14 kfs_X4 rfl (by decide) rfl rfl kf_X4_38 dX4_undosOf_44 ?_
              refine kg_iload_n cx dX4_undosOf_47 rfl ?_
              refine kg_ialdN cx 10 0 (k + 1) rfl rfl (rfl) (by omega) (by decide) (rfl) dX4_undosOf_48 ?_
              refine kg_iload_n cx dX4_undosOf_49 rfl ?_
              refine kg_icmp_ne cx 77 dX4_undosOf_50 (by decide) (fun h4 => ?_) (fun h4 => ?_)
              · refine kg_iload_n cx dX4_undosOf_77 rfl ?_
                refine kg_istore_n cx dX4_undosOf_78 (by decide) ?_
                refine kg_iinc (v := nI k) cx dX4_undosOf_79 rfl (pk_m1 k) (by decide) ?_
                refine kg_goto cx 7 dX4_undosOf_82 (by decide) ?_
                exact ih d (by omega) (by rw [he]; show (if _ then _ else _) = _; rw [if_neg (fun q => q.2.elim h3 h7), if_neg (fun q => h4 q.1)])
              · refine kg_aload_n cx dX4_undosOf_53 rfl ?_
                refine kg_get (ci := 4) cx 0 13 kfs_X4 rfl (by decide) rfl rfl kf_X4_35 dX4_undosOf_54 ?_
                refine kg_iload_n cx dX4_undosOf_57 rfl ?_
                refine kg_ialdN cx 9 0 (k + 1) rfl rfl (rfl) (by omega) (by decide) (rfl) dX4_undosOf_58 ?_
                refine kg_if_ne cx 77 dX4_undosOf_59 (by decide) (fun h5 => ?_) (fun h5 => ?_)
                · refine kg_iload_n cx dX4_undosOf_77 rfl ?_
                  refine kg_istore_n cx dX4_undosOf_78 (by decide) ?_
                  refine kg_iinc (v := nI k) cx dX4_undosOf_79 rfl (pk_m1 k) (by decide) ?_
                  refine kg_goto cx 7 dX4_undosOf_82 (by decide) ?_
                  exact ih d (by omega) (by rw [he]; show (if _ then _ else _) = _; rw [if_neg (fun q => q.2.elim h3 h7), if_neg (fun q => h5 q.2.1)])
                · refine kg_aload_n cx dX4_undosOf_62 rfl ?_
                  refine kg_get (ci := 4) cx 0 20 kfs_X4 rfl (by decide) rfl rfl kf_X4_56 dX4_undosOf_63 ?_
                  refine kg_iload_n cx dX4_undosOf_66 rfl ?_
                  refine kg_zaldN cx 16 1 (k + 1) rfl rfl (rfl) (by omega) (by decide) (rfl) dX4_undosOf_67 ?_
                  refine kg_if_ne cx 77 dX4_undosOf_68 (by decide) (fun h6 => ?_) (fun h6 => ?_)
                  · refine kg_iload_n cx dX4_undosOf_77 rfl ?_
                    refine kg_istore_n cx dX4_undosOf_78 (by decide) ?_
                    refine kg_iinc (v := nI k) cx dX4_undosOf_79 rfl (pk_m1 k) (by decide) ?_
                    refine kg_goto cx 7 dX4_undosOf_82 (by decide) ?_
                    exact ih d (by omega) (by rw [he]; show (if _ then _ else _) = _; rw [if_neg (fun q => q.2.elim h3 h7), if_neg (fun q => h6 q.2.2)])
                  · refine kg_iload_n cx dX4_undosOf_71 rfl ?_
                    refine kg_iconst (v := 1) cx dX4_undosOf_72 (by decide) ?_
                    refine kg_iadd cx dX4_undosOf_73 ?_
                    refine kg_top (nI (d + 1)) (nI_1 d) ?_
                    refine kg_goto cx 78 dX4_undosOf_74 (by decide) ?_
                    refine kg_istore_n cx dX4_undosOf_78 (by decide) ?_
                    refine kg_iinc (v := nI k) cx dX4_undosOf_79 rfl (pk_m1 k) (by decide) ?_
                    refine kg_goto cx 7 dX4_undosOf_82 (by decide) ?_
                    exact ih (d + 1) (by omega) (by rw [he]; show (if _ then _ else _) = _; rw [if_neg (fun q => q.2.elim h3 h7), if_pos ⟨h4, h5, h6⟩])
            · refine kg_iload_n cx dX4_undosOf_41 rfl ?_
              exact kg_ireturn cx hr (rfl) _ rfl (⟨by rw [he]; show some (Value.int (nI d)) = some (Value.int (nI (if _ then _ else _))); rw [if_pos (⟨h2, Or.inr h7⟩)], rfl⟩) dX4_undosOf_42
  exact loop z 0 (Nat.le_refl _) rfl
set_option maxHeartbeats 4000000 in
set_option maxRecDepth 100000 in
theorem r_needed (l : Launch) (D : va_G) (c : Nat → ClassId) (rd : Nat → Nat) (u : kS) (z : Nat) (hs : u 14 0 0 = nI z) (hz : z ≤ 400) : kR l D c rd yX4_needed (Cond.code yX4_needed cX4_needed 3 (some .int)) 1 23 u [.ref (rd 0)] (fun v u9 => v = some (.int (nI (kNeed u z 8))) ∧ u9 = u) := by
  refine kR.mk (by decide) (by simp [Value.category]) (Nat.le_of_ble_eq_true rfl) ?_
  intro p e s m args below meth c9 cx hr
  refine kg_iconst (v := 0) cx dX4_needed_0 (by decide) ?_
  refine kg_istore_n cx dX4_needed_1 (by decide) ?_
  refine kg_iconst (v := 0) cx dX4_needed_2 (by decide) ?_
  refine kg_istore_n cx dX4_needed_3 (by decide) ?_
  have loop : ∀ (k i : Nat), 8 - i = k → i ≤ 8 → kgR p l e 1 23 s m args below meth c9 3 D c rd u (fun v u9 => v = some (.int (nI (kNeed u z 8))) ∧ u9 = u) u 4 [some (.ref (rd 0)), some (.int (nI (kNeed u z i))), some (.int (nI i))] [] := by
    intro k
    induction k with
    | zero =>
      intro i hk hi
      have e8 : i = 8 := by omega
      subst i
      refine kg_iload_n cx dX4_needed_4 rfl ?_
      refine kg_bipush (v := (nI 8)) cx dX4_needed_5 (by decide) ?_
      refine kg_icmp_ge cx 39 dX4_needed_7 (by decide) (fun h1 => ?_) (fun h1 => ?_)
      · refine kg_iload_n cx dX4_needed_39 rfl ?_
        exact kg_ireturn cx hr (rfl) _ rfl (⟨rfl, rfl⟩) dX4_needed_40
      · exact absurd (Int32.le_refl _) h1
    | succ k ih =>
      intro i hk hi
      have hin : i < 8 := by omega
      refine kg_iload_n cx dX4_needed_4 rfl ?_
      refine kg_bipush (v := (nI 8)) cx dX4_needed_5 (by decide) ?_
      refine kg_icmp_ge cx 39 dX4_needed_7 (by decide) (fun h1 => ?_) (fun h1 => ?_)
      · exact absurd h1 (nI_ge hin (by omega))
      · refine kg_aload_n cx dX4_needed_10 rfl ?_
        refine kg_get (ci := 4) cx 0 21 kfs_X4 rfl (by decide) rfl rfl kf_X4_59 dX4_needed_11 ?_
        refine kg_iload_n cx dX4_needed_14 rfl ?_
        refine kg_zaldN cx 17 1 i rfl rfl (rfl) (hin) (by decide) (rfl) dX4_needed_15 ?_
        refine kg_if_eq cx 31 dX4_needed_16 (by decide) (fun h2 => ?_) (fun h2 => ?_)
        · refine kg_iload_n cx dX4_needed_31 rfl ?_
          refine kg_istore_n cx dX4_needed_32 (by decide) ?_
          refine kg_iinc (v := nI (i + 1)) cx dX4_needed_33 rfl (nI_1 i) (by decide) ?_
          refine kg_goto cx 4 dX4_needed_36 (by decide) ?_
          have e9 : kNeed u z (i + 1) = kNeed u z i := if_pos h2
          have := ih (i + 1) (by omega) (by omega)
          rw [e9] at this
          exact this
        · refine kg_iload_n cx dX4_needed_19 rfl ?_
          refine kg_iconst (v := 1) cx dX4_needed_20 (by decide) ?_
          refine kg_iadd cx dX4_needed_21 ?_
          refine kg_top (nI (kNeed u z i + 1)) (nI_1 _) ?_
          refine kg_aload_n cx dX4_needed_22 rfl ?_
          refine kg_iload_n cx dX4_needed_23 rfl ?_
          refine kg_callV (ci := 4) (na := 1) cx (r_undosOf l D c rd u (nI i) z hs hz) 0 rfl rfl kcd_X4_undosOf km_X4_116 kin_X4 kim_X4_undosOf ksl_X4_undosOf (by decide +kernel) rfl (by decide) (by decide) rfl (Nat.le_of_ble_eq_true rfl) dX4_needed_24 (fun _ => kr_adr _ _) (fun v9 u9 h9 => ?_)
          obtain ⟨rfl, h9⟩ := h9
          subst u9
          refine kg_iadd cx dX4_needed_27 ?_
          refine kg_top (nI (kNeed u z i + 1 + kUof u (nI i) z 0)) (nI_add _ _) ?_
          refine kg_goto cx 32 dX4_needed_28 (by decide) ?_
          refine kg_istore_n cx dX4_needed_32 (by decide) ?_
          refine kg_iinc (v := nI (i + 1)) cx dX4_needed_33 rfl (nI_1 i) (by decide) ?_
          refine kg_goto cx 4 dX4_needed_36 (by decide) ?_
          have e9 : kNeed u z (i + 1) = kNeed u z i + 1 + kUof u (nI i) z 0 := if_neg h2
          have := ih (i + 1) (by omega) (by omega)
          rw [e9] at this
          exact this
  exact loop 8 0 rfl (by decide)
/-- whether the last record of t, of the first i, is an UPDATE or UNDO -/
def kIso (u : kS) (t : Int32) : Nat → Int32
  | 0 => 0
  | i + 1 => if u 9 (i + 1) 1 = t then kb (u 9 (i + 1) 0 < nI 2) else kIso u t i
theorem kIso_nar (u : kS) (t : Int32) : ∀ i, narrow .boolean (.int (kIso u t i)) = .int (kIso u t i)
  | 0 => nar_0
  | i + 1 => by
    unfold kIso
    split
    · exact kb_nar _
    · exact kIso_nar u t i
/-- whether no COMMIT or END of its transaction is among the k records behind record i -/
def kIsl (u : kS) (i : Nat) : Nat → Int32
  | 0 => 1
  | k + 1 => kb (kIsl u i k ≠ 0 ∧ (u 9 (i + k + 1) 1 ≠ u 9 i 1 ∨ u 9 (i + k + 1) 0 < nI 2))
theorem kIsl_nar (u : kS) (i : Nat) : ∀ k, narrow .boolean (.int (kIsl u i k)) = .int (kIsl u i k)
  | 0 => nar_1
  | k + 1 => kb_nar _
set_option maxHeartbeats 4000000 in
set_option maxRecDepth 100000 in
theorem r_isOpen (l : Launch) (D : va_G) (c : Nat → ClassId) (rd : Nat → Nat) (u : kS) (t : Int32) (z : Nat) (hs : u 14 0 0 = nI z) (hz : z ≤ 400) : kR l D c rd yX4_isOpen (Cond.code yX4_isOpen cX4_isOpen 4 (some .boolean)) 0 0 u [.ref (rd 0), .int t] (fun v u9 => v = some (.int (kIso u t z)) ∧ u9 = u) := by
  refine kR.mk (by decide) (by simp [Value.category]) (Nat.le_of_ble_eq_true rfl) ?_
  intro p e s m args below meth c9 cx hr
  refine kg_iconst (v := 0) cx dX4_isOpen_0 (by decide) ?_
  refine kg_istore_n cx dX4_isOpen_1 (by decide) ?_
  refine kg_iconst (v := 1) cx dX4_isOpen_2 (by decide) ?_
  refine kg_istore_n cx dX4_isOpen_3 (by decide) ?_
  have loop : ∀ (k i : Nat), z - i = k → i ≤ z → kgR p l e 0 0 s m args below meth c9 4 D c rd u (fun v u9 => v = some (.int (kIso u t z)) ∧ u9 = u) u 4 [some (.ref (rd 0)), some (.int t), some (.int (kIso u t i)), some (.int (nI (i + 1)))] [] := by
    intro k
    induction k with
    | zero =>
      intro i hk hi
      have e8 : i = z := by omega
      subst i
      refine kg_iload_n cx dX4_isOpen_4 rfl ?_
      refine kg_aload_n cx dX4_isOpen_5 rfl ?_
      refine kg_get (ci := 4) cx 0 11 kfs_X4 rfl (by decide) rfl rfl kf_X4_113 dX4_isOpen_6 ?_
      refine kg_top (nI z) (hs) ?_
      refine kg_icmp_gt cx 44 dX4_isOpen_9 (by decide) (fun h1 => ?_) (fun h1 => ?_)
      · refine kg_iload_n cx dX4_isOpen_44 rfl ?_
        exact kg_ireturn cx hr (kIso_nar _ _ _) _ rfl (⟨rfl, rfl⟩) dX4_isOpen_45
      · exact absurd (nI_lt (show z < z + 1 by omega) (by omega)) h1
    | succ k ih =>
      intro i hk hi
      refine kg_iload_n cx dX4_isOpen_4 rfl ?_
      refine kg_aload_n cx dX4_isOpen_5 rfl ?_
      refine kg_get (ci := 4) cx 0 11 kfs_X4 rfl (by decide) rfl rfl kf_X4_113 dX4_isOpen_6 ?_
      refine kg_top (nI z) (hs) ?_
      refine kg_icmp_gt cx 44 dX4_isOpen_9 (by decide) (fun h1 => ?_) (fun h1 => ?_)
      · exact absurd h1 (nI_nlt (show i + 1 ≤ z by omega) (by omega))
      · refine kg_aload_n cx dX4_isOpen_12 rfl ?_
        refine kg_get (ci := 4) cx 0 14 kfs_X4 rfl (by decide) rfl rfl kf_X4_38 dX4_isOpen_13 ?_
        refine kg_iload_n cx dX4_isOpen_16 rfl ?_
        refine kg_ialdN cx 10 0 (i + 1) rfl rfl (rfl) (by omega) (by decide) (rfl) dX4_isOpen_17 ?_
        refine kg_iload_n cx dX4_isOpen_18 rfl ?_
        refine kg_icmp_ne cx 38 dX4_isOpen_19 (by decide) (fun h2 => ?_) (fun h2 => ?_)
        · refine kg_iinc (v := nI (i + 1 + 1)) cx dX4_isOpen_38 rfl (nI_1 _) (by decide) ?_
          refine kg_goto cx 4 dX4_isOpen_41 (by decide) ?_
          have e9 : kIso u t (i + 1) = kIso u t i := if_neg h2
          have := ih (i + 1) (by omega) (by omega)
          rw [e9] at this
          exact this
        · refine kg_aload_n cx dX4_isOpen_22 rfl ?_
          refine kg_get (ci := 4) cx 0 13 kfs_X4 rfl (by decide) rfl rfl kf_X4_35 dX4_isOpen_23 ?_
          refine kg_iload_n cx dX4_isOpen_26 rfl ?_
          refine kg_ialdN cx 9 0 (i + 1) rfl rfl (rfl) (by omega) (by decide) (rfl) dX4_isOpen_27 ?_
          refine kg_iconst (v := (nI 2)) cx dX4_isOpen_28 (by decide) ?_
          refine kg_icmp_ge cx 36 dX4_isOpen_29 (by decide) (fun h3 => ?_) (fun h3 => ?_)
          · refine kg_iconst (v := 0) cx dX4_isOpen_36 (by decide) ?_
            refine kg_istore_n cx dX4_isOpen_37 (by decide) ?_
            refine kg_iinc (v := nI (i + 1 + 1)) cx dX4_isOpen_38 rfl (nI_1 _) (by decide) ?_
            refine kg_goto cx 4 dX4_isOpen_41 (by decide) ?_
            have e9 : kIso u t (i + 1) = 0 := by show (if _ then _ else _) = _; rw [if_pos h2]; exact kb_0 (Int32.not_lt.mpr h3)
            have := ih (i + 1) (by omega) (by omega)
            rw [e9] at this
            exact this
          · refine kg_iconst (v := 1) cx dX4_isOpen_32 (by decide) ?_
            refine kg_goto cx 37 dX4_isOpen_33 (by decide) ?_
            refine kg_istore_n cx dX4_isOpen_37 (by decide) ?_
            refine kg_iinc (v := nI (i + 1 + 1)) cx dX4_isOpen_38 rfl (nI_1 _) (by decide) ?_
            refine kg_goto cx 4 dX4_isOpen_41 (by decide) ?_
            have e9 : kIso u t (i + 1) = 1 := by show (if _ then _ else _) = _; rw [if_pos h2]; exact kb_1 (Int32.not_le.mp h3)
            have := ih (i + 1) (by omega) (by omega)
            rw [e9] at this
            exact this
  exact loop z 0 rfl (Nat.zero_le _)
set_option maxHeartbeats 4000000 in
set_option maxRecDepth 100000 in
theorem r_isLatest (l : Launch) (D : va_G) (c : Nat → ClassId) (rd : Nat → Nat) (u : kS) (i : Nat) (z : Nat) (hs : u 14 0 0 = nI z) (hz : z ≤ 400) (hi : i ≤ z) : kR l D c rd yX4_isLatest (Cond.code yX4_isLatest cX4_isLatest 4 (some .boolean)) 0 0 u [.ref (rd 0), .int (nI i)] (fun v u9 => v = some (.int (kIsl u i (z - i))) ∧ u9 = u) := by
  refine kR.mk (by decide) (by simp [Value.category]) (Nat.le_of_ble_eq_true rfl) ?_
  intro p e s m args below meth c9 cx hr
  refine kg_iconst (v := 1) cx dX4_isLatest_0 (by decide) ?_
  refine kg_istore_n cx dX4_isLatest_1 (by decide) ?_
  refine kg_iload_n cx dX4_isLatest_2 rfl ?_
  refine kg_iconst (v := 1) cx dX4_isLatest_3 (by decide) ?_
  refine kg_iadd cx dX4_isLatest_4 ?_
  refine kg_top (nI (i + 1)) (nI_1 i) ?_
  refine kg_istore_n cx dX4_isLatest_5 (by decide) ?_
  have loop : ∀ (k j : Nat), z - i - j = k → j ≤ z - i → kgR p l e 0 0 s m args below meth c9 4 D c rd u (fun v u9 => v = some (.int (kIsl u i (z - i))) ∧ u9 = u) u 6 [some (.ref (rd 0)), some (.int (nI i)), some (.int (kIsl u i j)), some (.int (nI (i + j + 1)))] [] := by
    intro k
    induction k with
    | zero =>
      intro j hk hj
      have e8 : j = z - i := by omega
      subst j
      refine kg_iload_n cx dX4_isLatest_6 rfl ?_
      refine kg_aload_n cx dX4_isLatest_7 rfl ?_
      refine kg_get (ci := 4) cx 0 11 kfs_X4 rfl (by decide) rfl rfl kf_X4_113 dX4_isLatest_8 ?_
      refine kg_top (nI z) (hs) ?_
      refine kg_icmp_gt cx 55 dX4_isLatest_11 (by decide) (fun h1 => ?_) (fun h1 => ?_)
      · refine kg_iload_n cx dX4_isLatest_55 rfl ?_
        exact kg_ireturn cx hr (kIsl_nar _ _ _) _ rfl (⟨rfl, rfl⟩) dX4_isLatest_56
      · exact absurd (nI_lt (show z < i + (z - i) + 1 by omega) (by omega)) h1
    | succ k ih =>
      intro j hk hj
      refine kg_iload_n cx dX4_isLatest_6 rfl ?_
      refine kg_aload_n cx dX4_isLatest_7 rfl ?_
      refine kg_get (ci := 4) cx 0 11 kfs_X4 rfl (by decide) rfl rfl kf_X4_113 dX4_isLatest_8 ?_
      refine kg_top (nI z) (hs) ?_
      refine kg_icmp_gt cx 55 dX4_isLatest_11 (by decide) (fun h1 => ?_) (fun h1 => ?_)
      · exact absurd h1 (nI_nlt (show i + j + 1 ≤ z by omega) (by omega))
      · refine kg_iload_n cx dX4_isLatest_14 rfl ?_
        refine kg_if_eq cx 47 dX4_isLatest_15 (by decide) (fun h2 => ?_) (fun h2 => ?_)
        · refine kg_iconst (v := 0) cx dX4_isLatest_47 (by decide) ?_
          refine kg_istore_n cx dX4_isLatest_48 (by decide) ?_
          refine kg_iinc (v := nI (i + (j + 1) + 1)) cx dX4_isLatest_49 rfl (nI_1 _) (by decide) ?_
          refine kg_goto cx 6 dX4_isLatest_52 (by decide) ?_
          have e9 : kIsl u i (j + 1) = 0 := kb_0 (fun q => q.1 h2)
          have := ih (j + 1) (by omega) (by omega)
          rw [e9] at this
          exact this
        · refine kg_aload_n cx dX4_isLatest_18 rfl ?_
          refine kg_get (ci := 4) cx 0 14 kfs_X4 rfl (by decide) rfl rfl kf_X4_38 dX4_isLatest_19 ?_
          refine kg_iload_n cx dX4_isLatest_22 rfl ?_
          refine kg_ialdN cx 10 0 (i + j + 1) rfl rfl (rfl) (by omega) (by decide) (rfl) dX4_isLatest_23 ?_
          refine kg_aload_n cx dX4_isLatest_24 rfl ?_
          refine kg_get (ci := 4) cx 0 14 kfs_X4 rfl (by decide) rfl rfl kf_X4_38 dX4_isLatest_25 ?_
          refine kg_iload_n cx dX4_isLatest_28 rfl ?_
          refine kg_ialdN cx 10 0 i rfl rfl (rfl) (by omega) (by decide) (rfl) dX4_isLatest_29 ?_
          refine kg_icmp_ne cx 43 dX4_isLatest_30 (by decide) (fun h3 => ?_) (fun h3 => ?_)
          · refine kg_iconst (v := 1) cx dX4_isLatest_43 (by decide) ?_
            refine kg_goto cx 48 dX4_isLatest_44 (by decide) ?_
            refine kg_istore_n cx dX4_isLatest_48 (by decide) ?_
            refine kg_iinc (v := nI (i + (j + 1) + 1)) cx dX4_isLatest_49 rfl (nI_1 _) (by decide) ?_
            refine kg_goto cx 6 dX4_isLatest_52 (by decide) ?_
            have e9 : kIsl u i (j + 1) = 1 := kb_1 ⟨h2, Or.inl h3⟩
            have := ih (j + 1) (by omega) (by omega)
            rw [e9] at this
            exact this
          · refine kg_aload_n cx dX4_isLatest_33 rfl ?_
            refine kg_get (ci := 4) cx 0 13 kfs_X4 rfl (by decide) rfl rfl kf_X4_35 dX4_isLatest_34 ?_
            refine kg_iload_n cx dX4_isLatest_37 rfl ?_
            refine kg_ialdN cx 9 0 (i + j + 1) rfl rfl (rfl) (by omega) (by decide) (rfl) dX4_isLatest_38 ?_
            refine kg_iconst (v := (nI 2)) cx dX4_isLatest_39 (by decide) ?_
            refine kg_icmp_ge cx 47 dX4_isLatest_40 (by decide) (fun h4 => ?_) (fun h4 => ?_)
            · refine kg_iconst (v := 0) cx dX4_isLatest_47 (by decide) ?_
              refine kg_istore_n cx dX4_isLatest_48 (by decide) ?_
              refine kg_iinc (v := nI (i + (j + 1) + 1)) cx dX4_isLatest_49 rfl (nI_1 _) (by decide) ?_
              refine kg_goto cx 6 dX4_isLatest_52 (by decide) ?_
              have e9 : kIsl u i (j + 1) = 0 := kb_0 (fun q => q.2.elim (fun q => q h3) (fun q => absurd q (Int32.not_lt.mpr h4)))
              have := ih (j + 1) (by omega) (by omega)
              rw [e9] at this
              exact this
            · refine kg_iconst (v := 1) cx dX4_isLatest_43 (by decide) ?_
              refine kg_goto cx 48 dX4_isLatest_44 (by decide) ?_
              refine kg_istore_n cx dX4_isLatest_48 (by decide) ?_
              refine kg_iinc (v := nI (i + (j + 1) + 1)) cx dX4_isLatest_49 rfl (nI_1 _) (by decide) ?_
              refine kg_goto cx 6 dX4_isLatest_52 (by decide) ?_
              have e9 : kIsl u i (j + 1) = 1 := kb_1 ⟨h2, Or.inr (Int32.not_le.mp h4)⟩
              have := ih (j + 1) (by omega) (by omega)
              rw [e9] at this
              exact this
  exact loop (z - i) 0 rfl (Nat.zero_le _)
/-- what the k records behind the flushed ones had undone is so no longer -/
def kLose (u : kS) (fl : Nat) : Nat → kS
  | 0 => u
  | k + 1 => if u 9 (fl + k + 1) 0 = 1 then ku (kLose u fl k) 22 (kNat (u 9 (fl + k + 1) 6)) 0 0 else kLose u fl k
theorem kLose_F {u : kS} {fl F a b : Nat} (h : F ≠ 22) : ∀ k, kLose u fl k F a b = u F a b
  | 0 => rfl
  | k + 1 => by
    unfold kLose
    split
    · rw [ku_F h]; exact kLose_F h k
    · exact kLose_F h k
set_option maxHeartbeats 4000000 in
set_option maxRecDepth 100000 in
theorem r_loseRecords (l : Launch) (D : va_G) (c : Nat → ClassId) (rd : Nat → Nat) (u : kS) (fl : Nat) (z : Nat) (hs : u 14 0 0 = nI z) (hz : z ≤ 400) (hf : u 15 0 0 = nI fl) (hfz : fl ≤ z) (hW : ∀ i, i ≤ z → 1 ≤ i → u 9 i 0 = 1 → ∃ w, w ≤ 400 ∧ u 9 i 6 = nI w) : kR l D c rd yX4_loseRecords (Cond.code yX4_loseRecords cX4_loseRecords 2 none) 0 0 u [.ref (rd 0)] (fun v u9 => v = none ∧ u9 = ku (kLose u fl (z - fl)) 14 0 0 (nI fl)) := by
  refine kR.mk (by decide) (by simp [Value.category]) (Nat.le_of_ble_eq_true rfl) ?_
  intro p e s m args below meth c9 cx hr
  refine kg_aload_n cx dX4_loseRecords_0 rfl ?_
  refine kg_get (ci := 4) cx 0 12 kfs_X4 rfl (by decide) rfl rfl kf_X4_72 dX4_loseRecords_1 ?_
  refine kg_top (nI fl) (hf) ?_
  refine kg_iconst (v := 1) cx dX4_loseRecords_4 (by decide) ?_
  refine kg_iadd cx dX4_loseRecords_5 ?_
  refine kg_top (nI (fl + 1)) (nI_1 fl) ?_
  refine kg_istore_n cx dX4_loseRecords_6 (by decide) ?_
  have loop : ∀ (k j : Nat), z - fl - j = k → j ≤ z - fl → kgR p l e 0 0 s m args below meth c9 2 D c rd u (fun v u9 => v = none ∧ u9 = ku (kLose u fl (z - fl)) 14 0 0 (nI fl)) (kLose u fl j) 7 [some (.ref (rd 0)), some (.int (nI (fl + j + 1)))] [] := by
    intro k
    induction k with
    | zero =>
      intro j hk hj
      have e8 : j = z - fl := by omega
      subst j
      refine kg_iload_n cx dX4_loseRecords_7 rfl ?_
      refine kg_aload_n cx dX4_loseRecords_8 rfl ?_
      refine kg_get (ci := 4) cx 0 11 kfs_X4 rfl (by decide) rfl rfl kf_X4_113 dX4_loseRecords_9 ?_
      refine kg_top (nI z) (by rw [kLose_F (by decide)]; exact hs) ?_
      refine kg_icmp_gt cx 43 dX4_loseRecords_12 (by decide) (fun h1 => ?_) (fun h1 => ?_)
      · refine kg_aload_n cx dX4_loseRecords_43 rfl ?_
        refine kg_aload_n cx dX4_loseRecords_44 rfl ?_
        refine kg_get (ci := 4) cx 0 12 kfs_X4 rfl (by decide) rfl rfl kf_X4_72 dX4_loseRecords_45 ?_
        refine kg_top (nI fl) (by rw [kLose_F (by decide)]; exact hf) ?_
        refine kg_put (ci := 4) (ty := .int) cx 0 11 kfs_X4 tyX4 tyX4_ok nmX4 rfl (by decide) rfl (Nat.le_of_ble_eq_true rfl) kf_X4_113 rfl (by decide +kernel) rfl rfl (kq_records _) dX4_loseRecords_48 ?_
        exact kg_return cx hr _ rfl (⟨rfl, rfl⟩) dX4_loseRecords_51
      · exact absurd (nI_lt (show z < fl + (z - fl) + 1 by omega) (by omega)) h1
    | succ k ih =>
      intro j hk hj
      refine kg_iload_n cx dX4_loseRecords_7 rfl ?_
      refine kg_aload_n cx dX4_loseRecords_8 rfl ?_
      refine kg_get (ci := 4) cx 0 11 kfs_X4 rfl (by decide) rfl rfl kf_X4_113 dX4_loseRecords_9 ?_
      refine kg_top (nI z) (by rw [kLose_F (by decide)]; exact hs) ?_
      refine kg_icmp_gt cx 43 dX4_loseRecords_12 (by decide) (fun h1 => ?_) (fun h1 => ?_)
      · exact absurd h1 (nI_nlt (show fl + j + 1 ≤ z by omega) (by omega))
      · refine kg_aload_n cx dX4_loseRecords_15 rfl ?_
        refine kg_get (ci := 4) cx 0 13 kfs_X4 rfl (by decide) rfl rfl kf_X4_35 dX4_loseRecords_16 ?_
        refine kg_iload_n cx dX4_loseRecords_19 rfl ?_
        refine kg_ialdN (v := (u 9 (fl + j + 1) 0)) cx 9 0 (fl + j + 1) rfl rfl (rfl) (by omega) (by decide) (kLose_F (by decide) j) dX4_loseRecords_20 ?_
        refine kg_iconst (v := 1) cx dX4_loseRecords_21 (by decide) ?_
        refine kg_icmp_ne cx 37 dX4_loseRecords_22 (by decide) (fun h2 => ?_) (fun h2 => ?_)
        · refine kg_iinc (v := nI (fl + (j + 1) + 1)) cx dX4_loseRecords_37 rfl (nI_1 _) (by decide) ?_
          refine kg_goto cx 7 dX4_loseRecords_40 (by decide) ?_
          have e9 : kLose u fl (j + 1) = kLose u fl j := if_neg h2
          have := ih (j + 1) (by omega) (by omega)
          rw [e9] at this
          exact this
        · obtain ⟨w9, hw1, hw2⟩ := hW (fl + j + 1) (by omega) (by omega) h2
          refine kg_aload_n cx dX4_loseRecords_25 rfl ?_
          refine kg_get (ci := 4) cx 0 20 kfs_X4 rfl (by decide) rfl rfl kf_X4_56 dX4_loseRecords_26 ?_
          refine kg_aload_n cx dX4_loseRecords_29 rfl ?_
          refine kg_get (ci := 4) cx 0 19 kfs_X4 rfl (by decide) rfl rfl kf_X4_53 dX4_loseRecords_30 ?_
          refine kg_iload_n cx dX4_loseRecords_33 rfl ?_
          refine kg_ialdN (v := (u 9 (fl + j + 1) 6)) cx 15 0 (fl + j + 1) rfl rfl (rfl) (by omega) (by decide) (kLose_F (by decide) j) dX4_loseRecords_34 ?_
          refine kg_top (nI w9) (hw2) ?_
          refine kg_iconst (v := 0) cx dX4_loseRecords_35 (by decide) ?_
          refine kg_zastN cx 16 1 w9 rfl rfl (rfl) (by omega) (by decide) (by decide) (kq_isUndone w9 _) dX4_loseRecords_36 ?_
          refine kg_iinc (v := nI (fl + (j + 1) + 1)) cx dX4_loseRecords_37 rfl (nI_1 _) (by decide) ?_
          refine kg_goto cx 7 dX4_loseRecords_40 (by decide) ?_
          have e9 : kLose u fl (j + 1) = ku (kLose u fl j) 22 w9 0 0 := by
            show (if _ then _ else _) = _
            rw [if_pos h2, hw2, kNat_n (by omega)]
          have := ih (j + 1) (by omega) (by omega)
          rw [e9] at this
          exact this
  exact loop (z - fl) 0 rfl (Nat.zero_le _)
