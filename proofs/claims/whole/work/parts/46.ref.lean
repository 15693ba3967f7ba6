theorem kBackR_F {u : kS} {f q F a b : Nat} (h : 9 ≤ F) : kBackR u f q F a b = u F a b := by
  have h0 : F ≠ 0 := by omega
  have h3 : F ≠ 3 := by omega
  have h7 : F ≠ 7 := by omega
  simp [kBackR, kcR, ku, h0, h3, h7]
theorem kTk_F {v : kS} {f F a b : Nat} (h : 9 ≤ F) : kTk v f F a b = v F a b := by
  unfold kTk
  split
  · rfl
  · exact kBackR_F h
theorem kRoomR_F {u : kS} {n h : Nat} {r : Int32} {u9 : kS} (hb : kRoomR u n h r u9) {F a b : Nat} (hF : 9 ≤ F) : u9 F a b = u F a b := by
  have h4 : F ≠ 4 := by omega
  have h6 : F ≠ 6 := by omega
  rcases hb with ⟨f, -, -, -, -, rfl⟩ | ⟨-, -, -, rfl⟩ | ⟨f, -, -, -, -, rfl⟩
  · rfl
  · rfl
  · rw [kTk_F hF, kTurn_F h4 h6]
theorem kLoadR_F {u : kS} {q f F a b : Nat} (h : 9 ≤ F) (h23 : F ≠ 23) : kLoadR u q f F a b = u F a b := by
  have h1 : F ≠ 1 := by omega
  have h2 : F ≠ 2 := by omega
  have h3 : F ≠ 3 := by omega
  have h5 : F ≠ 5 := by omega
  have h8 : F ≠ 8 := by omega
  simp [kLoadR, kLd0, kcN, ku, h1, h2, h3, h5, h8, h23]
theorem kBringR_F {u : kS} {n q h : Nat} {r : Int32} {u9 : kS} (hb : kBringR u n q h r u9) {F a b : Nat} (hF : 9 ≤ F) (h23 : F ≠ 23) : u9 F a b = u F a b := by
  have h4 : F ≠ 4 := by omega
  rcases hb with ⟨f, -, -, -, -, rfl⟩ | ⟨-, r1, u1, hr, ⟨-, -, rfl⟩ | ⟨f, -, -, -, rfl⟩⟩
  · rw [ku_F h4]
  · exact kRoomR_F hr hF
  · rw [ku_F h4, kLoadR_F hF h23, kRoomR_F hr hF]
/-- the UPDATE i, of the number k, is undone in the frame f, by the reference, behind z records -/
def kUndR (u : kS) (f i k z : Nat) : kS := ku (ku (ku (kTell u i z (u 23 f k)) 5 f 8 (nI (z + 1))) 23 f k (u 9 i 4)) 3 f 0 1
def kAbER (v : kS) (t z : Nat) : kS := ku (ku (kRec v z (nI 3) (nI t)) 16 t 0 0) 17 t 0 0
/-- what bring needs of the reference's frames -/
def kFrR (v : kS) (n h : Nat) : Prop := h < n ∧ v 6 0 0 = nI h ∧ (∀ f, f < n → v 3 f 0 ≠ 0 → ∃ q, q < 32 ∧ v 1 f 0 = nI q) ∧ ((∃ j, j < n ∧ kMay v j (v 15 0 0)) → ∃ f, (kTurn n (v 15 0 0) (2 * n) v h).2 = some f)
/-- J is kept while t is undone by the reference, and gives what each turn needs -/
def kAbJ (n t : Nat) (J : Nat → kS → Nat → Prop) : Prop :=
  ∀ k v d, J k v d → ∃ z, v 14 0 0 = nI z ∧ z < 400 ∧ v 21 0 0 = nI n ∧
    (kLast v (nI t) z = 0 ∨ ∃ i q k9 h, kLast v (nI t) z = i + 1 ∧ i < k ∧ i + 1 ≤ z ∧ q < 32 ∧ v 9 (i + 1) 2 = nI q ∧ k9 < 8 ∧ v 9 (i + 1) 3 = nI k9 ∧ kFrR v n h ∧ ∀ f u1, f < n → kBringR v n q h (nI f) u1 → J i (kUndR u1 f (i + 1) k9 z) (d + 1))
def kAbRes (n t : Nat) (J : Nat → kS → Nat → Prop) (r : Option Value) (u9 : kS) : Prop :=
  ∃ k v d z, J k v d ∧ v 14 0 0 = nI z ∧ z < 400 ∧ ((kLast v (nI t) z = 0 ∧ r = some (.int (nI d)) ∧ u9 = kAbER v t z) ∨ (∃ i q h u1, kLast v (nI t) z = i + 1 ∧ v 9 (i + 1) 2 = nI q ∧ q < 32 ∧ kFrR v n h ∧ kBringR v n q h (-1) u1 ∧ r = some (.int (-2)) ∧ u9 = u1))
set_option maxHeartbeats 4000000 in
set_option maxRecDepth 100000 in
theorem r_abort_bad (l : Launch) (D : va_G) (c : Nat → ClassId) (rd : Nat → Nat) (u : kS) (a : Int32) (hx : ¬ kIn a 8) : kR l D c rd yX4_abort (Cond.code yX4_abort cX4_abort 6 (some .int)) 3 67 u [.ref (rd 0), .int a] (fun v u9 => v = some (.int 0) ∧ u9 = ku u 20 0 0 1) := by
  refine kR.mk (by decide) (by simp [Value.category]) (Nat.le_of_ble_eq_true rfl) ?_
  intro p e s m args below meth c9 cx hr
  refine kg_aload_n cx dX4_abort_0 rfl ?_
  refine kg_iload_n cx dX4_abort_1 rfl ?_
  refine kg_iconst (v := 0) cx dX4_abort_2 (by decide) ?_
  refine kg_bipush (v := (nI 7)) cx dX4_abort_3 (by decide) ?_
  refine kg_callS (na := 3) cx (r_isIn l D c rd u a 0 (nI 7)) kcd_X4_isIn km_X4_100 kin_X4 kst_X4_isIn (by decide +kernel) rfl (by decide) (by decide) rfl (Nat.le_of_ble_eq_true rfl) dX4_abort_5 (fun _ => kr_adr _ _) (fun v9 u9 h9 => ?_)
  obtain ⟨rfl, h9⟩ := h9
  subst u9
  refine kg_top 0 (kb_0 (fun q9 => hx ((kIn_iff (by decide)).mp q9))) ?_
  refine kg_if_ne cx 15 dX4_abort_8 (by decide) (fun h9 => absurd h9 (by decide)) (fun h9 => ?_)
  refine kg_iconst (v := 1) cx dX4_abort_11 (by decide) ?_
  refine kg_goto cx 29 dX4_abort_12 (by decide) ?_
  refine kg_callV (ci := 4) (na := 1) cx (r_refused l D c rd u 1) 0 rfl rfl kcd_X4_refused km_X4_104 kin_X4 kim_X4_refused ksl_X4_refused (by decide +kernel) rfl (by decide) (by decide) rfl (Nat.le_of_ble_eq_true rfl) dX4_abort_29 (fun _ => kr_adr _ _) (fun v9 u9 h9 => ?_)
  obtain ⟨rfl, h9⟩ := h9
  subst u9
  refine kg_top 1 (kb_1 (by decide)) ?_
  refine kg_if_eq cx 37 dX4_abort_32 (by decide) (fun h9 => absurd h9 (by decide)) (fun h9 => ?_)
  refine kg_iconst (v := 0) cx dX4_abort_35 (by decide) ?_
  exact kg_ireturn cx hr (rfl) _ rfl (⟨rfl, rfl⟩) dX4_abort_36
set_option maxHeartbeats 4000000 in
set_option maxRecDepth 100000 in
theorem r_abort_bad2 (l : Launch) (D : va_G) (c : Nat → ClassId) (rd : Nat → Nat) (u : kS) (t : Nat) (ht : t < 8) (h1 : u 16 t 0 = 0) : kR l D c rd yX4_abort (Cond.code yX4_abort cX4_abort 6 (some .int)) 3 67 u [.ref (rd 0), .int (nI t)] (fun v u9 => v = some (.int 0) ∧ u9 = ku u 20 0 0 (nI 2)) := by
  refine kR.mk (by decide) (by simp [Value.category]) (Nat.le_of_ble_eq_true rfl) ?_
  intro p e s m args below meth c9 cx hr
  refine kg_aload_n cx dX4_abort_0 rfl ?_
  refine kg_iload_n cx dX4_abort_1 rfl ?_
  refine kg_iconst (v := 0) cx dX4_abort_2 (by decide) ?_
  refine kg_bipush (v := (nI 7)) cx dX4_abort_3 (by decide) ?_
  refine kg_callS (na := 3) cx (r_isIn l D c rd u (nI t) 0 (nI 7)) kcd_X4_isIn km_X4_100 kin_X4 kst_X4_isIn (by decide +kernel) rfl (by decide) (by decide) rfl (Nat.le_of_ble_eq_true rfl) dX4_abort_5 (fun _ => kr_adr _ _) (fun v9 u9 h9 => ?_)
  obtain ⟨rfl, h9⟩ := h9
  subst u9
  refine kg_top 1 (kb_1 ((kIn_iff (by decide)).mpr ⟨t, ht, rfl⟩)) ?_
  refine kg_if_ne cx 15 dX4_abort_8 (by decide) (fun h9 => ?_) (fun h9 => absurd h9 (by decide))
  refine kg_aload_n cx dX4_abort_15 rfl ?_
  refine kg_get (ci := 4) cx 0 21 kfs_X4 rfl (by decide) rfl rfl kf_X4_59 dX4_abort_16 ?_
  refine kg_iload_n cx dX4_abort_19 rfl ?_
  refine kg_zaldN cx 17 1 t rfl rfl (rfl) (ht) (by decide) (rfl) dX4_abort_20 ?_
  refine kg_if_ne cx 28 dX4_abort_21 (by decide) (fun h9 => absurd h1 h9) (fun h9 => ?_)
  refine kg_iconst (v := (nI 2)) cx dX4_abort_24 (by decide) ?_
  refine kg_goto cx 29 dX4_abort_25 (by decide) ?_
  refine kg_callV (ci := 4) (na := 1) cx (r_refused l D c rd u (nI 2)) 0 rfl rfl kcd_X4_refused km_X4_104 kin_X4 kim_X4_refused ksl_X4_refused (by decide +kernel) rfl (by decide) (by decide) rfl (Nat.le_of_ble_eq_true rfl) dX4_abort_29 (fun _ => kr_adr _ _) (fun v9 u9 h9 => ?_)
  obtain ⟨rfl, h9⟩ := h9
  subst u9
  refine kg_top 1 (kb_1 (by decide)) ?_
  refine kg_if_eq cx 37 dX4_abort_32 (by decide) (fun h9 => absurd h9 (by decide)) (fun h9 => ?_)
  refine kg_iconst (v := 0) cx dX4_abort_35 (by decide) ?_
  exact kg_ireturn cx hr (rfl) _ rfl (⟨rfl, rfl⟩) dX4_abort_36
set_option maxHeartbeats 4000000 in
set_option maxRecDepth 100000 in
theorem r_abort_ok (l : Launch) (D : va_G) (c : Nat → ClassId) (rd : Nat → Nat) (n : Nat) (u : kS) (w9 : kS) (hw : ku u 20 0 0 0 = w9) (hn : n ≤ 8) (t : Nat) (ht : t < 8) (h1 : u 16 t 0 ≠ 0) (J : Nat → kS → Nat → Prop) (hJ : kAbJ n t J) (k0 : Nat) (hJ0 : J k0 (ku w9 17 t 0 1) 0) : kR l D c rd yX4_abort (Cond.code yX4_abort cX4_abort 6 (some .int)) 3 67 u [.ref (rd 0), .int (nI t)] (fun v u9 => kAbRes n t J v u9) := by
  refine kR.mk (by decide) (by simp [Value.category]) (Nat.le_of_ble_eq_true rfl) ?_
  intro p e s m args below meth c9 cx hr
  refine kg_aload_n cx dX4_abort_0 rfl ?_
  refine kg_iload_n cx dX4_abort_1 rfl ?_
  refine kg_iconst (v := 0) cx dX4_abort_2 (by decide) ?_
  refine kg_bipush (v := (nI 7)) cx dX4_abort_3 (by decide) ?_
  refine kg_callS (na := 3) cx (r_isIn l D c rd u (nI t) 0 (nI 7)) kcd_X4_isIn km_X4_100 kin_X4 kst_X4_isIn (by decide +kernel) rfl (by decide) (by decide) rfl (Nat.le_of_ble_eq_true rfl) dX4_abort_5 (fun _ => kr_adr _ _) (fun v9 u9 h9 => ?_)
  obtain ⟨rfl, h9⟩ := h9
  subst u9
  refine kg_top 1 (kb_1 ((kIn_iff (by decide)).mpr ⟨t, ht, rfl⟩)) ?_
  refine kg_if_ne cx 15 dX4_abort_8 (by decide) (fun h9 => ?_) (fun h9 => absurd h9 (by decide))
  refine kg_aload_n cx dX4_abort_15 rfl ?_
  refine kg_get (ci := 4) cx 0 21 kfs_X4 rfl (by decide) rfl rfl kf_X4_59 dX4_abort_16 ?_
  refine kg_iload_n cx dX4_abort_19 rfl ?_
  refine kg_zaldN cx 17 1 t rfl rfl (rfl) (ht) (by decide) (rfl) dX4_abort_20 ?_
  refine kg_if_ne cx 28 dX4_abort_21 (by decide) (fun h9 => ?_) (fun h9 => absurd h9 h1)
  refine kg_iconst (v := 0) cx dX4_abort_28 (by decide) ?_
  refine kg_callV (ci := 4) (na := 1) cx (r_refused l D c rd u 0) 0 rfl rfl kcd_X4_refused km_X4_104 kin_X4 kim_X4_refused ksl_X4_refused (by decide +kernel) rfl (by decide) (by decide) rfl (Nat.le_of_ble_eq_true rfl) dX4_abort_29 (fun _ => kr_adr _ _) (fun v9 u9 h9 => ?_)
  obtain ⟨rfl, h9⟩ := h9
  subst u9
  refine kg_top 0 (kb_0 (by decide)) ?_
  refine kg_if_eq cx 37 dX4_abort_32 (by decide) (fun h9 => ?_) (fun h9 => absurd h9 (by decide))
  refine kg_eq (congrArg (kr rd c) hw) rfl rfl rfl ?_
  refine kg_aload_n cx dX4_abort_37 rfl ?_
  refine kg_get (ci := 4) cx 0 22 kfs_X4 rfl (by decide) rfl rfl kf_X4_62 dX4_abort_38 ?_
  refine kg_iload_n cx dX4_abort_41 rfl ?_
  refine kg_iconst (v := 1) cx dX4_abort_42 (by decide) ?_
  refine kg_zastN cx 18 1 t rfl rfl (rfl) (ht) (by decide) (by decide) (kq_isLeaving t _) dX4_abort_43 ?_
  refine kg_iconst (v := 0) cx dX4_abort_44 (by decide) ?_
  refine kg_istore_n cx dX4_abort_45 (by decide) ?_
  have loop : ∀ (k : Nat) (v : kS) (d z : Nat), J k v d → v 14 0 0 = nI z → z < 400 → kgR p l e 3 67 s m args below meth c9 6 D c rd u (fun v u9 => kAbRes n t J v u9) v 52 [some (.ref (rd 0)), some (.int (nI t)), some (.int (nI d)), some (.int (nI (kLast v (nI t) z))), none, none] [] := by
    intro k
    induction k using Nat.strongRecOn with
    | _ k ih =>
      intro v d z hj hz hz4
      obtain ⟨z9, hz9, hz94, hF, hc⟩ := hJ k v d hj
      have ez : z9 = z := (nI_eq (by omega) (by omega)).mp (hz9.symm.trans hz)
      subst ez
      rcases hc with hl0 | ⟨i, q, k9, h, hli, hik, hiz, hq, hq9, hk9, hk99, hfr, hnx⟩
      · refine kg_iload_n cx dX4_abort_52 rfl ?_
        refine kg_top (nI 0) (by rw [hl0]) ?_
        refine kg_if_le cx 142 dX4_abort_53 (by decide) (fun h9 => ?_) (fun h9 => absurd h9 (by decide))
        refine kg_aload_n cx dX4_abort_142 rfl ?_
        refine kg_iconst (v := (nI 3)) cx dX4_abort_143 (by decide) ?_
        refine kg_iload_n cx dX4_abort_144 rfl ?_
        refine kg_callV (ci := 4) (na := 2) cx (r_record l D c rd v (nI 3) (nI t) z9 hz9 hz4) 0 rfl rfl kcd_X4_record km_X4_122 kin_X4 kim_X4_record ksl_X4_record (by decide +kernel) rfl (by decide) (by decide) rfl (Nat.le_of_ble_eq_true rfl) dX4_abort_145 (fun _ => kr_adr _ _) (fun v9 u9 h9 => ?_)
        obtain ⟨rfl, h9⟩ := h9
        subst u9
        refine kg_istore_n cx dX4_abort_148 (by decide) ?_
        refine kg_aload_n cx dX4_abort_149 rfl ?_
        refine kg_get (ci := 4) cx 0 21 kfs_X4 rfl (by decide) rfl rfl kf_X4_59 dX4_abort_150 ?_
        refine kg_iload_n cx dX4_abort_153 rfl ?_
        refine kg_iconst (v := 0) cx dX4_abort_154 (by decide) ?_
        refine kg_zastN cx 17 1 t rfl rfl (rfl) (ht) (by decide) (by decide) (kq_isActive t _) dX4_abort_155 ?_
        refine kg_aload_n cx dX4_abort_156 rfl ?_
        refine kg_get (ci := 4) cx 0 22 kfs_X4 rfl (by decide) rfl rfl kf_X4_62 dX4_abort_157 ?_
        refine kg_iload_n cx dX4_abort_160 rfl ?_
        refine kg_iload_n cx dX4_abort_161 rfl ?_
        refine kg_if_ge cx 169 dX4_abort_162 (by decide) (fun h9 => ?_) (fun h9 => absurd (nI_ge0 (by omega)) h9)
        refine kg_iconst (v := 0) cx dX4_abort_169 (by decide) ?_
        refine kg_zastN cx 18 1 t rfl rfl (rfl) (ht) (by decide) (by decide) (kq_isLeaving t _) dX4_abort_170 ?_
        refine kg_iload_n cx dX4_abort_171 rfl ?_
        exact kg_ireturn cx hr (rfl) _ rfl (⟨k, v, d, z9, hj, hz9, hz4, Or.inl ⟨hl0, rfl, rfl⟩⟩) dX4_abort_172
      · obtain ⟨hh, hH, hQ, hTn⟩ := id hfr
        refine kg_iload_n cx dX4_abort_52 rfl ?_
        refine kg_if_le cx 142 dX4_abort_53 (by decide) (fun h9 => absurd h9 (by rw [hli]; exact nI_nle (by omega) (by omega))) (fun h9 => ?_)
        refine kg_aload_n cx dX4_abort_56 rfl ?_
        refine kg_aload_n cx dX4_abort_57 rfl ?_
        refine kg_get (ci := 4) cx 0 15 kfs_X4 rfl (by decide) rfl rfl kf_X4_41 dX4_abort_58 ?_
        refine kg_iload_n cx dX4_abort_61 rfl ?_
        refine kg_ialdN (v := (nI q)) cx 11 0 (i + 1) rfl rfl (by rw [hli]) (by omega) (by decide) (hq9) dX4_abort_62 ?_
        refine kg_callV (ci := 4) (na := 1) cx (r_bring l D c rd n v hn hF q hq h hh hH hQ hTn) 0 rfl rfl kcd_X4_bring km_X4_107 kin_X4 kim_X4_bring ksl_X4_bring (by decide +kernel) rfl (by decide) (by decide) rfl (Nat.le_of_ble_eq_true rfl) dX4_abort_63 (fun _ => kr_adr _ _) (fun v9 u9 h9 => ?_)
        obtain ⟨r9, rfl, hr9⟩ := h9
        rcases kBringR_r hr9 with ⟨f, hf, rfl⟩ | rfl
        · refine kg_istore cx dX4_abort_66 (by decide) ?_
          refine kg_iload cx dX4_abort_68 rfl ?_
          refine kg_if_ge cx 76 dX4_abort_70 (by decide) (fun h9 => ?_) (fun h9 => absurd (nI_ge0 (by omega)) h9)
          refine kg_bipush (v := (nI 8)) cx dX4_abort_76 (by decide) ?_
          refine kg_iload cx dX4_abort_78 rfl ?_
          refine kg_imul cx dX4_abort_80 ?_
          refine kg_top (nI (8 * f)) (pk_mul 8 f) ?_
          refine kg_aload_n cx dX4_abort_81 rfl ?_
          refine kg_get (ci := 4) cx 0 16 kfs_X4 rfl (by decide) rfl rfl kf_X4_44 dX4_abort_82 ?_
          refine kg_iload_n cx dX4_abort_85 rfl ?_
          refine kg_ialdN (v := (nI k9)) cx 12 0 (i + 1) rfl rfl (by rw [hli]) (by omega) (by decide) ((kBringR_F hr9 (by decide) (by decide)).trans hk99) dX4_abort_86 ?_
          refine kg_iadd cx dX4_abort_87 ?_
          refine kg_top (nI (8 * f + k9)) (nI_add _ _) ?_
          refine kg_istore cx dX4_abort_88 (by decide) ?_
          refine kg_aload_n cx dX4_abort_90 rfl ?_
          refine kg_get (ci := 4) cx 0 6 kfs_X4 rfl (by decide) rfl rfl kf_X4_22 dX4_abort_91 ?_
          refine kg_iload cx dX4_abort_94 rfl ?_
          refine kg_aload_n cx dX4_abort_96 rfl ?_
          refine kg_iload_n cx dX4_abort_97 rfl ?_
          refine kg_top (nI (i + 1)) (by rw [hli]) ?_
          refine kg_aload_n cx dX4_abort_98 rfl ?_
          refine kg_get (ci := 4) cx 0 5 kfs_X4 rfl (by decide) rfl rfl kf_X4_19 dX4_abort_99 ?_
          refine kg_iload cx dX4_abort_102 rfl ?_
          refine kg_ialdN (v := (u9 23 f k9)) cx 4 0 (8 * f + k9) rfl rfl (rfl) (by omega) (by decide) (by show u9 23 ((8 * f + k9) / 8) ((8 * f + k9) % 8) = _; rw [show (8 * f + k9) / 8 = f by omega, show (8 * f + k9) % 8 = k9 by omega]) dX4_abort_104 ?_
          refine kg_callV (ci := 4) (na := 2) cx (r_tellUndo l D c rd u9 (i + 1) (u9 23 f k9) z9 ((kBringR_F hr9 (by decide) (by decide)).trans hz9) hz4 (by omega)) 0 rfl rfl kcd_X4_tellUndo km_X4_129 kin_X4 kim_X4_tellUndo ksl_X4_tellUndo (by decide +kernel) rfl (by decide) (by decide) rfl (Nat.le_of_ble_eq_true rfl) dX4_abort_105 (fun _ => kr_adr _ _) (fun v9 u9 h9 => ?_)
          obtain ⟨rfl, h9⟩ := h9
          subst h9
          refine kg_iastN cx 5 0 f rfl rfl (rfl) (by omega) (by decide) (kq_frameLsn f _) dX4_abort_108 ?_
          refine kg_aload_n cx dX4_abort_109 rfl ?_
          refine kg_get (ci := 4) cx 0 5 kfs_X4 rfl (by decide) rfl rfl kf_X4_19 dX4_abort_110 ?_
          refine kg_iload cx dX4_abort_113 rfl ?_
          refine kg_aload_n cx dX4_abort_115 rfl ?_
          refine kg_get (ci := 4) cx 0 17 kfs_X4 rfl (by decide) rfl rfl kf_X4_47 dX4_abort_116 ?_
          refine kg_iload_n cx dX4_abort_119 rfl ?_
          refine kg_ialdN (v := (u9 9 (i + 1) 4)) cx 13 0 (i + 1) rfl rfl (by rw [hli]) (by omega) (by decide) (by simp [kTell, kRec, kApp, ku, show i ≠ z9 by omega]) dX4_abort_120 ?_
          refine kg_iastN cx 4 0 (8 * f + k9) rfl rfl (rfl) (by omega) (by decide) (kq_number f k9 hk9 _) dX4_abort_121 ?_
          refine kg_aload_n cx dX4_abort_122 rfl ?_
          refine kg_get (ci := 4) cx 0 8 kfs_X4 rfl (by decide) rfl rfl kf_X4_28 dX4_abort_123 ?_
          refine kg_iload cx dX4_abort_126 rfl ?_
          refine kg_iconst (v := 1) cx dX4_abort_128 (by decide) ?_
          refine kg_zastN cx 7 1 f rfl rfl (rfl) (by omega) (by decide) (by decide) (kq_isDirty f _) dX4_abort_129 ?_
          refine kg_iinc (v := nI (d + 1)) cx dX4_abort_130 rfl (nI_1 d) (by decide) ?_
          have hjn := hnx f u9 hf hr9
          obtain ⟨y, hy, hy4, -⟩ := hJ i _ _ hjn
          refine kg_aload_n cx dX4_abort_133 rfl ?_
          refine kg_iload_n cx dX4_abort_134 rfl ?_
          refine kg_callV (ci := 4) (na := 1) cx (r_lastOf l D c rd (kUndR u9 f (i + 1) k9 z9) (nI t) y hy (by omega)) 0 rfl rfl kcd_X4_lastOf km_X4_126 kin_X4 kim_X4_lastOf ksl_X4_lastOf (by decide +kernel) rfl (by decide) (by decide) rfl (Nat.le_of_ble_eq_true rfl) dX4_abort_135 (fun _ => kr_adr _ _) (fun v9 u9 h9 => ?_)
          obtain ⟨rfl, h9⟩ := h9
          subst h9
          refine kg_istore_n cx dX4_abort_138 (by decide) ?_
          refine kg_goto cx 52 dX4_abort_139 (by decide) ?_
          refine kg_lo (lo9 := [some (.ref (rd 0)), some (.int (nI t)), some (.int (nI (d + 1))), some (.int (nI (kLast (kUndR u9 f (i + 1) k9 z9) (nI t) y))), none, none]) (fun j x9 hx => ?_) ?_
          · match j, hx with
            | 0, hx => exact hx
            | 1, hx => exact hx
            | 2, hx => exact hx
            | 3, hx => exact hx
            | 4, hx => cases hx
            | 5, hx => cases hx
            | j + 6, hx => cases hx
          · exact ih i hik _ (d + 1) y hjn hy hy4
        · refine kg_istore cx dX4_abort_66 (by decide) ?_
          refine kg_iload cx dX4_abort_68 rfl ?_
          refine kg_if_ge cx 76 dX4_abort_70 (by decide) (fun h9 => absurd h9 (by decide)) (fun h9 => ?_)
          refine kg_bipush (v := (-2)) cx dX4_abort_73 (by decide) ?_
          exact kg_ireturn cx hr (rfl) _ rfl (⟨k, v, d, z9, hj, hz9, hz4, Or.inr ⟨i, q, h, _, hli, hq9, hq, hfr, hr9, rfl, rfl⟩⟩) dX4_abort_75
  obtain ⟨y, hy, hy4, -⟩ := hJ k0 _ 0 hJ0
  refine kg_aload_n cx dX4_abort_46 rfl ?_
  refine kg_iload_n cx dX4_abort_47 rfl ?_
  refine kg_callV (ci := 4) (na := 1) cx (r_lastOf l D c rd (ku w9 17 t 0 1) (nI t) y hy (by omega)) 0 rfl rfl kcd_X4_lastOf km_X4_126 kin_X4 kim_X4_lastOf ksl_X4_lastOf (by decide +kernel) rfl (by decide) (by decide) rfl (Nat.le_of_ble_eq_true rfl) dX4_abort_48 (fun _ => kr_adr _ _) (fun v9 u9 h9 => ?_)
  obtain ⟨rfl, h9⟩ := h9
  subst u9
  refine kg_istore_n cx dX4_abort_51 (by decide) ?_
  exact loop k0 _ 0 y hJ0 hy hy4
