def kcN (u : kS) (f q k : Nat) : kS := fun F i j => if F = 23 ∧ i = f ∧ j < k then u 0 q j else u F i j
theorem kcN_0 (u : kS) (f q : Nat) : kcN u f q 0 = u := by funext F i j; simp [kcN]
theorem kcN_s (u : kS) (f q k : Nat) : ku (kcN u f q k) 23 f k (u 0 q k) = kcN u f q (k + 1) := by
  funext F i j
  by_cases h1 : F = 23
  · subst h1
    by_cases h2 : i = f
    · subst h2
      by_cases h3 : j = k
      · simp [ku, kcN, h3]
      · by_cases h4 : j < k
        · simp [ku, kcN, h3, h4, Nat.lt_succ_of_lt h4]
        · simp [ku, kcN, h3, h4, show ¬ j < k + 1 by omega]
    · simp [ku, kcN, h2]
  · simp [ku, kcN, h1]
def kLd0 (u : kS) (q f : Nat) : kS := ku (ku (ku (ku u 1 f 0 (nI q)) 2 f 0 0) 3 f 0 0) 5 f 8 (u 0 q 8)
/-- the page q comes into the frame f, by the reference -/
def kLoadR (u : kS) (q f : Nat) : kS := ku (kcN (kLd0 u q f) f q 8) 8 0 0 (u 8 0 0 + 1)
def kBringR (u : kS) (n q h : Nat) (r : Int32) (u9 : kS) : Prop :=
  (∃ f, f < n ∧ u 1 f 0 = nI q ∧ (∀ j, j < f → u 1 j 0 ≠ nI q) ∧ r = nI f ∧ u9 = ku u 4 f 0 1) ∨
  ((∀ j, j < n → u 1 j 0 ≠ nI q) ∧ ∃ r1 u1, kRoomR u n h r1 u1 ∧ ((r1 = -1 ∧ r = -1 ∧ u9 = u1) ∨ (∃ f, f < n ∧ r1 = nI f ∧ r = nI f ∧ u9 = ku (kLoadR u1 q f) 4 f 0 1)))
theorem kRoomR_r {u : kS} {n h : Nat} {r : Int32} {u9 : kS} (hb : kRoomR u n h r u9) : (∃ f, f < n ∧ r = nI f) ∨ r = -1 := by
  rcases hb with ⟨f, h1, -, -, h2, -⟩ | ⟨-, -, h2, -⟩ | ⟨f, h1, -, -, h2, -⟩
  · exact Or.inl ⟨f, h1, h2⟩
  · exact Or.inr h2
  · exact Or.inl ⟨f, h1, h2⟩
theorem kBringR_r {u : kS} {n q h : Nat} {r : Int32} {u9 : kS} (hb : kBringR u n q h r u9) : (∃ f, f < n ∧ r = nI f) ∨ r = -1 := by
  rcases hb with ⟨f, h1, -, -, h2, -⟩ | ⟨-, r1, u1, -, ⟨-, h2, -⟩ | ⟨f, h1, -, h2, -⟩⟩
  · exact Or.inl ⟨f, h1, h2⟩
  · exact Or.inr h2
  · exact Or.inl ⟨f, h1, h2⟩
theorem kIn_iff {x : Int32} {B : Nat} (hB : B < 2 ^ 30) : (0 ≤ x ∧ x ≤ nI B) ↔ kIn x (B + 1) := by
  constructor
  · rintro ⟨h1, h2⟩
    rcases pk_ix x (n := B + 1) (by omega) with h | h | h
    · exact absurd h (Int32.not_lt.mpr h1)
    · exact absurd (Int32.le_trans h h2) (nI_ge (show B < B + 1 by omega) (by omega))
    · exact h
  · rintro ⟨j, hj, rfl⟩
    exact ⟨nI_pos' (by omega), nI_le (by omega) (by omega)⟩
theorem kPinR_20 {u : kS} {n f : Nat} {pg x : Int32} : kPinR (ku u 20 0 0 x) n pg f ↔ kPinR u n pg f := by simp [kPinR, ku]
set_option maxHeartbeats 4000000 in
set_option maxRecDepth 100000 in
theorem r_bring (l : Launch) (D : va_G) (c : Nat → ClassId) (rd : Nat → Nat) (n : Nat) (u : kS) (hn : n ≤ 8) (hF : u 21 0 0 = nI n) (q : Nat) (hq : q < 32) (h : Nat) (hh : h < n) (hH : u 6 0 0 = nI h) (hQ : ∀ f, f < n → u 3 f 0 ≠ 0 → ∃ q, q < 32 ∧ u 1 f 0 = nI q) (hTn : (∃ j, j < n ∧ kMay u j (u 15 0 0)) → ∃ f, (kTurn n (u 15 0 0) (2 * n) u h).2 = some f) : kR l D c rd yX4_bring (Cond.code yX4_bring cX4_bring 4 (some .int)) 2 44 u [.ref (rd 0), .int (nI q)] (fun v u9 => ∃ r, v = some (.int r) ∧ kBringR u n q h r u9) := by
  refine kR.mk (by decide) (by simp [Value.category]) (Nat.le_of_ble_eq_true rfl) ?_
  intro p e s m args below meth c9 cx hr
  refine kg_aload_n cx dX4_bring_0 rfl ?_
  refine kg_iload_n cx dX4_bring_1 rfl ?_
  refine kg_callV (ci := 4) (na := 1) cx (r_frameOf l D c rd n u (nI q) hn hF) 0 rfl rfl kcd_X4_frameOf km_X4_89 kin_X4 kim_X4_frameOf ksl_X4_frameOf (by decide +kernel) rfl (by decide) (by decide) rfl (Nat.le_of_ble_eq_true rfl) dX4_bring_2 (fun _ => kr_adr _ _) (fun v9 u9 h9 => ?_)
  obtain ⟨⟨r9, rfl, hr9⟩, h9⟩ := h9
  subst u9
  rcases hr9 with ⟨f, hf, rfl, hpf, hlf⟩ | ⟨rfl, hno⟩
  · refine kg_istore_n cx dX4_bring_5 (by decide) ?_
    refine kg_iload_n cx dX4_bring_6 rfl ?_
    refine kg_if_ge cx 100 dX4_bring_7 (by decide) (fun h9 => ?_) (fun h9 => absurd (nI_ge0 (by omega)) h9)
    refine kg_aload_n cx dX4_bring_100 rfl ?_
    refine kg_get (ci := 4) cx 0 9 kfs_X4 rfl (by decide) rfl rfl kf_X4_32 dX4_bring_101 ?_
    refine kg_iload_n cx dX4_bring_104 rfl ?_
    refine kg_iconst (v := 1) cx dX4_bring_105 (by decide) ?_
    refine kg_zastN cx 8 1 f rfl rfl (rfl) (by omega) (by decide) (by decide) (kq_isMarked f _) dX4_bring_106 ?_
    refine kg_iload_n cx dX4_bring_107 rfl ?_
    exact kg_ireturn cx hr (rfl) _ rfl (⟨_, rfl, Or.inl ⟨f, hf, hpf, hlf, rfl, rfl⟩⟩) dX4_bring_108
  · refine kg_istore_n cx dX4_bring_5 (by decide) ?_
    refine kg_iload_n cx dX4_bring_6 rfl ?_
    refine kg_if_ge cx 100 dX4_bring_7 (by decide) (fun h9 => absurd h9 (by decide)) (fun h9 => ?_)
    refine kg_aload_n cx dX4_bring_10 rfl ?_
    refine kg_callV (ci := 4) (na := 0) cx (r_room l D c rd n u hn hF h hh hH hQ hTn) 0 rfl rfl kcd_X4_room km_X4_93 kin_X4 kim_X4_room ksl_X4_room (by decide +kernel) rfl (by decide) (by decide) rfl (Nat.le_of_ble_eq_true rfl) dX4_bring_11 (fun _ => kr_adr _ _) (fun v9 u9 h9 => ?_)
    obtain ⟨r9, rfl, hr9⟩ := h9
    rcases kRoomR_r hr9 with ⟨f, hf, rfl⟩ | rfl
    · refine kg_istore_n cx dX4_bring_14 (by decide) ?_
      refine kg_iload_n cx dX4_bring_15 rfl ?_
      refine kg_if_ge cx 21 dX4_bring_16 (by decide) (fun h9 => ?_) (fun h9 => absurd (nI_ge0 (by omega)) h9)
      refine kg_aload_n cx dX4_bring_21 rfl ?_
      refine kg_get (ci := 4) cx 0 4 kfs_X4 rfl (by decide) rfl rfl kf_X4_16 dX4_bring_22 ?_
      refine kg_iload_n cx dX4_bring_25 rfl ?_
      refine kg_iload_n cx dX4_bring_26 rfl ?_
      refine kg_iastN cx 3 0 f rfl rfl (rfl) (by omega) (by decide) (kq_held f _) dX4_bring_27 ?_
      refine kg_aload_n cx dX4_bring_28 rfl ?_
      refine kg_get (ci := 4) cx 0 7 kfs_X4 rfl (by decide) rfl rfl kf_X4_25 dX4_bring_29 ?_
      refine kg_iload_n cx dX4_bring_32 rfl ?_
      refine kg_iconst (v := 0) cx dX4_bring_33 (by decide) ?_
      refine kg_iastN cx 6 0 f rfl rfl (rfl) (by omega) (by decide) (kq_pins f _) dX4_bring_34 ?_
      refine kg_aload_n cx dX4_bring_35 rfl ?_
      refine kg_get (ci := 4) cx 0 8 kfs_X4 rfl (by decide) rfl rfl kf_X4_28 dX4_bring_36 ?_
      refine kg_iload_n cx dX4_bring_39 rfl ?_
      refine kg_iconst (v := 0) cx dX4_bring_40 (by decide) ?_
      refine kg_zastN cx 7 1 f rfl rfl (rfl) (by omega) (by decide) (by decide) (kq_isDirty f _) dX4_bring_41 ?_
      refine kg_aload_n cx dX4_bring_42 rfl ?_
      refine kg_get (ci := 4) cx 0 6 kfs_X4 rfl (by decide) rfl rfl kf_X4_22 dX4_bring_43 ?_
      refine kg_iload_n cx dX4_bring_46 rfl ?_
      refine kg_aload_n cx dX4_bring_47 rfl ?_
      refine kg_get (ci := 4) cx 0 3 kfs_X4 rfl (by decide) rfl rfl kf_X4_13 dX4_bring_48 ?_
      refine kg_iload_n cx dX4_bring_51 rfl ?_
      refine kg_ialdN (v := (u9 0 q 8)) cx 2 0 q rfl rfl (rfl) (hq) (by decide) (by simp [ku]) dX4_bring_52 ?_
      refine kg_iastN cx 5 0 f rfl rfl (rfl) (by omega) (by decide) (kq_frameLsn f _) dX4_bring_53 ?_
      refine kg_iconst (v := 0) cx dX4_bring_54 (by decide) ?_
      refine kg_istore_n cx dX4_bring_55 (by decide) ?_
      have loop : ∀ (k i : Nat), 8 - i = k → i ≤ 8 → kgR p l e 2 44 s m args below meth c9 4 D c rd u (fun v u9 => ∃ r, v = some (.int r) ∧ kBringR u n q h r u9) (kcN (kLd0 u9 q f) f q i) 56 [some (.ref (rd 0)), some (.int (nI q)), some (.int (nI f)), some (.int (nI i))] [] := by
        intro k
        induction k with
        | zero =>
          intro i hk hi
          have e8 : i = 8 := by omega
          subst i
          refine kg_iload_n cx dX4_bring_56 rfl ?_
          refine kg_bipush (v := (nI 8)) cx dX4_bring_57 (by decide) ?_
          refine kg_icmp_ge cx 90 dX4_bring_59 (by decide) (fun h1 => ?_) (fun h1 => ?_)
          · refine kg_aload_n cx dX4_bring_90 rfl ?_
            refine kg_dup cx dX4_bring_91 rfl ?_
            refine kg_get (ci := 4) cx 0 24 kfs_X4 rfl (by decide) rfl rfl kf_X4_97 dX4_bring_92 ?_
            refine kg_top (u9 8 0 0) (by simp [kcN, kLd0, ku]) ?_
            refine kg_iconst (v := 1) cx dX4_bring_95 (by decide) ?_
            refine kg_iadd cx dX4_bring_96 ?_
            refine kg_put (ci := 4) (ty := .int) cx 0 24 kfs_X4 tyX4 tyX4_ok nmX4 rfl (by decide) rfl (Nat.le_of_ble_eq_true rfl) kf_X4_97 rfl (by decide +kernel) rfl rfl (kq_come _) dX4_bring_97 ?_
            refine kg_aload_n cx dX4_bring_100 rfl ?_
            refine kg_get (ci := 4) cx 0 9 kfs_X4 rfl (by decide) rfl rfl kf_X4_32 dX4_bring_101 ?_
            refine kg_iload_n cx dX4_bring_104 rfl ?_
            refine kg_iconst (v := 1) cx dX4_bring_105 (by decide) ?_
            refine kg_zastN cx 8 1 f rfl rfl (rfl) (by omega) (by decide) (by decide) (kq_isMarked f _) dX4_bring_106 ?_
            refine kg_iload_n cx dX4_bring_107 rfl ?_
            exact kg_ireturn cx hr (rfl) _ rfl (⟨_, rfl, Or.inr ⟨hno, _, _, hr9, Or.inr ⟨f, hf, rfl, rfl, rfl⟩⟩⟩) dX4_bring_108
          · exact absurd (Int32.le_refl _) h1
        | succ k ih =>
          intro i hk hi
          have hin : i < 8 := by omega
          refine kg_iload_n cx dX4_bring_56 rfl ?_
          refine kg_bipush (v := (nI 8)) cx dX4_bring_57 (by decide) ?_
          refine kg_icmp_ge cx 90 dX4_bring_59 (by decide) (fun h1 => ?_) (fun h1 => ?_)
          · exact absurd h1 (nI_ge hin (by omega))
          · refine kg_aload_n cx dX4_bring_62 rfl ?_
            refine kg_get (ci := 4) cx 0 5 kfs_X4 rfl (by decide) rfl rfl kf_X4_19 dX4_bring_63 ?_
            refine kg_bipush (v := (nI 8)) cx dX4_bring_66 (by decide) ?_
            refine kg_iload_n cx dX4_bring_68 rfl ?_
            refine kg_imul cx dX4_bring_69 ?_
            refine kg_top (nI (8 * f)) (pk_mul 8 f) ?_
            refine kg_iload_n cx dX4_bring_70 rfl ?_
            refine kg_iadd cx dX4_bring_71 ?_
            refine kg_top (nI (8 * f + i)) (nI_add _ _) ?_
            refine kg_aload_n cx dX4_bring_72 rfl ?_
            refine kg_get (ci := 4) cx 0 2 kfs_X4 rfl (by decide) rfl rfl kf_X4_7 dX4_bring_73 ?_
            refine kg_bipush (v := (nI 8)) cx dX4_bring_76 (by decide) ?_
            refine kg_iload_n cx dX4_bring_78 rfl ?_
            refine kg_imul cx dX4_bring_79 ?_
            refine kg_top (nI (8 * q)) (pk_mul 8 q) ?_
            refine kg_iload_n cx dX4_bring_80 rfl ?_
            refine kg_iadd cx dX4_bring_81 ?_
            refine kg_top (nI (8 * q + i)) (nI_add _ _) ?_
            refine kg_ialdN (v := (kLd0 u9 q f 0 q i)) cx 1 0 (8 * q + i) rfl rfl (rfl) (by omega) (by decide) (by show kcN (kLd0 u9 q f) f q i 0 ((8 * q + i) / 8) ((8 * q + i) % 8) = _; rw [show (8 * q + i) / 8 = q by omega, show (8 * q + i) % 8 = i by omega]; simp [kcN]) dX4_bring_82 ?_
            refine kg_iastN cx 4 0 (8 * f + i) rfl rfl (rfl) (by omega) (by decide) (kq_number f i hin _) dX4_bring_83 ?_
            refine kg_iinc (v := nI (i + 1)) cx dX4_bring_84 rfl (nI_1 i) (by decide) ?_
            refine kg_goto cx 56 dX4_bring_87 (by decide) ?_
            have := ih (i + 1) (by omega) (by omega)
            rw [← kcN_s] at this
            exact this
      have := loop 8 0 rfl (by decide)
      rw [kcN_0] at this
      exact this
    · refine kg_istore_n cx dX4_bring_14 (by decide) ?_
      refine kg_iload_n cx dX4_bring_15 rfl ?_
      refine kg_if_ge cx 21 dX4_bring_16 (by decide) (fun h9 => absurd h9 (by decide)) (fun h9 => ?_)
      refine kg_iconst (v := (-1)) cx dX4_bring_19 (by decide) ?_
      exact kg_ireturn cx hr (rfl) _ rfl (⟨_, rfl, Or.inr ⟨hno, _, _, hr9, Or.inl ⟨rfl, rfl, rfl⟩⟩⟩) dX4_bring_20
set_option maxHeartbeats 4000000 in
set_option maxRecDepth 100000 in
theorem r_fetch_bad (l : Launch) (D : va_G) (c : Nat → ClassId) (rd : Nat → Nat) (u : kS) (x : Int32) (hx : ¬ kIn x 32) : kR l D c rd yX4_fetch (Cond.code yX4_fetch cX4_fetch 3 (some .int)) 3 67 u [.ref (rd 0), .int x] (fun v u9 => v = some (.int 0) ∧ u9 = ku u 20 0 0 1) := by
  refine kR.mk (by decide) (by simp [Value.category]) (Nat.le_of_ble_eq_true rfl) ?_
  intro p e s m args below meth c9 cx hr
  refine kg_aload_n cx dX4_fetch_0 rfl ?_
  refine kg_iload_n cx dX4_fetch_1 rfl ?_
  refine kg_iconst (v := 0) cx dX4_fetch_2 (by decide) ?_
  refine kg_bipush (v := (nI 31)) cx dX4_fetch_3 (by decide) ?_
  refine kg_callS (na := 3) cx (r_isIn l D c rd u x 0 (nI 31)) kcd_X4_isIn km_X4_100 kin_X4 kst_X4_isIn (by decide +kernel) rfl (by decide) (by decide) rfl (Nat.le_of_ble_eq_true rfl) dX4_fetch_5 (fun _ => kr_adr _ _) (fun v9 u9 h9 => ?_)
  obtain ⟨rfl, h9⟩ := h9
  subst u9
  refine kg_top 0 (kb_0 (fun q9 => hx ((kIn_iff (by decide)).mp q9))) ?_
  refine kg_if_eq cx 15 dX4_fetch_8 (by decide) (fun h9 => ?_) (fun h9 => absurd h9 (by decide))
  refine kg_iconst (v := 1) cx dX4_fetch_15 (by decide) ?_
  refine kg_callV (ci := 4) (na := 1) cx (r_refused l D c rd u 1) 0 rfl rfl kcd_X4_refused km_X4_104 kin_X4 kim_X4_refused ksl_X4_refused (by decide +kernel) rfl (by decide) (by decide) rfl (Nat.le_of_ble_eq_true rfl) dX4_fetch_16 (fun _ => kr_adr _ _) (fun v9 u9 h9 => ?_)
  obtain ⟨rfl, h9⟩ := h9
  subst u9
  refine kg_top 1 (kb_1 (by decide)) ?_
  refine kg_if_eq cx 24 dX4_fetch_19 (by decide) (fun h9 => absurd h9 (by decide)) (fun h9 => ?_)
  refine kg_iconst (v := 0) cx dX4_fetch_22 (by decide) ?_
  exact kg_ireturn cx hr (rfl) _ rfl (⟨rfl, rfl⟩) dX4_fetch_23
set_option maxHeartbeats 4000000 in
set_option maxRecDepth 100000 in
theorem r_fetch_ok (l : Launch) (D : va_G) (c : Nat → ClassId) (rd : Nat → Nat) (n : Nat) (u : kS) (w9 : kS) (hw : ku u 20 0 0 0 = w9) (hn : n ≤ 8) (hF : w9 21 0 0 = nI n) (q : Nat) (hq : q < 32) (h : Nat) (hh : h < n) (hH : w9 6 0 0 = nI h) (hQ : ∀ f, f < n → w9 3 f 0 ≠ 0 → ∃ q, q < 32 ∧ w9 1 f 0 = nI q) (hTn : (∃ j, j < n ∧ kMay w9 j (w9 15 0 0)) → ∃ f, (kTurn n (w9 15 0 0) (2 * n) w9 h).2 = some f) : kR l D c rd yX4_fetch (Cond.code yX4_fetch cX4_fetch 3 (some .int)) 3 67 u [.ref (rd 0), .int (nI q)] (fun v u9 => (kBringR w9 n q h (-1) u9 ∧ v = some (.int (-2))) ∨ (∃ f u1, f < n ∧ kBringR w9 n q h (nI f) u1 ∧ v = some (.int (nI f)) ∧ u9 = ku u1 2 f 0 (u1 2 f 0 + 1))) := by
  refine kR.mk (by decide) (by simp [Value.category]) (Nat.le_of_ble_eq_true rfl) ?_
  intro p e s m args below meth c9 cx hr
  refine kg_aload_n cx dX4_fetch_0 rfl ?_
  refine kg_iload_n cx dX4_fetch_1 rfl ?_
  refine kg_iconst (v := 0) cx dX4_fetch_2 (by decide) ?_
  refine kg_bipush (v := (nI 31)) cx dX4_fetch_3 (by decide) ?_
  refine kg_callS (na := 3) cx (r_isIn l D c rd u (nI q) 0 (nI 31)) kcd_X4_isIn km_X4_100 kin_X4 kst_X4_isIn (by decide +kernel) rfl (by decide) (by decide) rfl (Nat.le_of_ble_eq_true rfl) dX4_fetch_5 (fun _ => kr_adr _ _) (fun v9 u9 h9 => ?_)
  obtain ⟨rfl, h9⟩ := h9
  subst u9
  refine kg_top 1 (kb_1 ((kIn_iff (by decide)).mpr ⟨q, hq, rfl⟩)) ?_
  refine kg_if_eq cx 15 dX4_fetch_8 (by decide) (fun h9 => absurd h9 (by decide)) (fun h9 => ?_)
  refine kg_iconst (v := 0) cx dX4_fetch_11 (by decide) ?_
  refine kg_goto cx 16 dX4_fetch_12 (by decide) ?_
  refine kg_callV (ci := 4) (na := 1) cx (r_refused l D c rd u 0) 0 rfl rfl kcd_X4_refused km_X4_104 kin_X4 kim_X4_refused ksl_X4_refused (by decide +kernel) rfl (by decide) (by decide) rfl (Nat.le_of_ble_eq_true rfl) dX4_fetch_16 (fun _ => kr_adr _ _) (fun v9 u9 h9 => ?_)
  obtain ⟨rfl, h9⟩ := h9
  subst u9
  refine kg_top 0 (kb_0 (by decide)) ?_
  refine kg_if_eq cx 24 dX4_fetch_19 (by decide) (fun h9 => ?_) (fun h9 => absurd h9 (by decide))
  refine kg_eq (congrArg (kr rd c) hw) rfl rfl rfl ?_
  refine kg_aload_n cx dX4_fetch_24 rfl ?_
  refine kg_iload_n cx dX4_fetch_25 rfl ?_
  refine kg_callV (ci := 4) (na := 1) cx (r_bring l D c rd n w9 hn hF q hq h hh hH hQ hTn) 0 rfl rfl kcd_X4_bring km_X4_107 kin_X4 kim_X4_bring ksl_X4_bring (by decide +kernel) rfl (by decide) (by decide) rfl (Nat.le_of_ble_eq_true rfl) dX4_fetch_26 (fun _ => kr_adr _ _) (fun v9 u9 h9 => ?_)
  obtain ⟨r9, rfl, hr9⟩ := h9
  rcases kBringR_r hr9 with ⟨f, hf, rfl⟩ | rfl
  · refine kg_istore_n cx dX4_fetch_29 (by decide) ?_
    refine kg_iload_n cx dX4_fetch_30 rfl ?_
    refine kg_if_ge cx 37 dX4_fetch_31 (by decide) (fun h9 => ?_) (fun h9 => absurd (nI_ge0 (by omega)) h9)
    refine kg_aload_n cx dX4_fetch_37 rfl ?_
    refine kg_get (ci := 4) cx 0 7 kfs_X4 rfl (by decide) rfl rfl kf_X4_25 dX4_fetch_38 ?_
    refine kg_iload_n cx dX4_fetch_41 rfl ?_
    refine kg_dup2 cx dX4_fetch_42 rfl rfl ?_
    refine kg_ialdN cx 6 0 f rfl rfl (rfl) (by omega) (by decide) (rfl) dX4_fetch_43 ?_
    refine kg_iconst (v := 1) cx dX4_fetch_44 (by decide) ?_
    refine kg_iadd cx dX4_fetch_45 ?_
    refine kg_iastN cx 6 0 f rfl rfl (rfl) (by omega) (by decide) (kq_pins f _) dX4_fetch_46 ?_
    refine kg_iload_n cx dX4_fetch_47 rfl ?_
    exact kg_ireturn cx hr (rfl) _ rfl (Or.inr ⟨f, _, hf, hr9, rfl, rfl⟩) dX4_fetch_48
  · refine kg_istore_n cx dX4_fetch_29 (by decide) ?_
    refine kg_iload_n cx dX4_fetch_30 rfl ?_
    refine kg_if_ge cx 37 dX4_fetch_31 (by decide) (fun h9 => absurd h9 (by decide)) (fun h9 => ?_)
    refine kg_bipush (v := (-2)) cx dX4_fetch_34 (by decide) ?_
    exact kg_ireturn cx hr (rfl) _ rfl (Or.inl ⟨hr9, rfl⟩) dX4_fetch_36
set_option maxHeartbeats 4000000 in
set_option maxRecDepth 100000 in
theorem r_release_bad (l : Launch) (D : va_G) (c : Nat → ClassId) (rd : Nat → Nat) (u : kS) (x : Int32) (hx : ¬ kIn x 32) : kR l D c rd yX4_release (Cond.code yX4_release cX4_release 3 (some .int)) 2 44 u [.ref (rd 0), .int x] (fun v u9 => v = some (.int 0) ∧ u9 = ku u 20 0 0 1) := by
  refine kR.mk (by decide) (by simp [Value.category]) (Nat.le_of_ble_eq_true rfl) ?_
  intro p e s m args below meth c9 cx hr
  refine kg_aload_n cx dX4_release_0 rfl ?_
  refine kg_iload_n cx dX4_release_1 rfl ?_
  refine kg_iconst (v := 0) cx dX4_release_2 (by decide) ?_
  refine kg_bipush (v := (nI 31)) cx dX4_release_3 (by decide) ?_
  refine kg_callS (na := 3) cx (r_isIn l D c rd u x 0 (nI 31)) kcd_X4_isIn km_X4_100 kin_X4 kst_X4_isIn (by decide +kernel) rfl (by decide) (by decide) rfl (Nat.le_of_ble_eq_true rfl) dX4_release_5 (fun _ => kr_adr _ _) (fun v9 u9 h9 => ?_)
  obtain ⟨rfl, h9⟩ := h9
  subst u9
  refine kg_top 0 (kb_0 (fun q9 => hx ((kIn_iff (by decide)).mp q9))) ?_
  refine kg_if_ne cx 15 dX4_release_8 (by decide) (fun h9 => absurd h9 (by decide)) (fun h9 => ?_)
  refine kg_iconst (v := 1) cx dX4_release_11 (by decide) ?_
  refine kg_goto cx 28 dX4_release_12 (by decide) ?_
  refine kg_callV (ci := 4) (na := 1) cx (r_refused l D c rd u 1) 0 rfl rfl kcd_X4_refused km_X4_104 kin_X4 kim_X4_refused ksl_X4_refused (by decide +kernel) rfl (by decide) (by decide) rfl (Nat.le_of_ble_eq_true rfl) dX4_release_28 (fun _ => kr_adr _ _) (fun v9 u9 h9 => ?_)
  obtain ⟨rfl, h9⟩ := h9
  subst u9
  refine kg_top 1 (kb_1 (by decide)) ?_
  refine kg_if_eq cx 36 dX4_release_31 (by decide) (fun h9 => absurd h9 (by decide)) (fun h9 => ?_)
  refine kg_iconst (v := 0) cx dX4_release_34 (by decide) ?_
  exact kg_ireturn cx hr (rfl) _ rfl (⟨rfl, rfl⟩) dX4_release_35
set_option maxHeartbeats 4000000 in
set_option maxRecDepth 100000 in
theorem r_release_bad2 (l : Launch) (D : va_G) (c : Nat → ClassId) (rd : Nat → Nat) (n : Nat) (u : kS) (hn : n ≤ 8) (hF : u 21 0 0 = nI n) (q : Nat) (hq : q < 32) (hf : ¬ ∃ f, kPinR u n (nI q) f) : kR l D c rd yX4_release (Cond.code yX4_release cX4_release 3 (some .int)) 2 44 u [.ref (rd 0), .int (nI q)] (fun v u9 => v = some (.int 0) ∧ u9 = ku u 20 0 0 (nI 2)) := by
  refine kR.mk (by decide) (by simp [Value.category]) (Nat.le_of_ble_eq_true rfl) ?_
  intro p e s m args below meth c9 cx hr
  refine kg_aload_n cx dX4_release_0 rfl ?_
  refine kg_iload_n cx dX4_release_1 rfl ?_
  refine kg_iconst (v := 0) cx dX4_release_2 (by decide) ?_
  refine kg_bipush (v := (nI 31)) cx dX4_release_3 (by decide) ?_
  refine kg_callS (na := 3) cx (r_isIn l D c rd u (nI q) 0 (nI 31)) kcd_X4_isIn km_X4_100 kin_X4 kst_X4_isIn (by decide +kernel) rfl (by decide) (by decide) rfl (Nat.le_of_ble_eq_true rfl) dX4_release_5 (fun _ => kr_adr _ _) (fun v9 u9 h9 => ?_)
  obtain ⟨rfl, h9⟩ := h9
  subst u9
  refine kg_top 1 (kb_1 ((kIn_iff (by decide)).mpr ⟨q, hq, rfl⟩)) ?_
  refine kg_if_ne cx 15 dX4_release_8 (by decide) (fun h9 => ?_) (fun h9 => absurd h9 (by decide))
  refine kg_aload_n cx dX4_release_15 rfl ?_
  refine kg_iload_n cx dX4_release_16 rfl ?_
  refine kg_callV (ci := 4) (na := 1) cx (r_isPinned l D c rd n u (nI q) hn hF) 0 rfl rfl kcd_X4_isPinned km_X4_110 kin_X4 kim_X4_isPinned ksl_X4_isPinned (by decide +kernel) rfl (by decide) (by decide) rfl (Nat.le_of_ble_eq_true rfl) dX4_release_17 (fun _ => kr_adr _ _) (fun v9 u9 h9 => ?_)
  obtain ⟨h9, e9⟩ := h9
  subst u9
  rcases h9 with ⟨hp9, rfl⟩ | ⟨hp9, rfl⟩
  case inl => exact absurd hp9 hf
  refine kg_if_ne cx 27 dX4_release_20 (by decide) (fun h9 => absurd h9 (by decide)) (fun h9 => ?_)
  refine kg_iconst (v := (nI 2)) cx dX4_release_23 (by decide) ?_
  refine kg_goto cx 28 dX4_release_24 (by decide) ?_
  refine kg_callV (ci := 4) (na := 1) cx (r_refused l D c rd u (nI 2)) 0 rfl rfl kcd_X4_refused km_X4_104 kin_X4 kim_X4_refused ksl_X4_refused (by decide +kernel) rfl (by decide) (by decide) rfl (Nat.le_of_ble_eq_true rfl) dX4_release_28 (fun _ => kr_adr _ _) (fun v9 u9 h9 => ?_)
  obtain ⟨rfl, h9⟩ := h9
  subst u9
  refine kg_top 1 (kb_1 (by decide)) ?_
  refine kg_if_eq cx 36 dX4_release_31 (by decide) (fun h9 => absurd h9 (by decide)) (fun h9 => ?_)
  refine kg_iconst (v := 0) cx dX4_release_34 (by decide) ?_
  exact kg_ireturn cx hr (rfl) _ rfl (⟨rfl, rfl⟩) dX4_release_35
set_option maxHeartbeats 4000000 in
set_option maxRecDepth 100000 in
theorem r_release_ok (l : Launch) (D : va_G) (c : Nat → ClassId) (rd : Nat → Nat) (n : Nat) (u : kS) (w9 : kS) (hw : ku u 20 0 0 0 = w9) (hn : n ≤ 8) (hF : u 21 0 0 = nI n) (q : Nat) (hq : q < 32) (f : Nat) (hf : kPinR u n (nI q) f) : kR l D c rd yX4_release (Cond.code yX4_release cX4_release 3 (some .int)) 2 44 u [.ref (rd 0), .int (nI q)] (fun v u9 => v = some (.int (w9 2 f 0 - 1)) ∧ u9 = ku w9 2 f 0 (w9 2 f 0 - 1)) := by
  refine kR.mk (by decide) (by simp [Value.category]) (Nat.le_of_ble_eq_true rfl) ?_
  intro p e s m args below meth c9 cx hr
  refine kg_aload_n cx dX4_release_0 rfl ?_
  refine kg_iload_n cx dX4_release_1 rfl ?_
  refine kg_iconst (v := 0) cx dX4_release_2 (by decide) ?_
  refine kg_bipush (v := (nI 31)) cx dX4_release_3 (by decide) ?_
  refine kg_callS (na := 3) cx (r_isIn l D c rd u (nI q) 0 (nI 31)) kcd_X4_isIn km_X4_100 kin_X4 kst_X4_isIn (by decide +kernel) rfl (by decide) (by decide) rfl (Nat.le_of_ble_eq_true rfl) dX4_release_5 (fun _ => kr_adr _ _) (fun v9 u9 h9 => ?_)
  obtain ⟨rfl, h9⟩ := h9
  subst u9
  refine kg_top 1 (kb_1 ((kIn_iff (by decide)).mpr ⟨q, hq, rfl⟩)) ?_
  refine kg_if_ne cx 15 dX4_release_8 (by decide) (fun h9 => ?_) (fun h9 => absurd h9 (by decide))
  refine kg_aload_n cx dX4_release_15 rfl ?_
  refine kg_iload_n cx dX4_release_16 rfl ?_
  refine kg_callV (ci := 4) (na := 1) cx (r_isPinned l D c rd n u (nI q) hn hF) 0 rfl rfl kcd_X4_isPinned km_X4_110 kin_X4 kim_X4_isPinned ksl_X4_isPinned (by decide +kernel) rfl (by decide) (by decide) rfl (Nat.le_of_ble_eq_true rfl) dX4_release_17 (fun _ => kr_adr _ _) (fun v9 u9 h9 => ?_)
  obtain ⟨h9, e9⟩ := h9
  subst u9
  rcases h9 with ⟨hp9, rfl⟩ | ⟨hp9, rfl⟩
  case inr => exact absurd ⟨f, hf⟩ hp9
  refine kg_if_ne cx 27 dX4_release_20 (by decide) (fun h9 => ?_) (fun h9 => absurd h9 (by decide))
  refine kg_iconst (v := 0) cx dX4_release_27 (by decide) ?_
  refine kg_callV (ci := 4) (na := 1) cx (r_refused l D c rd u 0) 0 rfl rfl kcd_X4_refused km_X4_104 kin_X4 kim_X4_refused ksl_X4_refused (by decide +kernel) rfl (by decide) (by decide) rfl (Nat.le_of_ble_eq_true rfl) dX4_release_28 (fun _ => kr_adr _ _) (fun v9 u9 h9 => ?_)
  obtain ⟨rfl, h9⟩ := h9
  subst u9
  refine kg_top 0 (kb_0 (by decide)) ?_
  refine kg_if_eq cx 36 dX4_release_31 (by decide) (fun h9 => ?_) (fun h9 => absurd h9 (by decide))
  refine kg_eq (congrArg (kr rd c) hw) rfl rfl rfl ?_
  refine kg_aload_n cx dX4_release_36 rfl ?_
  refine kg_iload_n cx dX4_release_37 rfl ?_
  refine kg_callV (ci := 4) (na := 1) cx (r_frameOf l D c rd n w9 (nI q) hn (by rw [← hw]; exact (ku_F (by decide)).trans hF)) 0 rfl rfl kcd_X4_frameOf km_X4_89 kin_X4 kim_X4_frameOf ksl_X4_frameOf (by decide +kernel) rfl (by decide) (by decide) rfl (Nat.le_of_ble_eq_true rfl) dX4_release_38 (fun _ => kr_adr _ _) (fun v9 u9 h9 => ?_)
  obtain ⟨⟨r9, rfl, hr9⟩, h9⟩ := h9
  subst u9
  have hfw : kPinR w9 n (nI q) f := by rw [← hw]; exact kPinR_20.mpr hf
  have er9 : r9 = nI f := by
    rcases hr9 with ⟨g, g1, rfl, g2, g3⟩ | ⟨-, g1⟩
    · rw [kLeast_eq hfw.2.1 hfw.2.2.1 g2 g3]
    · exact absurd hfw.2.1 (g1 f hfw.1)
  subst er9
  have hfn : f < 8 := Nat.lt_of_lt_of_le hfw.1 hn
  refine kg_istore_n cx dX4_release_41 (by decide) ?_
  refine kg_aload_n cx dX4_release_42 rfl ?_
  refine kg_get (ci := 4) cx 0 7 kfs_X4 rfl (by decide) rfl rfl kf_X4_25 dX4_release_43 ?_
  refine kg_iload_n cx dX4_release_46 rfl ?_
  refine kg_dup2 cx dX4_release_47 rfl rfl ?_
  refine kg_ialdN cx 6 0 f rfl rfl (rfl) (hfn) (by decide) (rfl) dX4_release_48 ?_
  refine kg_iconst (v := 1) cx dX4_release_49 (by decide) ?_
  refine kg_isub cx dX4_release_50 ?_
  refine kg_iastN cx 6 0 f rfl rfl (rfl) (hfn) (by decide) (kq_pins f _) dX4_release_51 ?_
  refine kg_aload_n cx dX4_release_52 rfl ?_
  refine kg_get (ci := 4) cx 0 7 kfs_X4 rfl (by decide) rfl rfl kf_X4_25 dX4_release_53 ?_
  refine kg_iload_n cx dX4_release_56 rfl ?_
  refine kg_ialdN (v := (w9 2 f 0 - 1)) cx 6 0 f rfl rfl (rfl) (hfn) (by decide) (ku_s _ _ _ _ _) dX4_release_57 ?_
  exact kg_ireturn cx hr (rfl) _ rfl (⟨rfl, rfl⟩) dX4_release_58
set_option maxHeartbeats 4000000 in
set_option maxRecDepth 100000 in
theorem r_get_bad (l : Launch) (D : va_G) (c : Nat → ClassId) (rd : Nat → Nat) (u : kS) (x y : Int32) (hx : ¬ (kIn x 32 ∧ kIn y 8)) : kR l D c rd yX4_get (Cond.code yX4_get cX4_get 4 (some .int)) 2 44 u [.ref (rd 0), .int x, .int y] (fun v u9 => v = some (.int 0) ∧ u9 = ku u 20 0 0 1) := by
  refine kR.mk (by decide) (by simp [Value.category]) (Nat.le_of_ble_eq_true rfl) ?_
  intro p e s m args below meth c9 cx hr
  by_cases h1 : kIn x 32
  · refine kg_iload_n cx dX4_get_0 rfl ?_
    refine kg_iconst (v := 0) cx dX4_get_1 (by decide) ?_
    refine kg_bipush (v := (nI 31)) cx dX4_get_2 (by decide) ?_
    refine kg_callS (na := 3) cx (r_isIn l D c rd u x 0 (nI 31)) kcd_X4_isIn km_X4_100 kin_X4 kst_X4_isIn (by decide +kernel) rfl (by decide) (by decide) rfl (Nat.le_of_ble_eq_true rfl) dX4_get_4 (fun _ => kr_adr _ _) (fun v9 u9 h9 => ?_)
    obtain ⟨rfl, h9⟩ := h9
    subst u9
    refine kg_top 1 (kb_1 ((kIn_iff (by decide)).mpr h1)) ?_
    refine kg_if_eq cx 24 dX4_get_7 (by decide) (fun h9 => absurd h9 (by decide)) (fun h9 => ?_)
    refine kg_iload_n cx dX4_get_10 rfl ?_
    refine kg_iconst (v := 0) cx dX4_get_11 (by decide) ?_
    refine kg_bipush (v := (nI 7)) cx dX4_get_12 (by decide) ?_
    refine kg_callS (na := 3) cx (r_isIn l D c rd u y 0 (nI 7)) kcd_X4_isIn km_X4_100 kin_X4 kst_X4_isIn (by decide +kernel) rfl (by decide) (by decide) rfl (Nat.le_of_ble_eq_true rfl) dX4_get_14 (fun _ => kr_adr _ _) (fun v9 u9 h9 => ?_)
    obtain ⟨rfl, h9⟩ := h9
    subst u9
    refine kg_top 0 (kb_0 (fun q9 => (fun q8 => hx ⟨h1, q8⟩) ((kIn_iff (by decide)).mp q9))) ?_
    refine kg_if_eq cx 24 dX4_get_17 (by decide) (fun h9 => ?_) (fun h9 => absurd h9 (by decide))
    refine kg_iconst (v := 0) cx dX4_get_24 (by decide) ?_
    refine kg_istore_n cx dX4_get_25 (by decide) ?_
    refine kg_aload_n cx dX4_get_26 rfl ?_
    refine kg_iload_n cx dX4_get_27 rfl ?_
    refine kg_if_ne cx 35 dX4_get_28 (by decide) (fun h9 => absurd h9 (by decide)) (fun h9 => ?_)
    refine kg_iconst (v := 1) cx dX4_get_31 (by decide) ?_
    refine kg_goto cx 48 dX4_get_32 (by decide) ?_
    refine kg_callV (ci := 4) (na := 1) cx (r_refused l D c rd u 1) 0 rfl rfl kcd_X4_refused km_X4_104 kin_X4 kim_X4_refused ksl_X4_refused (by decide +kernel) rfl (by decide) (by decide) rfl (Nat.le_of_ble_eq_true rfl) dX4_get_48 (fun _ => kr_adr _ _) (fun v9 u9 h9 => ?_)
    obtain ⟨rfl, h9⟩ := h9
    subst u9
    refine kg_top 1 (kb_1 (by decide)) ?_
    refine kg_if_eq cx 56 dX4_get_51 (by decide) (fun h9 => absurd h9 (by decide)) (fun h9 => ?_)
    refine kg_iconst (v := 0) cx dX4_get_54 (by decide) ?_
    exact kg_ireturn cx hr (rfl) _ rfl (⟨rfl, rfl⟩) dX4_get_55
  · refine kg_iload_n cx dX4_get_0 rfl ?_
    refine kg_iconst (v := 0) cx dX4_get_1 (by decide) ?_
    refine kg_bipush (v := (nI 31)) cx dX4_get_2 (by decide) ?_
    refine kg_callS (na := 3) cx (r_isIn l D c rd u x 0 (nI 31)) kcd_X4_isIn km_X4_100 kin_X4 kst_X4_isIn (by decide +kernel) rfl (by decide) (by decide) rfl (Nat.le_of_ble_eq_true rfl) dX4_get_4 (fun _ => kr_adr _ _) (fun v9 u9 h9 => ?_)
    obtain ⟨rfl, h9⟩ := h9
    subst u9
    refine kg_top 0 (kb_0 (fun q9 => h1 ((kIn_iff (by decide)).mp q9))) ?_
    refine kg_if_eq cx 24 dX4_get_7 (by decide) (fun h9 => ?_) (fun h9 => absurd h9 (by decide))
    refine kg_iconst (v := 0) cx dX4_get_24 (by decide) ?_
    refine kg_istore_n cx dX4_get_25 (by decide) ?_
    refine kg_aload_n cx dX4_get_26 rfl ?_
    refine kg_iload_n cx dX4_get_27 rfl ?_
    refine kg_if_ne cx 35 dX4_get_28 (by decide) (fun h9 => absurd h9 (by decide)) (fun h9 => ?_)
    refine kg_iconst (v := 1) cx dX4_get_31 (by decide) ?_
    refine kg_goto cx 48 dX4_get_32 (by decide) ?_
    refine kg_callV (ci := 4) (na := 1) cx (r_refused l D c rd u 1) 0 rfl rfl kcd_X4_refused km_X4_104 kin_X4 kim_X4_refused ksl_X4_refused (by decide +kernel) rfl (by decide) (by decide) rfl (Nat.le_of_ble_eq_true rfl) dX4_get_48 (fun _ => kr_adr _ _) (fun v9 u9 h9 => ?_)
    obtain ⟨rfl, h9⟩ := h9
    subst u9
    refine kg_top 1 (kb_1 (by decide)) ?_
    refine kg_if_eq cx 56 dX4_get_51 (by decide) (fun h9 => absurd h9 (by decide)) (fun h9 => ?_)
    refine kg_iconst (v := 0) cx dX4_get_54 (by decide) ?_
    exact kg_ireturn cx hr (rfl) _ rfl (⟨rfl, rfl⟩) dX4_get_55
set_option maxHeartbeats 4000000 in
set_option maxRecDepth 100000 in
theorem r_get_bad2 (l : Launch) (D : va_G) (c : Nat → ClassId) (rd : Nat → Nat) (n : Nat) (u : kS) (hn : n ≤ 8) (hF : u 21 0 0 = nI n) (q : Nat) (hq : q < 32) (k : Nat) (hk : k < 8) (hf : ¬ ∃ f, kPinR u n (nI q) f) : kR l D c rd yX4_get (Cond.code yX4_get cX4_get 4 (some .int)) 2 44 u [.ref (rd 0), .int (nI q), .int (nI k)] (fun v u9 => v = some (.int 0) ∧ u9 = ku u 20 0 0 (nI 2)) := by
  refine kR.mk (by decide) (by simp [Value.category]) (Nat.le_of_ble_eq_true rfl) ?_
  intro p e s m args below meth c9 cx hr
  refine kg_iload_n cx dX4_get_0 rfl ?_
  refine kg_iconst (v := 0) cx dX4_get_1 (by decide) ?_
  refine kg_bipush (v := (nI 31)) cx dX4_get_2 (by decide) ?_
  refine kg_callS (na := 3) cx (r_isIn l D c rd u (nI q) 0 (nI 31)) kcd_X4_isIn km_X4_100 kin_X4 kst_X4_isIn (by decide +kernel) rfl (by decide) (by decide) rfl (Nat.le_of_ble_eq_true rfl) dX4_get_4 (fun _ => kr_adr _ _) (fun v9 u9 h9 => ?_)
  obtain ⟨rfl, h9⟩ := h9
  subst u9
  refine kg_top 1 (kb_1 ((kIn_iff (by decide)).mpr ⟨q, hq, rfl⟩)) ?_
  refine kg_if_eq cx 24 dX4_get_7 (by decide) (fun h9 => absurd h9 (by decide)) (fun h9 => ?_)
  refine kg_iload_n cx dX4_get_10 rfl ?_
  refine kg_iconst (v := 0) cx dX4_get_11 (by decide) ?_
  refine kg_bipush (v := (nI 7)) cx dX4_get_12 (by decide) ?_
  refine kg_callS (na := 3) cx (r_isIn l D c rd u (nI k) 0 (nI 7)) kcd_X4_isIn km_X4_100 kin_X4 kst_X4_isIn (by decide +kernel) rfl (by decide) (by decide) rfl (Nat.le_of_ble_eq_true rfl) dX4_get_14 (fun _ => kr_adr _ _) (fun v9 u9 h9 => ?_)
  obtain ⟨rfl, h9⟩ := h9
  subst u9
  refine kg_top 1 (kb_1 ((kIn_iff (by decide)).mpr ⟨k, hk, rfl⟩)) ?_
  refine kg_if_eq cx 24 dX4_get_17 (by decide) (fun h9 => absurd h9 (by decide)) (fun h9 => ?_)
  refine kg_iconst (v := 1) cx dX4_get_20 (by decide) ?_
  refine kg_goto cx 25 dX4_get_21 (by decide) ?_
  refine kg_istore_n cx dX4_get_25 (by decide) ?_
  refine kg_aload_n cx dX4_get_26 rfl ?_
  refine kg_iload_n cx dX4_get_27 rfl ?_
  refine kg_if_ne cx 35 dX4_get_28 (by decide) (fun h9 => ?_) (fun h9 => absurd h9 (by decide))
  refine kg_aload_n cx dX4_get_35 rfl ?_
  refine kg_iload_n cx dX4_get_36 rfl ?_
  refine kg_callV (ci := 4) (na := 1) cx (r_isPinned l D c rd n u (nI q) hn hF) 0 rfl rfl kcd_X4_isPinned km_X4_110 kin_X4 kim_X4_isPinned ksl_X4_isPinned (by decide +kernel) rfl (by decide) (by decide) rfl (Nat.le_of_ble_eq_true rfl) dX4_get_37 (fun _ => kr_adr _ _) (fun v9 u9 h9 => ?_)
  obtain ⟨h9, e9⟩ := h9
  subst u9
  rcases h9 with ⟨hp9, rfl⟩ | ⟨hp9, rfl⟩
  case inl => exact absurd hp9 hf
  refine kg_if_ne cx 47 dX4_get_40 (by decide) (fun h9 => absurd h9 (by decide)) (fun h9 => ?_)
  refine kg_iconst (v := (nI 2)) cx dX4_get_43 (by decide) ?_
  refine kg_goto cx 48 dX4_get_44 (by decide) ?_
  refine kg_callV (ci := 4) (na := 1) cx (r_refused l D c rd u (nI 2)) 0 rfl rfl kcd_X4_refused km_X4_104 kin_X4 kim_X4_refused ksl_X4_refused (by decide +kernel) rfl (by decide) (by decide) rfl (Nat.le_of_ble_eq_true rfl) dX4_get_48 (fun _ => kr_adr _ _) (fun v9 u9 h9 => ?_)
  obtain ⟨rfl, h9⟩ := h9
  subst u9
  refine kg_top 1 (kb_1 (by decide)) ?_
  refine kg_if_eq cx 56 dX4_get_51 (by decide) (fun h9 => absurd h9 (by decide)) (fun h9 => ?_)
  refine kg_iconst (v := 0) cx dX4_get_54 (by decide) ?_
  exact kg_ireturn cx hr (rfl) _ rfl (⟨rfl, rfl⟩) dX4_get_55
set_option maxHeartbeats 4000000 in
set_option maxRecDepth 100000 in
theorem r_get_ok (l : Launch) (D : va_G) (c : Nat → ClassId) (rd : Nat → Nat) (n : Nat) (u : kS) (w9 : kS) (hw : ku u 20 0 0 0 = w9) (hn : n ≤ 8) (hF : u 21 0 0 = nI n) (q : Nat) (hq : q < 32) (k : Nat) (hk : k < 8) (f : Nat) (hf : kPinR u n (nI q) f) : kR l D c rd yX4_get (Cond.code yX4_get cX4_get 4 (some .int)) 2 44 u [.ref (rd 0), .int (nI q), .int (nI k)] (fun v u9 => v = some (.int (w9 23 f k)) ∧ u9 = w9) := by
  refine kR.mk (by decide) (by simp [Value.category]) (Nat.le_of_ble_eq_true rfl) ?_
  intro p e s m args below meth c9 cx hr
  refine kg_iload_n cx dX4_get_0 rfl ?_
  refine kg_iconst (v := 0) cx dX4_get_1 (by decide) ?_
  refine kg_bipush (v := (nI 31)) cx dX4_get_2 (by decide) ?_
  refine kg_callS (na := 3) cx (r_isIn l D c rd u (nI q) 0 (nI 31)) kcd_X4_isIn km_X4_100 kin_X4 kst_X4_isIn (by decide +kernel) rfl (by decide) (by decide) rfl (Nat.le_of_ble_eq_true rfl) dX4_get_4 (fun _ => kr_adr _ _) (fun v9 u9 h9 => ?_)
  obtain ⟨rfl, h9⟩ := h9
  subst u9
  refine kg_top 1 (kb_1 ((kIn_iff (by decide)).mpr ⟨q, hq, rfl⟩)) ?_
  refine kg_if_eq cx 24 dX4_get_7 (by decide) (fun h9 => absurd h9 (by decide)) (fun h9 => ?_)
  refine kg_iload_n cx dX4_get_10 rfl ?_
  refine kg_iconst (v := 0) cx dX4_get_11 (by decide) ?_
  refine kg_bipush (v := (nI 7)) cx dX4_get_12 (by decide) ?_
  refine kg_callS (na := 3) cx (r_isIn l D c rd u (nI k) 0 (nI 7)) kcd_X4_isIn km_X4_100 kin_X4 kst_X4_isIn (by decide +kernel) rfl (by decide) (by decide) rfl (Nat.le_of_ble_eq_true rfl) dX4_get_14 (fun _ => kr_adr _ _) (fun v9 u9 h9 => ?_)
  obtain ⟨rfl, h9⟩ := h9
  subst u9
  refine kg_top 1 (kb_1 ((kIn_iff (by decide)).mpr ⟨k, hk, rfl⟩)) ?_
  refine kg_if_eq cx 24 dX4_get_17 (by decide) (fun h9 => absurd h9 (by decide)) (fun h9 => ?_)
  refine kg_iconst (v := 1) cx dX4_get_20 (by decide) ?_
  refine kg_goto cx 25 dX4_get_21 (by decide) ?_
  refine kg_istore_n cx dX4_get_25 (by decide) ?_
  refine kg_aload_n cx dX4_get_26 rfl ?_
  refine kg_iload_n cx dX4_get_27 rfl ?_
  refine kg_if_ne cx 35 dX4_get_28 (by decide) (fun h9 => ?_) (fun h9 => absurd h9 (by decide))
  refine kg_aload_n cx dX4_get_35 rfl ?_
  refine kg_iload_n cx dX4_get_36 rfl ?_
  refine kg_callV (ci := 4) (na := 1) cx (r_isPinned l D c rd n u (nI q) hn hF) 0 rfl rfl kcd_X4_isPinned km_X4_110 kin_X4 kim_X4_isPinned ksl_X4_isPinned (by decide +kernel) rfl (by decide) (by decide) rfl (Nat.le_of_ble_eq_true rfl) dX4_get_37 (fun _ => kr_adr _ _) (fun v9 u9 h9 => ?_)
  obtain ⟨h9, e9⟩ := h9
  subst u9
  rcases h9 with ⟨hp9, rfl⟩ | ⟨hp9, rfl⟩
  case inr => exact absurd ⟨f, hf⟩ hp9
  refine kg_if_ne cx 47 dX4_get_40 (by decide) (fun h9 => ?_) (fun h9 => absurd h9 (by decide))
  refine kg_iconst (v := 0) cx dX4_get_47 (by decide) ?_
  refine kg_callV (ci := 4) (na := 1) cx (r_refused l D c rd u 0) 0 rfl rfl kcd_X4_refused km_X4_104 kin_X4 kim_X4_refused ksl_X4_refused (by decide +kernel) rfl (by decide) (by decide) rfl (Nat.le_of_ble_eq_true rfl) dX4_get_48 (fun _ => kr_adr _ _) (fun v9 u9 h9 => ?_)
  obtain ⟨rfl, h9⟩ := h9
  subst u9
  refine kg_top 0 (kb_0 (by decide)) ?_
  refine kg_if_eq cx 56 dX4_get_51 (by decide) (fun h9 => ?_) (fun h9 => absurd h9 (by decide))
  refine kg_eq (congrArg (kr rd c) hw) rfl rfl rfl ?_
  refine kg_aload_n cx dX4_get_56 rfl ?_
  refine kg_get (ci := 4) cx 0 5 kfs_X4 rfl (by decide) rfl rfl kf_X4_19 dX4_get_57 ?_
  refine kg_bipush (v := (nI 8)) cx dX4_get_60 (by decide) ?_
  refine kg_aload_n cx dX4_get_62 rfl ?_
  refine kg_iload_n cx dX4_get_63 rfl ?_
  refine kg_callV (ci := 4) (na := 1) cx (r_frameOf l D c rd n w9 (nI q) hn (by rw [← hw]; exact (ku_F (by decide)).trans hF)) 0 rfl rfl kcd_X4_frameOf km_X4_89 kin_X4 kim_X4_frameOf ksl_X4_frameOf (by decide +kernel) rfl (by decide) (by decide) rfl (Nat.le_of_ble_eq_true rfl) dX4_get_64 (fun _ => kr_adr _ _) (fun v9 u9 h9 => ?_)
  obtain ⟨⟨r9, rfl, hr9⟩, h9⟩ := h9
  subst u9
  have hfw : kPinR w9 n (nI q) f := by rw [← hw]; exact kPinR_20.mpr hf
  have er9 : r9 = nI f := by
    rcases hr9 with ⟨g, g1, rfl, g2, g3⟩ | ⟨-, g1⟩
    · rw [kLeast_eq hfw.2.1 hfw.2.2.1 g2 g3]
    · exact absurd hfw.2.1 (g1 f hfw.1)
  subst er9
  have hfn : f < 8 := Nat.lt_of_lt_of_le hfw.1 hn
  refine kg_imul cx dX4_get_67 ?_
  refine kg_top (nI (8 * f)) (pk_mul 8 f) ?_
  refine kg_iload_n cx dX4_get_68 rfl ?_
  refine kg_iadd cx dX4_get_69 ?_
  refine kg_top (nI (8 * f + k)) (nI_add _ _) ?_
  refine kg_ialdN cx 4 0 (8 * f + k) rfl rfl (rfl) (by omega) (by decide) (by show w9 23 ((8 * f + k) / 8) ((8 * f + k) % 8) = w9 23 f k; rw [show (8 * f + k) / 8 = f by omega, show (8 * f + k) % 8 = k by omega]) dX4_get_70 ?_
  exact kg_ireturn cx hr (rfl) _ rfl (⟨rfl, rfl⟩) dX4_get_71
