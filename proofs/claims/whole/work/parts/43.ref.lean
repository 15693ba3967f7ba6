def kRedoR (u : kS) (Pg Nb : Nat → Nat) : Nat → kS
  | 0 => u
  | i + 1 => if kRedoR u Pg Nb i 9 (i + 1) 0 < nI 2 ∧ kRedoR u Pg Nb i 0 (Pg (i + 1)) 8 < nI (i + 1) then kPut (kRedoR u Pg Nb i) (i + 1) (Pg (i + 1)) (Nb (i + 1)) else kRedoR u Pg Nb i
theorem kRedoR_F {u : kS} {Pg Nb : Nat → Nat} {F a b : Nat} (h : F ≠ 0) : ∀ k, kRedoR u Pg Nb k F a b = u F a b
  | 0 => rfl
  | k + 1 => by
    have e := kRedoR_F (u := u) (Pg := Pg) (Nb := Nb) (a := a) (b := b) h k
    unfold kRedoR
    split
    · rw [kPut_F h, e]
    · exact e
set_option maxHeartbeats 4000000 in
set_option maxRecDepth 100000 in
theorem r_redo (l : Launch) (D : va_G) (c : Nat → ClassId) (rd : Nat → Nat) (u : kS) (z : Nat) (hs : u 14 0 0 = nI z) (hz : z ≤ 400) (Pg Nb : Nat → Nat) (hP : ∀ i, i ≤ z → 1 ≤ i → u 9 i 0 < nI 2 → u 9 i 2 = nI (Pg i) ∧ Pg i < 32 ∧ u 9 i 3 = nI (Nb i) ∧ Nb i < 8) : kR l D c rd yX4_redo (Cond.code yX4_redo cX4_redo 2 none) 0 0 u [.ref (rd 0)] (fun v u9 => v = none ∧ u9 = kRedoR u Pg Nb z) := by
  refine kR.mk (by decide) (by simp [Value.category]) (Nat.le_of_ble_eq_true rfl) ?_
  intro p e s m args below meth c9 cx hr
  refine kg_iconst (v := 1) cx dX4_redo_0 (by decide) ?_
  refine kg_istore_n cx dX4_redo_1 (by decide) ?_
  have loop : ∀ (k i : Nat), z - i = k → i ≤ z → kgR p l e 0 0 s m args below meth c9 2 D c rd u (fun v u9 => v = none ∧ u9 = kRedoR u Pg Nb z) (kRedoR u Pg Nb i) 2 [some (.ref (rd 0)), some (.int (nI (i + 1)))] [] := by
    intro k
    induction k with
    | zero =>
      intro i hk hi
      have e8 : i = z := by omega
      subst i
      refine kg_iload_n cx dX4_redo_2 rfl ?_
      refine kg_aload_n cx dX4_redo_3 rfl ?_
      refine kg_get (ci := 4) cx 0 11 kfs_X4 rfl (by decide) rfl rfl kf_X4_113 dX4_redo_4 ?_
      refine kg_top (nI z) (by rw [kRedoR_F (by decide)]; exact hs) ?_
      refine kg_icmp_gt cx 80 dX4_redo_7 (by decide) (fun h1 => ?_) (fun h1 => ?_)
      · exact kg_return cx hr _ rfl (⟨rfl, rfl⟩) dX4_redo_80
      · exact absurd (nI_lt (show z < z + 1 by omega) (by omega)) h1
    | succ k ih =>
      intro i hk hi
      refine kg_iload_n cx dX4_redo_2 rfl ?_
      refine kg_aload_n cx dX4_redo_3 rfl ?_
      refine kg_get (ci := 4) cx 0 11 kfs_X4 rfl (by decide) rfl rfl kf_X4_113 dX4_redo_4 ?_
      refine kg_top (nI z) (by rw [kRedoR_F (by decide)]; exact hs) ?_
      refine kg_icmp_gt cx 80 dX4_redo_7 (by decide) (fun h1 => ?_) (fun h1 => ?_)
      · exact absurd h1 (nI_nlt (show i + 1 ≤ z by omega) (by omega))
      · refine kg_aload_n cx dX4_redo_10 rfl ?_
        refine kg_get (ci := 4) cx 0 13 kfs_X4 rfl (by decide) rfl rfl kf_X4_35 dX4_redo_11 ?_
        refine kg_iload_n cx dX4_redo_14 rfl ?_
        refine kg_ialdN cx 9 0 (i + 1) rfl rfl (rfl) (by omega) (by decide) (rfl) dX4_redo_15 ?_
        refine kg_iconst (v := (nI 2)) cx dX4_redo_16 (by decide) ?_
        refine kg_icmp_ge cx 74 dX4_redo_17 (by decide) (fun h2 => ?_) (fun h2 => ?_)
        · refine kg_iinc (v := nI (i + 1 + 1)) cx dX4_redo_74 rfl (nI_1 _) (by decide) ?_
          refine kg_goto cx 2 dX4_redo_77 (by decide) ?_
          have e9 : kRedoR u Pg Nb (i + 1) = kRedoR u Pg Nb i := if_neg (fun q => absurd q.1 (Int32.not_lt.mpr h2))
          have := ih (i + 1) (by omega) (by omega)
          rw [e9] at this
          exact this
        · have hp9 := hP (i + 1) (by omega) (by omega) (by have := Int32.not_le.mp h2; rw [kRedoR_F (by decide)] at this; exact this)
          refine kg_iload_n cx dX4_redo_20 rfl ?_
          refine kg_aload_n cx dX4_redo_21 rfl ?_
          refine kg_get (ci := 4) cx 0 3 kfs_X4 rfl (by decide) rfl rfl kf_X4_13 dX4_redo_22 ?_
          refine kg_aload_n cx dX4_redo_25 rfl ?_
          refine kg_get (ci := 4) cx 0 15 kfs_X4 rfl (by decide) rfl rfl kf_X4_41 dX4_redo_26 ?_
          refine kg_iload_n cx dX4_redo_29 rfl ?_
          refine kg_ialdN (v := (nI (Pg (i + 1)))) cx 11 0 (i + 1) rfl rfl (rfl) (by omega) (by decide) ((kRedoR_F (by decide) i).trans hp9.1) dX4_redo_30 ?_
          refine kg_ialdN cx 2 0 (Pg (i + 1)) rfl rfl (rfl) (hp9.2.1) (by decide) (rfl) dX4_redo_31 ?_
          refine kg_icmp_le cx 74 dX4_redo_32 (by decide) (fun h3 => ?_) (fun h3 => ?_)
          · refine kg_iinc (v := nI (i + 1 + 1)) cx dX4_redo_74 rfl (nI_1 _) (by decide) ?_
            refine kg_goto cx 2 dX4_redo_77 (by decide) ?_
            have e9 : kRedoR u Pg Nb (i + 1) = kRedoR u Pg Nb i := if_neg (fun q => absurd q.2 (Int32.not_lt.mpr h3))
            have := ih (i + 1) (by omega) (by omega)
            rw [e9] at this
            exact this
          · refine kg_aload_n cx dX4_redo_35 rfl ?_
            refine kg_get (ci := 4) cx 0 2 kfs_X4 rfl (by decide) rfl rfl kf_X4_7 dX4_redo_36 ?_
            refine kg_bipush (v := (nI 8)) cx dX4_redo_39 (by decide) ?_
            refine kg_aload_n cx dX4_redo_41 rfl ?_
            refine kg_get (ci := 4) cx 0 15 kfs_X4 rfl (by decide) rfl rfl kf_X4_41 dX4_redo_42 ?_
            refine kg_iload_n cx dX4_redo_45 rfl ?_
            refine kg_ialdN (v := (nI (Pg (i + 1)))) cx 11 0 (i + 1) rfl rfl (rfl) (by omega) (by decide) ((kRedoR_F (by decide) i).trans hp9.1) dX4_redo_46 ?_
            refine kg_imul cx dX4_redo_47 ?_
            refine kg_top (nI (8 * Pg (i + 1))) (pk_mul 8 _) ?_
            refine kg_aload_n cx dX4_redo_48 rfl ?_
            refine kg_get (ci := 4) cx 0 16 kfs_X4 rfl (by decide) rfl rfl kf_X4_44 dX4_redo_49 ?_
            refine kg_iload_n cx dX4_redo_52 rfl ?_
            refine kg_ialdN (v := (nI (Nb (i + 1)))) cx 12 0 (i + 1) rfl rfl (rfl) (by omega) (by decide) ((kRedoR_F (by decide) i).trans hp9.2.2.1) dX4_redo_53 ?_
            refine kg_iadd cx dX4_redo_54 ?_
            refine kg_top (nI (8 * Pg (i + 1) + Nb (i + 1))) (nI_add _ _) ?_
            refine kg_aload_n cx dX4_redo_55 rfl ?_
            refine kg_get (ci := 4) cx 0 18 kfs_X4 rfl (by decide) rfl rfl kf_X4_50 dX4_redo_56 ?_
            refine kg_iload_n cx dX4_redo_59 rfl ?_
            refine kg_ialdN cx 14 0 (i + 1) rfl rfl (rfl) (by omega) (by decide) (rfl) dX4_redo_60 ?_
            refine kg_iastN cx 1 0 (8 * Pg (i + 1) + Nb (i + 1)) rfl rfl (rfl) (by have := hp9.2.1; have := hp9.2.2.2; omega) (by decide) (kq_disk (Pg (i + 1)) (Nb (i + 1)) hp9.2.2.2 _) dX4_redo_61 ?_
            refine kg_aload_n cx dX4_redo_62 rfl ?_
            refine kg_get (ci := 4) cx 0 3 kfs_X4 rfl (by decide) rfl rfl kf_X4_13 dX4_redo_63 ?_
            refine kg_aload_n cx dX4_redo_66 rfl ?_
            refine kg_get (ci := 4) cx 0 15 kfs_X4 rfl (by decide) rfl rfl kf_X4_41 dX4_redo_67 ?_
            refine kg_iload_n cx dX4_redo_70 rfl ?_
            refine kg_ialdN (v := (nI (Pg (i + 1)))) cx 11 0 (i + 1) rfl rfl (rfl) (by omega) (by decide) ((ku_F (by decide)).trans ((kRedoR_F (by decide) i).trans hp9.1)) dX4_redo_71 ?_
            refine kg_iload_n cx dX4_redo_72 rfl ?_
            refine kg_iastN cx 2 0 (Pg (i + 1)) rfl rfl (rfl) (hp9.2.1) (by decide) (kq_diskLsn (Pg (i + 1)) _) dX4_redo_73 ?_
            refine kg_iinc (v := nI (i + 1 + 1)) cx dX4_redo_74 rfl (nI_1 _) (by decide) ?_
            refine kg_goto cx 2 dX4_redo_77 (by decide) ?_
            have e9 : kRedoR u Pg Nb (i + 1) = kPut (kRedoR u Pg Nb i) (i + 1) (Pg (i + 1)) (Nb (i + 1)) := if_pos ⟨Int32.not_le.mp h2, Int32.not_le.mp h3⟩
            have := ih (i + 1) (by omega) (by omega)
            rw [e9] at this
            exact this
  exact loop z 0 rfl (Nat.zero_le _)
/-- whether one of the first i frames may be taken -/
def kSm (u : kS) : Nat → Int32
  | 0 => 0
  | i + 1 => kb (kSm u i ≠ 0 ∨ kMay u i (u 15 0 0))
theorem kSm_iff (u : kS) : ∀ i, kSm u i ≠ 0 ↔ ∃ j, j < i ∧ kMay u j (u 15 0 0)
  | 0 => by
    constructor
    · intro h; exact absurd rfl h
    · rintro ⟨j, hj, -⟩; omega
  | i + 1 => by
    have ih := kSm_iff u i
    by_cases h : kSm u i ≠ 0 ∨ kMay u i (u 15 0 0)
    · have e : kSm u (i + 1) = 1 := kb_1 h
      rw [e]
      refine ⟨fun _ => ?_, fun _ => by decide⟩
      rcases h with h | h
      · obtain ⟨j, h1, h2⟩ := ih.mp h
        exact ⟨j, by omega, h2⟩
      · exact ⟨i, by omega, h⟩
    · have e : kSm u (i + 1) = 0 := kb_0 h
      rw [e]
      refine ⟨fun q => absurd rfl q, ?_⟩
      rintro ⟨j, h1, h2⟩
      by_cases hj : j = i
      · subst hj
        exact absurd (Or.inr h2) h
      · exact absurd (Or.inl (ih.mpr ⟨j, by omega, h2⟩)) h
theorem ku_cm {u : kS} {F G a b i j : Nat} {x y : Int32} (h : F ≠ G) : ku (ku u F a b x) G i j y = ku (ku u G i j y) F a b x := by
  funext F' i' j'
  by_cases h1 : F' = F
  · subst h1
    simp [ku, h]
  · by_cases h2 : F' = G
    · subst h2
      simp [ku, h1]
    · simp [ku, h1, h2]
/-- the frame f is taken: written, if it is dirty -/
def kTk (v : kS) (f : Nat) : kS := if v 3 f 0 = 0 then v else kBackR v f (kNat (v 1 f 0))
def kRoomR (u : kS) (n h : Nat) (r : Int32) (u9 : kS) : Prop :=
  (∃ f, f < n ∧ u 1 f 0 < 0 ∧ (∀ j, j < f → ¬ u 1 j 0 < 0) ∧ r = nI f ∧ u9 = u) ∨
  ((∀ j, j < n → ¬ u 1 j 0 < 0) ∧ (¬ ∃ j, j < n ∧ kMay u j (u 15 0 0)) ∧ r = -1 ∧ u9 = u) ∨
  (∃ f, f < n ∧ (∀ j, j < n → ¬ u 1 j 0 < 0) ∧ (kTurn n (u 15 0 0) (2 * n) u h).2 = some f ∧ r = nI f ∧ u9 = kTk (kTurn n (u 15 0 0) (2 * n) u h).1 f)
theorem k_wrap {h n : Nat} (hh : h < n) : (h + 1) % n = if h + 1 < n then h + 1 else 0 := by
  split
  · rename_i q; exact Nat.mod_eq_of_lt q
  · rename_i q
    have e : h + 1 = n := by omega
    rw [e, Nat.mod_self]
set_option maxHeartbeats 4000000 in
set_option maxRecDepth 100000 in
theorem r_room (l : Launch) (D : va_G) (c : Nat → ClassId) (rd : Nat → Nat) (n : Nat) (u : kS) (hn : n ≤ 8) (hF : u 21 0 0 = nI n) (h : Nat) (hh : h < n) (hH : u 6 0 0 = nI h) (hQ : ∀ f, f < n → u 3 f 0 ≠ 0 → ∃ q, q < 32 ∧ u 1 f 0 = nI q) (hTn : (∃ j, j < n ∧ kMay u j (u 15 0 0)) → ∃ f, (kTurn n (u 15 0 0) (2 * n) u h).2 = some f) : kR l D c rd yX4_room (Cond.code yX4_room cX4_room 3 (some .int)) 1 22 u [.ref (rd 0)] (fun v u9 => ∃ r, v = some (.int r) ∧ kRoomR u n h r u9) := by
  refine kR.mk (by decide) (by simp [Value.category]) (Nat.le_of_ble_eq_true rfl) ?_
  intro p e s m args below meth c9 cx hr
  have wl : ∀ (k : Nat) (v : kS) (g i : Nat) (x : Int32), g < n → v 6 0 0 = nI g → (∀ F a b, F ≠ 4 → F ≠ 6 → v F a b = u F a b) → (∀ j, j < n → ¬ u 1 j 0 < 0) → (∃ f, (kTurn n (u 15 0 0) (2 * n) u h).2 = some f) → kTurn n (u 15 0 0) (2 * n) u h = kTurn n (u 15 0 0) k v g → kgR p l e 1 22 s m args below meth c9 3 D c rd u (fun v u9 => ∃ r, v = some (.int r) ∧ kRoomR u n h r u9) v 53 [some (.ref (rd 0)), some (.int x), some (.int (nI i))] [] := by
    intro k
    induction k with
    | zero =>
      intro v g i x hg hv hk hno hex he
      obtain ⟨f, hf⟩ := hex
      rw [he] at hf
      cases hf
    | succ k ih =>
      intro v g i x hg hv hk hno hex he
      rw [kTurn_s] at he
      have hfl : v 15 0 0 = u 15 0 0 := hk 15 0 0 (by decide) (by decide)
      have hfr : v 21 0 0 = nI n := (hk 21 0 0 (by decide) (by decide)).trans hF
      refine kg_aload_n cx dX4_room_53 rfl ?_
      refine kg_aload_n cx dX4_room_54 rfl ?_
      refine kg_get (ci := 4) cx 0 10 kfs_X4 rfl (by decide) rfl rfl kf_X4_82 dX4_room_55 ?_
      refine kg_top (nI g) (hv) ?_
      refine kg_callV (ci := 4) (na := 1) cx (r_mayGo l D c rd v g (by omega)) 0 rfl rfl kcd_X4_mayGo km_X4_78 kin_X4 kim_X4_mayGo ksl_X4_mayGo (by decide +kernel) rfl (by decide) (by decide) rfl (Nat.le_of_ble_eq_true rfl) dX4_room_58 (fun _ => kr_adr _ _) (fun v9 u9 h9 => ?_)
      obtain ⟨rfl, h9⟩ := h9
      subst u9
      refine kg_if_eq cx 76 dX4_room_61 (by decide) (fun h1 => ?_) (fun h1 => ?_)
      · have hm : ¬ kMay v g (v 15 0 0) := fun q => absurd ((kb_1 q).symm.trans h1) (by decide)
        rw [if_neg (by rw [← hfl]; exact hm)] at he
        refine kg_aload_n cx dX4_room_76 rfl ?_
        refine kg_aload_n cx dX4_room_77 rfl ?_
        refine kg_get (ci := 4) cx 0 10 kfs_X4 rfl (by decide) rfl rfl kf_X4_82 dX4_room_78 ?_
        refine kg_top (nI g) (hv) ?_
        refine kg_callV (ci := 4) (na := 1) cx (r_mayGo l D c rd v g (by omega)) 0 rfl rfl kcd_X4_mayGo km_X4_78 kin_X4 kim_X4_mayGo ksl_X4_mayGo (by decide +kernel) rfl (by decide) (by decide) rfl (Nat.le_of_ble_eq_true rfl) dX4_room_81 (fun _ => kr_adr _ _) (fun v9 u9 h9 => ?_)
        obtain ⟨rfl, h9⟩ := h9
        subst u9
        refine kg_top 0 (kb_0 hm) ?_
        refine kg_if_eq cx 97 dX4_room_84 (by decide) (fun h9 => ?_) (fun h9 => absurd h9 (by decide))
        refine kg_aload_n cx dX4_room_97 rfl ?_
        refine kg_aload_n cx dX4_room_98 rfl ?_
        refine kg_get (ci := 4) cx 0 10 kfs_X4 rfl (by decide) rfl rfl kf_X4_82 dX4_room_99 ?_
        refine kg_top (nI g) (hv) ?_
        refine kg_iconst (v := 1) cx dX4_room_102 (by decide) ?_
        refine kg_iadd cx dX4_room_103 ?_
        refine kg_top (nI (g + 1)) (nI_1 g) ?_
        refine kg_aload_n cx dX4_room_104 rfl ?_
        refine kg_get (ci := 4) cx 0 1 kfs_X4 rfl (by decide) rfl rfl kf_X4_65 dX4_room_105 ?_
        refine kg_top (nI n) (hfr) ?_
        refine kg_irem cx dX4_room_108 (nI_ne0 (by omega) (by omega)) ?_
        refine kg_top (nI ((g + 1) % n)) (pk_rem (by omega) (by omega) (by omega)) ?_
        refine kg_put (ci := 4) (ty := .int) cx 0 10 kfs_X4 tyX4 tyX4_ok nmX4 rfl (by decide) rfl (Nat.le_of_ble_eq_true rfl) kf_X4_82 rfl (by decide +kernel) rfl rfl (kq_hand _) dX4_room_109 ?_
        refine kg_goto cx 53 dX4_room_112 (by decide) ?_
        rw [k_wrap hg]
        exact ih _ _ i x (by split <;> omega) (ku_s _ _ _ _ _) (fun F a b h4 h6 => (ku_F h6).trans (hk F a b h4 h6)) hno hex he
      · have hm : kMay v g (v 15 0 0) := by
          by_cases q : kMay v g (v 15 0 0)
          · exact q
          · exact absurd (kb_0 q) h1
        rw [if_pos (by rw [← hfl]; exact hm)] at he
        refine kg_aload_n cx dX4_room_64 rfl ?_
        refine kg_get (ci := 4) cx 0 9 kfs_X4 rfl (by decide) rfl rfl kf_X4_32 dX4_room_65 ?_
        refine kg_aload_n cx dX4_room_68 rfl ?_
        refine kg_get (ci := 4) cx 0 10 kfs_X4 rfl (by decide) rfl rfl kf_X4_82 dX4_room_69 ?_
        refine kg_top (nI g) (hv) ?_
        refine kg_zaldN cx 8 1 g rfl rfl (rfl) (by omega) (by decide) (rfl) dX4_room_72 ?_
        refine kg_if_eq cx 115 dX4_room_73 (by decide) (fun h2 => ?_) (fun h2 => ?_)
        · rw [if_pos h2, ← k_wrap hg] at he
          have e1 : (kTurn n (u 15 0 0) (2 * n) u h).2 = some g := by rw [he]
          have e2 : (kTurn n (u 15 0 0) (2 * n) u h).1 = ku v 6 0 0 (nI ((g + 1) % n)) := by rw [he]
          refine kg_aload_n cx dX4_room_115 rfl ?_
          refine kg_get (ci := 4) cx 0 10 kfs_X4 rfl (by decide) rfl rfl kf_X4_82 dX4_room_116 ?_
          refine kg_top (nI g) (hv) ?_
          refine kg_istore_n cx dX4_room_119 (by decide) ?_
          refine kg_aload_n cx dX4_room_120 rfl ?_
          refine kg_aload_n cx dX4_room_121 rfl ?_
          refine kg_get (ci := 4) cx 0 10 kfs_X4 rfl (by decide) rfl rfl kf_X4_82 dX4_room_122 ?_
          refine kg_top (nI g) (hv) ?_
          refine kg_iconst (v := 1) cx dX4_room_125 (by decide) ?_
          refine kg_iadd cx dX4_room_126 ?_
          refine kg_top (nI (g + 1)) (nI_1 g) ?_
          refine kg_aload_n cx dX4_room_127 rfl ?_
          refine kg_get (ci := 4) cx 0 1 kfs_X4 rfl (by decide) rfl rfl kf_X4_65 dX4_room_128 ?_
          refine kg_top (nI n) (hfr) ?_
          refine kg_irem cx dX4_room_131 (nI_ne0 (by omega) (by omega)) ?_
          refine kg_top (nI ((g + 1) % n)) (pk_rem (by omega) (by omega) (by omega)) ?_
          refine kg_put (ci := 4) (ty := .int) cx 0 10 kfs_X4 tyX4 tyX4_ok nmX4 rfl (by decide) rfl (Nat.le_of_ble_eq_true rfl) kf_X4_82 rfl (by decide +kernel) rfl rfl (kq_hand _) dX4_room_132 ?_
          refine kg_aload_n cx dX4_room_135 rfl ?_
          refine kg_get (ci := 4) cx 0 8 kfs_X4 rfl (by decide) rfl rfl kf_X4_28 dX4_room_136 ?_
          refine kg_iload_n cx dX4_room_139 rfl ?_
          refine kg_zaldN cx 7 1 g rfl rfl (rfl) (by omega) (by decide) (rfl) dX4_room_140 ?_
          refine kg_if_eq cx 149 dX4_room_141 (by decide) (fun h3 => ?_) (fun h3 => ?_)
          · refine kg_iload_n cx dX4_room_149 rfl ?_
            exact kg_ireturn cx hr (rfl) _ rfl (⟨_, rfl, Or.inr (Or.inr ⟨g, hg, hno, e1, rfl, by rw [e2]; unfold kTk; rw [if_pos h3]⟩)⟩) dX4_room_150
          · obtain ⟨q, hq, hq2⟩ := hQ g hg (fun q9 => h3 ((ku_F (by decide)).trans ((hk 3 g 0 (by decide) (by decide)).trans q9)))
            have hq3 : ku v 6 0 0 (nI ((g + 1) % n)) 1 g 0 = nI q := (ku_F (by decide)).trans ((hk 1 g 0 (by decide) (by decide)).trans hq2)
            refine kg_aload_n cx dX4_room_144 rfl ?_
            refine kg_iload_n cx dX4_room_145 rfl ?_
            refine kg_callV (ci := 4) (na := 1) cx (r_write l D c rd _ g q (by omega) hq hq3) 0 rfl rfl kcd_X4_write km_X4_85 kin_X4 kim_X4_write ksl_X4_write (by decide +kernel) rfl (by decide) (by decide) rfl (Nat.le_of_ble_eq_true rfl) dX4_room_146 (fun _ => kr_adr _ _) (fun v9 u9 h9 => ?_)
            obtain ⟨rfl, h9⟩ := h9
            subst u9
            refine kg_iload_n cx dX4_room_149 rfl ?_
            exact kg_ireturn cx hr (rfl) _ rfl (⟨_, rfl, Or.inr (Or.inr ⟨g, hg, hno, e1, rfl, by rw [e2]; unfold kTk; rw [if_neg h3, hq3, kNat_n (by omega)]⟩)⟩) dX4_room_150
        · rw [if_neg h2, ← k_wrap hg] at he
          refine kg_aload_n cx dX4_room_76 rfl ?_
          refine kg_aload_n cx dX4_room_77 rfl ?_
          refine kg_get (ci := 4) cx 0 10 kfs_X4 rfl (by decide) rfl rfl kf_X4_82 dX4_room_78 ?_
          refine kg_top (nI g) (hv) ?_
          refine kg_callV (ci := 4) (na := 1) cx (r_mayGo l D c rd v g (by omega)) 0 rfl rfl kcd_X4_mayGo km_X4_78 kin_X4 kim_X4_mayGo ksl_X4_mayGo (by decide +kernel) rfl (by decide) (by decide) rfl (Nat.le_of_ble_eq_true rfl) dX4_room_81 (fun _ => kr_adr _ _) (fun v9 u9 h9 => ?_)
          obtain ⟨rfl, h9⟩ := h9
          subst u9
          refine kg_top 1 (kb_1 hm) ?_
          refine kg_if_eq cx 97 dX4_room_84 (by decide) (fun h9 => absurd h9 (by decide)) (fun h9 => ?_)
          refine kg_aload_n cx dX4_room_87 rfl ?_
          refine kg_get (ci := 4) cx 0 9 kfs_X4 rfl (by decide) rfl rfl kf_X4_32 dX4_room_88 ?_
          refine kg_aload_n cx dX4_room_91 rfl ?_
          refine kg_get (ci := 4) cx 0 10 kfs_X4 rfl (by decide) rfl rfl kf_X4_82 dX4_room_92 ?_
          refine kg_top (nI g) (hv) ?_
          refine kg_iconst (v := 0) cx dX4_room_95 (by decide) ?_
          refine kg_zastN cx 8 1 g rfl rfl (rfl) (by omega) (by decide) (by decide) (kq_isMarked g _) dX4_room_96 ?_
          refine kg_aload_n cx dX4_room_97 rfl ?_
          refine kg_aload_n cx dX4_room_98 rfl ?_
          refine kg_get (ci := 4) cx 0 10 kfs_X4 rfl (by decide) rfl rfl kf_X4_82 dX4_room_99 ?_
          refine kg_top (nI g) ((ku_F (by decide)).trans hv) ?_
          refine kg_iconst (v := 1) cx dX4_room_102 (by decide) ?_
          refine kg_iadd cx dX4_room_103 ?_
          refine kg_top (nI (g + 1)) (nI_1 g) ?_
          refine kg_aload_n cx dX4_room_104 rfl ?_
          refine kg_get (ci := 4) cx 0 1 kfs_X4 rfl (by decide) rfl rfl kf_X4_65 dX4_room_105 ?_
          refine kg_top (nI n) ((ku_F (by decide)).trans hfr) ?_
          refine kg_irem cx dX4_room_108 (nI_ne0 (by omega) (by omega)) ?_
          refine kg_top (nI ((g + 1) % n)) (pk_rem (by omega) (by omega) (by omega)) ?_
          refine kg_put (ci := 4) (ty := .int) cx 0 10 kfs_X4 tyX4 tyX4_ok nmX4 rfl (by decide) rfl (Nat.le_of_ble_eq_true rfl) kf_X4_82 rfl (by decide +kernel) rfl rfl (kq_hand _) dX4_room_109 ?_
          refine kg_goto cx 53 dX4_room_112 (by decide) ?_
          refine kg_eq (congrArg (kr rd c) (ku_cm (by decide))) rfl rfl rfl ?_
          exact ih _ _ i x (by rw [k_wrap hg]; split <;> omega) ((ku_F (by decide)).trans (ku_s _ _ _ _ _)) (fun F a b h4 h6 => (ku_F h4).trans ((ku_F h6).trans (hk F a b h4 h6))) hno hex he
  refine kg_iconst (v := 0) cx dX4_room_0 (by decide) ?_
  refine kg_istore_n cx dX4_room_1 (by decide) ?_
  refine kg_iconst (v := 0) cx dX4_room_2 (by decide) ?_
  refine kg_istore_n cx dX4_room_3 (by decide) ?_
  have loop : ∀ (k i : Nat), n - i = k → i ≤ n → (∀ j, j < i → ¬ u 1 j 0 < 0) → kgR p l e 1 22 s m args below meth c9 3 D c rd u (fun v u9 => ∃ r, v = some (.int r) ∧ kRoomR u n h r u9) u 4 [some (.ref (rd 0)), some (.int (kSm u i)), some (.int (nI i))] [] := by
    intro k
    induction k with
    | zero =>
      intro i hk hi hj
      have e8 : i = n := by omega
      subst i
      refine kg_iload_n cx dX4_room_4 rfl ?_
      refine kg_aload_n cx dX4_room_5 rfl ?_
      refine kg_get (ci := 4) cx 0 1 kfs_X4 rfl (by decide) rfl rfl kf_X4_65 dX4_room_6 ?_
      refine kg_top (nI n) (hF) ?_
      refine kg_icmp_ge cx 47 dX4_room_9 (by decide) (fun h1 => ?_) (fun h1 => ?_)
      · refine kg_iload_n cx dX4_room_47 rfl ?_
        refine kg_if_ne cx 53 dX4_room_48 (by decide) (fun h2 => ?_) (fun h2 => ?_)
        · exact wl (2 * n) u h n _ hh hH (fun _ _ _ _ _ => rfl) hj (hTn ((kSm_iff u n).mp h2)) rfl
        · refine kg_iconst (v := (-1)) cx dX4_room_51 (by decide) ?_
          exact kg_ireturn cx hr (rfl) _ rfl (⟨_, rfl, Or.inr (Or.inl ⟨hj, fun q => (kSm_iff u n).mpr q h2, rfl, rfl⟩)⟩) dX4_room_52
      · exact absurd (Int32.le_refl _) h1
    | succ k ih =>
      intro i hk hi hj
      have hin : i < n := by omega
      refine kg_iload_n cx dX4_room_4 rfl ?_
      refine kg_aload_n cx dX4_room_5 rfl ?_
      refine kg_get (ci := 4) cx 0 1 kfs_X4 rfl (by decide) rfl rfl kf_X4_65 dX4_room_6 ?_
      refine kg_top (nI n) (hF) ?_
      refine kg_icmp_ge cx 47 dX4_room_9 (by decide) (fun h1 => ?_) (fun h1 => ?_)
      · exact absurd h1 (nI_ge hin (by omega))
      · refine kg_aload_n cx dX4_room_12 rfl ?_
        refine kg_get (ci := 4) cx 0 4 kfs_X4 rfl (by decide) rfl rfl kf_X4_16 dX4_room_13 ?_
        refine kg_iload_n cx dX4_room_16 rfl ?_
        refine kg_ialdN cx 3 0 i rfl rfl (rfl) (by omega) (by decide) (rfl) dX4_room_17 ?_
        refine kg_if_ge cx 23 dX4_room_18 (by decide) (fun h2 => ?_) (fun h2 => ?_)
        · refine kg_iload_n cx dX4_room_23 rfl ?_
          refine kg_if_ne cx 35 dX4_room_24 (by decide) (fun h3 => ?_) (fun h3 => ?_)
          · refine kg_iconst (v := 1) cx dX4_room_35 (by decide) ?_
            refine kg_goto cx 40 dX4_room_36 (by decide) ?_
            refine kg_istore_n cx dX4_room_40 (by decide) ?_
            refine kg_iinc (v := nI (i + 1)) cx dX4_room_41 rfl (nI_1 i) (by decide) ?_
            refine kg_goto cx 4 dX4_room_44 (by decide) ?_
            have e9 : kSm u (i + 1) = 1 := kb_1 (Or.inl h3)
            have := ih (i + 1) (by omega) (by omega) (fun j hj9 => by
              by_cases e8 : j = i
              · rw [e8]; exact Int32.not_lt.mpr h2
              · exact hj j (by omega))
            rw [e9] at this
            exact this
          · refine kg_aload_n cx dX4_room_27 rfl ?_
            refine kg_iload_n cx dX4_room_28 rfl ?_
            refine kg_callV (ci := 4) (na := 1) cx (r_mayGo l D c rd u i (by omega)) 0 rfl rfl kcd_X4_mayGo km_X4_78 kin_X4 kim_X4_mayGo ksl_X4_mayGo (by decide +kernel) rfl (by decide) (by decide) rfl (Nat.le_of_ble_eq_true rfl) dX4_room_29 (fun _ => kr_adr _ _) (fun v9 u9 h9 => ?_)
            obtain ⟨rfl, h9⟩ := h9
            subst u9
            refine kg_if_eq cx 39 dX4_room_32 (by decide) (fun h4 => ?_) (fun h4 => ?_)
            · refine kg_iconst (v := 0) cx dX4_room_39 (by decide) ?_
              refine kg_istore_n cx dX4_room_40 (by decide) ?_
              refine kg_iinc (v := nI (i + 1)) cx dX4_room_41 rfl (nI_1 i) (by decide) ?_
              refine kg_goto cx 4 dX4_room_44 (by decide) ?_
              have e9 : kSm u (i + 1) = 0 := kb_0 (fun q => q.elim (fun q => q h3) (fun q => absurd ((kb_1 q).symm.trans h4) (by decide)))
              have := ih (i + 1) (by omega) (by omega) (fun j hj9 => by
                by_cases e8 : j = i
                · rw [e8]; exact Int32.not_lt.mpr h2
                · exact hj j (by omega))
              rw [e9] at this
              exact this
            · refine kg_iconst (v := 1) cx dX4_room_35 (by decide) ?_
              refine kg_goto cx 40 dX4_room_36 (by decide) ?_
              refine kg_istore_n cx dX4_room_40 (by decide) ?_
              refine kg_iinc (v := nI (i + 1)) cx dX4_room_41 rfl (nI_1 i) (by decide) ?_
              refine kg_goto cx 4 dX4_room_44 (by decide) ?_
              have e9 : kSm u (i + 1) = 1 := kb_1 (Or.inr (by
                by_cases q : kMay u i (u 15 0 0)
                · exact q
                · exact absurd (kb_0 q) h4))
              have := ih (i + 1) (by omega) (by omega) (fun j hj9 => by
                by_cases e8 : j = i
                · rw [e8]; exact Int32.not_lt.mpr h2
                · exact hj j (by omega))
              rw [e9] at this
              exact this
        · refine kg_iload_n cx dX4_room_21 rfl ?_
          exact kg_ireturn cx hr (rfl) _ rfl (⟨_, rfl, Or.inl ⟨i, hin, Int32.not_le.mp h2, hj, rfl, rfl⟩⟩) dX4_room_22
  exact loop n 0 rfl (Nat.zero_le _) (fun j h => absurd h (Nat.not_lt_zero _))
