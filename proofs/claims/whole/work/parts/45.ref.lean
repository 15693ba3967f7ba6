theorem kUof_le (u : kS) (t : Int32) : ∀ i d, kUof u t i d ≤ d + i
  | 0, d => Nat.le_refl _
  | i + 1, d => by
    unfold kUof
    split
    · omega
    · have h1 := kUof_le u t i (if kUpd u t (i + 1) then d + 1 else d)
      have h2 : (if kUpd u t (i + 1) then d + 1 else d) ≤ d + 1 := by split <;> omega
      omega
theorem kNeed_le (u : kS) (z : Nat) (hz : z ≤ 400) : ∀ t, kNeed u z t ≤ t * 401
  | 0 => Nat.le_refl _
  | t + 1 => by
    have h1 := kNeed_le u z hz t
    have h2 := kUof_le u (nI t) z 0
    have e : kNeed u z (t + 1) = if u 16 t 0 = 0 then kNeed u z t else kNeed u z t + 1 + kUof u (nI t) z 0 := rfl
    rw [e]
    generalize kUof u (nI t) z 0 = a at h2 ⊢
    generalize kNeed u z t = b at h1 ⊢
    rw [Nat.succ_mul]
    generalize t * 401 = m at h1 ⊢
    split
    · omega
    · omega
def kBeginR (w : kS) (z : Nat) (v : Option Value) (u9 : kS) : Prop :=
  (∃ t, t < 8 ∧ w 16 t 0 = 0 ∧ (∀ j, j < t → w 16 j 0 ≠ 0) ∧ z + kNeed w z 8 + 2 ≤ 400 ∧ v = some (.int (nI t)) ∧ u9 = ku (ku w 16 t 0 1) 17 t 0 0) ∨
  (((∀ j, j < 8 → w 16 j 0 ≠ 0) ∨ ¬ z + kNeed w z 8 + 2 ≤ 400) ∧ v = some (.int (-2)) ∧ u9 = w)
set_option maxHeartbeats 4000000 in
set_option maxRecDepth 100000 in
theorem r_begin (l : Launch) (D : va_G) (c : Nat → ClassId) (rd : Nat → Nat) (u : kS) (w9 : kS) (hw : ku u 20 0 0 0 = w9) (z : Nat) (hs : w9 14 0 0 = nI z) (hz : z ≤ 400) : kR l D c rd yX4_begin (Cond.code yX4_begin cX4_begin 2 (some .int)) 2 45 u [.ref (rd 0)] (fun v u9 => kBeginR w9 z v u9) := by
  refine kR.mk (by decide) (by simp [Value.category]) (Nat.le_of_ble_eq_true rfl) ?_
  intro p e s m args below meth c9 cx hr
  refine kg_aload_n cx dX4_begin_0 rfl ?_
  refine kg_iconst (v := 0) cx dX4_begin_1 (by decide) ?_
  refine kg_put (ci := 4) (ty := .int) cx 0 0 kfs_X4 tyX4 tyX4_ok nmX4 rfl (by decide) rfl (Nat.le_of_ble_eq_true rfl) kf_X4_69 rfl (by decide +kernel) rfl rfl (kq_refusal _) dX4_begin_2 ?_
  refine kg_eq (congrArg (kr rd c) hw) rfl rfl rfl ?_
  refine kg_iconst (v := 0) cx dX4_begin_5 (by decide) ?_
  refine kg_istore_n cx dX4_begin_6 (by decide) ?_
  have loop : ∀ (k i : Nat), 8 - i = k → i ≤ 8 → (∀ j, j < i → w9 16 j 0 ≠ 0) → kgR p l e 2 45 s m args below meth c9 2 D c rd u (fun v u9 => kBeginR w9 z v u9) w9 7 [some (.ref (rd 0)), some (.int (nI i))] [] := by
    intro k
    induction k with
    | zero =>
      intro i hk hi hj
      have e8 : i = 8 := by omega
      subst i
      refine kg_iload_n cx dX4_begin_7 rfl ?_
      refine kg_bipush (v := (nI 8)) cx dX4_begin_8 (by decide) ?_
      refine kg_icmp_ge cx 28 dX4_begin_10 (by decide) (fun h1 => ?_) (fun h1 => ?_)
      · refine kg_iload_n cx dX4_begin_28 rfl ?_
        refine kg_bipush (v := (nI 8)) cx dX4_begin_29 (by decide) ?_
        refine kg_icmp_eq cx 51 dX4_begin_31 (by decide) (fun h2 => ?_) (fun h2 => ?_)
        · refine kg_bipush (v := (-2)) cx dX4_begin_51 (by decide) ?_
          exact kg_ireturn cx hr (rfl) _ rfl (Or.inr ⟨Or.inl hj, rfl, rfl⟩) dX4_begin_53
        · exact absurd rfl h2
      · exact absurd (Int32.le_refl _) h1
    | succ k ih =>
      intro i hk hi hj
      have hin : i < 8 := by omega
      have hnd := kNeed_le w9 z hz 8
      refine kg_iload_n cx dX4_begin_7 rfl ?_
      refine kg_bipush (v := (nI 8)) cx dX4_begin_8 (by decide) ?_
      refine kg_icmp_ge cx 28 dX4_begin_10 (by decide) (fun h1 => ?_) (fun h1 => ?_)
      · exact absurd h1 (nI_ge hin (by omega))
      · refine kg_aload_n cx dX4_begin_13 rfl ?_
        refine kg_get (ci := 4) cx 0 21 kfs_X4 rfl (by decide) rfl rfl kf_X4_59 dX4_begin_14 ?_
        refine kg_iload_n cx dX4_begin_17 rfl ?_
        refine kg_zaldN cx 17 1 i rfl rfl (rfl) (hin) (by decide) (rfl) dX4_begin_18 ?_
        refine kg_if_eq cx 28 dX4_begin_19 (by decide) (fun h2 => ?_) (fun h2 => ?_)
        · refine kg_iload_n cx dX4_begin_28 rfl ?_
          refine kg_bipush (v := (nI 8)) cx dX4_begin_29 (by decide) ?_
          refine kg_icmp_eq cx 51 dX4_begin_31 (by decide) (fun h3 => ?_) (fun h3 => ?_)
          · exact absurd ((nI_eq (by omega) (by decide)).mp h3) (by omega)
          · refine kg_aload_n cx dX4_begin_34 rfl ?_
            refine kg_get (ci := 4) cx 0 11 kfs_X4 rfl (by decide) rfl rfl kf_X4_113 dX4_begin_35 ?_
            refine kg_aload_n cx dX4_begin_38 rfl ?_
            refine kg_callV (ci := 4) (na := 0) cx (r_needed l D c rd w9 z hs hz) 0 rfl rfl kcd_X4_needed km_X4_119 kin_X4 kim_X4_needed ksl_X4_needed (by decide +kernel) rfl (by decide) (by decide) rfl (Nat.le_of_ble_eq_true rfl) dX4_begin_39 (fun _ => kr_adr _ _) (fun v9 u9 h9 => ?_)
            obtain ⟨rfl, h9⟩ := h9
            subst u9
            refine kg_iadd cx dX4_begin_42 ?_
            refine kg_top (nI (z + kNeed w9 z 8)) (by rw [hs]; exact nI_add _ _) ?_
            refine kg_iconst (v := (nI 2)) cx dX4_begin_43 (by decide) ?_
            refine kg_iadd cx dX4_begin_44 ?_
            refine kg_top (nI (z + kNeed w9 z 8 + 2)) (nI_add _ 2) ?_
            refine kg_sipush (v := (nI 400)) cx dX4_begin_45 (by decide) ?_
            refine kg_icmp_le cx 54 dX4_begin_48 (by decide) (fun h4 => ?_) (fun h4 => ?_)
            · refine kg_aload_n cx dX4_begin_54 rfl ?_
              refine kg_get (ci := 4) cx 0 21 kfs_X4 rfl (by decide) rfl rfl kf_X4_59 dX4_begin_55 ?_
              refine kg_iload_n cx dX4_begin_58 rfl ?_
              refine kg_iconst (v := 1) cx dX4_begin_59 (by decide) ?_
              refine kg_zastN cx 17 1 i rfl rfl (rfl) (hin) (by decide) (by decide) (kq_isActive i _) dX4_begin_60 ?_
              refine kg_aload_n cx dX4_begin_61 rfl ?_
              refine kg_get (ci := 4) cx 0 22 kfs_X4 rfl (by decide) rfl rfl kf_X4_62 dX4_begin_62 ?_
              refine kg_iload_n cx dX4_begin_65 rfl ?_
              refine kg_iconst (v := 0) cx dX4_begin_66 (by decide) ?_
              refine kg_zastN cx 18 1 i rfl rfl (rfl) (hin) (by decide) (by decide) (kq_isLeaving i _) dX4_begin_67 ?_
              refine kg_iload_n cx dX4_begin_68 rfl ?_
              exact kg_ireturn cx hr (rfl) _ rfl (Or.inl ⟨i, hin, h2, hj, (nI_leI (by omega) (by omega)).mp h4, rfl, rfl⟩) dX4_begin_69
            · refine kg_bipush (v := (-2)) cx dX4_begin_51 (by decide) ?_
              exact kg_ireturn cx hr (rfl) _ rfl (Or.inr ⟨Or.inr (fun q => h4 ((nI_leI (by omega) (by omega)).mpr q)), rfl, rfl⟩) dX4_begin_53
        · refine kg_iinc (v := nI (i + 1)) cx dX4_begin_22 rfl (nI_1 i) (by decide) ?_
          refine kg_goto cx 7 dX4_begin_25 (by decide) ?_
          refine ih (i + 1) (by omega) (by omega) (fun j hj9 => ?_)
          by_cases e9 : j = i
          · rw [e9]; exact h2
          · exact hj j (by omega)
  exact loop 8 0 rfl (by decide) (fun j h => absurd h (Nat.not_lt_zero _))
set_option maxHeartbeats 4000000 in
set_option maxRecDepth 100000 in
theorem r_set_bad (l : Launch) (D : va_G) (c : Nat → ClassId) (rd : Nat → Nat) (u : kS) (a x y val : Int32) (hx : ¬ (kIn a 8 ∧ kIn x 32 ∧ kIn y 8)) : kR l D c rd yX4_set (Cond.code yX4_set cX4_set 8 (some .int)) 2 45 u [.ref (rd 0), .int a, .int x, .int y, .int val] (fun v u9 => v = some (.int 0) ∧ u9 = ku u 20 0 0 1) := by
  refine kR.mk (by decide) (by simp [Value.category]) (Nat.le_of_ble_eq_true rfl) ?_
  intro p e s m args below meth c9 cx hr
  by_cases h1 : kIn a 8
  · by_cases h2 : kIn x 32
    · refine kg_iload_n cx dX4_set_0 rfl ?_
      refine kg_iconst (v := 0) cx dX4_set_1 (by decide) ?_
      refine kg_bipush (v := (nI 7)) cx dX4_set_2 (by decide) ?_
      refine kg_callS (na := 3) cx (r_isIn l D c rd u a 0 (nI 7)) kcd_X4_isIn km_X4_100 kin_X4 kst_X4_isIn (by decide +kernel) rfl (by decide) (by decide) rfl (Nat.le_of_ble_eq_true rfl) dX4_set_4 (fun _ => kr_adr _ _) (fun v9 u9 h9 => ?_)
      obtain ⟨rfl, h9⟩ := h9
      subst u9
      refine kg_top 1 (kb_1 ((kIn_iff (by decide)).mpr h1)) ?_
      refine kg_if_eq cx 34 dX4_set_7 (by decide) (fun h9 => absurd h9 (by decide)) (fun h9 => ?_)
      refine kg_iload_n cx dX4_set_10 rfl ?_
      refine kg_iconst (v := 0) cx dX4_set_11 (by decide) ?_
      refine kg_bipush (v := (nI 31)) cx dX4_set_12 (by decide) ?_
      refine kg_callS (na := 3) cx (r_isIn l D c rd u x 0 (nI 31)) kcd_X4_isIn km_X4_100 kin_X4 kst_X4_isIn (by decide +kernel) rfl (by decide) (by decide) rfl (Nat.le_of_ble_eq_true rfl) dX4_set_14 (fun _ => kr_adr _ _) (fun v9 u9 h9 => ?_)
      obtain ⟨rfl, h9⟩ := h9
      subst u9
      refine kg_top 1 (kb_1 ((kIn_iff (by decide)).mpr h2)) ?_
      refine kg_if_eq cx 34 dX4_set_17 (by decide) (fun h9 => absurd h9 (by decide)) (fun h9 => ?_)
      refine kg_iload_n cx dX4_set_20 rfl ?_
      refine kg_iconst (v := 0) cx dX4_set_21 (by decide) ?_
      refine kg_bipush (v := (nI 7)) cx dX4_set_22 (by decide) ?_
      refine kg_callS (na := 3) cx (r_isIn l D c rd u y 0 (nI 7)) kcd_X4_isIn km_X4_100 kin_X4 kst_X4_isIn (by decide +kernel) rfl (by decide) (by decide) rfl (Nat.le_of_ble_eq_true rfl) dX4_set_24 (fun _ => kr_adr _ _) (fun v9 u9 h9 => ?_)
      obtain ⟨rfl, h9⟩ := h9
      subst u9
      refine kg_top 0 (kb_0 (fun q9 => (fun q8 => hx ⟨h1, h2, q8⟩) ((kIn_iff (by decide)).mp q9))) ?_
      refine kg_if_eq cx 34 dX4_set_27 (by decide) (fun h9 => ?_) (fun h9 => absurd h9 (by decide))
      refine kg_iconst (v := 0) cx dX4_set_34 (by decide) ?_
      refine kg_istore cx dX4_set_35 (by decide) ?_
      refine kg_aload_n cx dX4_set_37 rfl ?_
      refine kg_iload cx dX4_set_38 rfl ?_
      refine kg_if_ne cx 47 dX4_set_40 (by decide) (fun h9 => absurd h9 (by decide)) (fun h9 => ?_)
      refine kg_iconst (v := 1) cx dX4_set_43 (by decide) ?_
      refine kg_goto cx 78 dX4_set_44 (by decide) ?_
      refine kg_callV (ci := 4) (na := 1) cx (r_refused l D c rd u 1) 0 rfl rfl kcd_X4_refused km_X4_104 kin_X4 kim_X4_refused ksl_X4_refused (by decide +kernel) rfl (by decide) (by decide) rfl (Nat.le_of_ble_eq_true rfl) dX4_set_78 (fun _ => kr_adr _ _) (fun v9 u9 h9 => ?_)
      obtain ⟨rfl, h9⟩ := h9
      subst u9
      refine kg_top 1 (kb_1 (by decide)) ?_
      refine kg_if_eq cx 86 dX4_set_81 (by decide) (fun h9 => absurd h9 (by decide)) (fun h9 => ?_)
      refine kg_iconst (v := 0) cx dX4_set_84 (by decide) ?_
      exact kg_ireturn cx hr (rfl) _ rfl (⟨rfl, rfl⟩) dX4_set_85
    · refine kg_iload_n cx dX4_set_0 rfl ?_
      refine kg_iconst (v := 0) cx dX4_set_1 (by decide) ?_
      refine kg_bipush (v := (nI 7)) cx dX4_set_2 (by decide) ?_
      refine kg_callS (na := 3) cx (r_isIn l D c rd u a 0 (nI 7)) kcd_X4_isIn km_X4_100 kin_X4 kst_X4_isIn (by decide +kernel) rfl (by decide) (by decide) rfl (Nat.le_of_ble_eq_true rfl) dX4_set_4 (fun _ => kr_adr _ _) (fun v9 u9 h9 => ?_)
      obtain ⟨rfl, h9⟩ := h9
      subst u9
      refine kg_top 1 (kb_1 ((kIn_iff (by decide)).mpr h1)) ?_
      refine kg_if_eq cx 34 dX4_set_7 (by decide) (fun h9 => absurd h9 (by decide)) (fun h9 => ?_)
      refine kg_iload_n cx dX4_set_10 rfl ?_
      refine kg_iconst (v := 0) cx dX4_set_11 (by decide) ?_
      refine kg_bipush (v := (nI 31)) cx dX4_set_12 (by decide) ?_
      refine kg_callS (na := 3) cx (r_isIn l D c rd u x 0 (nI 31)) kcd_X4_isIn km_X4_100 kin_X4 kst_X4_isIn (by decide +kernel) rfl (by decide) (by decide) rfl (Nat.le_of_ble_eq_true rfl) dX4_set_14 (fun _ => kr_adr _ _) (fun v9 u9 h9 => ?_)
      obtain ⟨rfl, h9⟩ := h9
      subst u9
      refine kg_top 0 (kb_0 (fun q9 => h2 ((kIn_iff (by decide)).mp q9))) ?_
      refine kg_if_eq cx 34 dX4_set_17 (by decide) (fun h9 => ?_) (fun h9 => absurd h9 (by decide))
      refine kg_iconst (v := 0) cx dX4_set_34 (by decide) ?_
      refine kg_istore cx dX4_set_35 (by decide) ?_
      refine kg_aload_n cx dX4_set_37 rfl ?_
      refine kg_iload cx dX4_set_38 rfl ?_
      refine kg_if_ne cx 47 dX4_set_40 (by decide) (fun h9 => absurd h9 (by decide)) (fun h9 => ?_)
      refine kg_iconst (v := 1) cx dX4_set_43 (by decide) ?_
      refine kg_goto cx 78 dX4_set_44 (by decide) ?_
      refine kg_callV (ci := 4) (na := 1) cx (r_refused l D c rd u 1) 0 rfl rfl kcd_X4_refused km_X4_104 kin_X4 kim_X4_refused ksl_X4_refused (by decide +kernel) rfl (by decide) (by decide) rfl (Nat.le_of_ble_eq_true rfl) dX4_set_78 (fun _ => kr_adr _ _) (fun v9 u9 h9 => ?_)
      obtain ⟨rfl, h9⟩ := h9
      subst u9
      refine kg_top 1 (kb_1 (by decide)) ?_
      refine kg_if_eq cx 86 dX4_set_81 (by decide) (fun h9 => absurd h9 (by decide)) (fun h9 => ?_)
      refine kg_iconst (v := 0) cx dX4_set_84 (by decide) ?_
      exact kg_ireturn cx hr (rfl) _ rfl (⟨rfl, rfl⟩) dX4_set_85
  · refine kg_iload_n cx dX4_set_0 rfl ?_
    refine kg_iconst (v := 0) cx dX4_set_1 (by decide) ?_
    refine kg_bipush (v := (nI 7)) cx dX4_set_2 (by decide) ?_
    refine kg_callS (na := 3) cx (r_isIn l D c rd u a 0 (nI 7)) kcd_X4_isIn km_X4_100 kin_X4 kst_X4_isIn (by decide +kernel) rfl (by decide) (by decide) rfl (Nat.le_of_ble_eq_true rfl) dX4_set_4 (fun _ => kr_adr _ _) (fun v9 u9 h9 => ?_)
    obtain ⟨rfl, h9⟩ := h9
    subst u9
    refine kg_top 0 (kb_0 (fun q9 => h1 ((kIn_iff (by decide)).mp q9))) ?_
    refine kg_if_eq cx 34 dX4_set_7 (by decide) (fun h9 => ?_) (fun h9 => absurd h9 (by decide))
    refine kg_iconst (v := 0) cx dX4_set_34 (by decide) ?_
    refine kg_istore cx dX4_set_35 (by decide) ?_
    refine kg_aload_n cx dX4_set_37 rfl ?_
    refine kg_iload cx dX4_set_38 rfl ?_
    refine kg_if_ne cx 47 dX4_set_40 (by decide) (fun h9 => absurd h9 (by decide)) (fun h9 => ?_)
    refine kg_iconst (v := 1) cx dX4_set_43 (by decide) ?_
    refine kg_goto cx 78 dX4_set_44 (by decide) ?_
    refine kg_callV (ci := 4) (na := 1) cx (r_refused l D c rd u 1) 0 rfl rfl kcd_X4_refused km_X4_104 kin_X4 kim_X4_refused ksl_X4_refused (by decide +kernel) rfl (by decide) (by decide) rfl (Nat.le_of_ble_eq_true rfl) dX4_set_78 (fun _ => kr_adr _ _) (fun v9 u9 h9 => ?_)
    obtain ⟨rfl, h9⟩ := h9
    subst u9
    refine kg_top 1 (kb_1 (by decide)) ?_
    refine kg_if_eq cx 86 dX4_set_81 (by decide) (fun h9 => absurd h9 (by decide)) (fun h9 => ?_)
    refine kg_iconst (v := 0) cx dX4_set_84 (by decide) ?_
    exact kg_ireturn cx hr (rfl) _ rfl (⟨rfl, rfl⟩) dX4_set_85
set_option maxHeartbeats 4000000 in
set_option maxRecDepth 100000 in
theorem r_set_bad2 (l : Launch) (D : va_G) (c : Nat → ClassId) (rd : Nat → Nat) (n : Nat) (u : kS) (hn : n ≤ 8) (hF : u 21 0 0 = nI n) (val : Int32) (t : Nat) (ht : t < 8) (q : Nat) (hq : q < 32) (k : Nat) (hk : k < 8) (hx : ¬ (u 16 t 0 ≠ 0 ∧ u 17 t 0 = 0 ∧ ∃ f, kPinR u n (nI q) f)) : kR l D c rd yX4_set (Cond.code yX4_set cX4_set 8 (some .int)) 2 45 u [.ref (rd 0), .int (nI t), .int (nI q), .int (nI k), .int val] (fun v u9 => v = some (.int 0) ∧ u9 = ku u 20 0 0 (nI 2)) := by
  refine kR.mk (by decide) (by simp [Value.category]) (Nat.le_of_ble_eq_true rfl) ?_
  intro p e s m args below meth c9 cx hr
  refine kg_iload_n cx dX4_set_0 rfl ?_
  refine kg_iconst (v := 0) cx dX4_set_1 (by decide) ?_
  refine kg_bipush (v := (nI 7)) cx dX4_set_2 (by decide) ?_
  refine kg_callS (na := 3) cx (r_isIn l D c rd u (nI t) 0 (nI 7)) kcd_X4_isIn km_X4_100 kin_X4 kst_X4_isIn (by decide +kernel) rfl (by decide) (by decide) rfl (Nat.le_of_ble_eq_true rfl) dX4_set_4 (fun _ => kr_adr _ _) (fun v9 u9 h9 => ?_)
  obtain ⟨rfl, h9⟩ := h9
  subst u9
  refine kg_top 1 (kb_1 ((kIn_iff (by decide)).mpr ⟨t, ht, rfl⟩)) ?_
  refine kg_if_eq cx 34 dX4_set_7 (by decide) (fun h9 => absurd h9 (by decide)) (fun h9 => ?_)
  refine kg_iload_n cx dX4_set_10 rfl ?_
  refine kg_iconst (v := 0) cx dX4_set_11 (by decide) ?_
  refine kg_bipush (v := (nI 31)) cx dX4_set_12 (by decide) ?_
  refine kg_callS (na := 3) cx (r_isIn l D c rd u (nI q) 0 (nI 31)) kcd_X4_isIn km_X4_100 kin_X4 kst_X4_isIn (by decide +kernel) rfl (by decide) (by decide) rfl (Nat.le_of_ble_eq_true rfl) dX4_set_14 (fun _ => kr_adr _ _) (fun v9 u9 h9 => ?_)
  obtain ⟨rfl, h9⟩ := h9
  subst u9
  refine kg_top 1 (kb_1 ((kIn_iff (by decide)).mpr ⟨q, hq, rfl⟩)) ?_
  refine kg_if_eq cx 34 dX4_set_17 (by decide) (fun h9 => absurd h9 (by decide)) (fun h9 => ?_)
  refine kg_iload_n cx dX4_set_20 rfl ?_
  refine kg_iconst (v := 0) cx dX4_set_21 (by decide) ?_
  refine kg_bipush (v := (nI 7)) cx dX4_set_22 (by decide) ?_
  refine kg_callS (na := 3) cx (r_isIn l D c rd u (nI k) 0 (nI 7)) kcd_X4_isIn km_X4_100 kin_X4 kst_X4_isIn (by decide +kernel) rfl (by decide) (by decide) rfl (Nat.le_of_ble_eq_true rfl) dX4_set_24 (fun _ => kr_adr _ _) (fun v9 u9 h9 => ?_)
  obtain ⟨rfl, h9⟩ := h9
  subst u9
  refine kg_top 1 (kb_1 ((kIn_iff (by decide)).mpr ⟨k, hk, rfl⟩)) ?_
  refine kg_if_eq cx 34 dX4_set_27 (by decide) (fun h9 => absurd h9 (by decide)) (fun h9 => ?_)
  refine kg_iconst (v := 1) cx dX4_set_30 (by decide) ?_
  refine kg_goto cx 35 dX4_set_31 (by decide) ?_
  refine kg_istore cx dX4_set_35 (by decide) ?_
  refine kg_aload_n cx dX4_set_37 rfl ?_
  refine kg_iload cx dX4_set_38 rfl ?_
  refine kg_if_ne cx 47 dX4_set_40 (by decide) (fun h9 => ?_) (fun h9 => absurd h9 (by decide))
  refine kg_aload_n cx dX4_set_47 rfl ?_
  refine kg_get (ci := 4) cx 0 21 kfs_X4 rfl (by decide) rfl rfl kf_X4_59 dX4_set_48 ?_
  refine kg_iload_n cx dX4_set_51 rfl ?_
  refine kg_zaldN cx 17 1 t rfl rfl (rfl) (ht) (by decide) (rfl) dX4_set_52 ?_
  refine kg_if_eq cx 73 dX4_set_53 (by decide) (fun h1 => ?_) (fun h1 => ?_)
  · refine kg_iconst (v := (nI 2)) cx dX4_set_73 (by decide) ?_
    refine kg_goto cx 78 dX4_set_74 (by decide) ?_
    refine kg_callV (ci := 4) (na := 1) cx (r_refused l D c rd u (nI 2)) 0 rfl rfl kcd_X4_refused km_X4_104 kin_X4 kim_X4_refused ksl_X4_refused (by decide +kernel) rfl (by decide) (by decide) rfl (Nat.le_of_ble_eq_true rfl) dX4_set_78 (fun _ => kr_adr _ _) (fun v9 u9 h9 => ?_)
    obtain ⟨rfl, h9⟩ := h9
    subst u9
    refine kg_top 1 (kb_1 (by decide)) ?_
    refine kg_if_eq cx 86 dX4_set_81 (by decide) (fun h9 => absurd h9 (by decide)) (fun h9 => ?_)
    refine kg_iconst (v := 0) cx dX4_set_84 (by decide) ?_
    exact kg_ireturn cx hr (rfl) _ rfl (⟨rfl, rfl⟩) dX4_set_85
  · refine kg_aload_n cx dX4_set_56 rfl ?_
    refine kg_get (ci := 4) cx 0 22 kfs_X4 rfl (by decide) rfl rfl kf_X4_62 dX4_set_57 ?_
    refine kg_iload_n cx dX4_set_60 rfl ?_
    refine kg_zaldN cx 18 1 t rfl rfl (rfl) (ht) (by decide) (rfl) dX4_set_61 ?_
    refine kg_if_ne cx 73 dX4_set_62 (by decide) (fun h2 => ?_) (fun h2 => ?_)
    · refine kg_iconst (v := (nI 2)) cx dX4_set_73 (by decide) ?_
      refine kg_goto cx 78 dX4_set_74 (by decide) ?_
      refine kg_callV (ci := 4) (na := 1) cx (r_refused l D c rd u (nI 2)) 0 rfl rfl kcd_X4_refused km_X4_104 kin_X4 kim_X4_refused ksl_X4_refused (by decide +kernel) rfl (by decide) (by decide) rfl (Nat.le_of_ble_eq_true rfl) dX4_set_78 (fun _ => kr_adr _ _) (fun v9 u9 h9 => ?_)
      obtain ⟨rfl, h9⟩ := h9
      subst u9
      refine kg_top 1 (kb_1 (by decide)) ?_
      refine kg_if_eq cx 86 dX4_set_81 (by decide) (fun h9 => absurd h9 (by decide)) (fun h9 => ?_)
      refine kg_iconst (v := 0) cx dX4_set_84 (by decide) ?_
      exact kg_ireturn cx hr (rfl) _ rfl (⟨rfl, rfl⟩) dX4_set_85
    · have hf : ¬ ∃ f, kPinR u n (nI q) f := fun q8 => hx ⟨h1, h2, q8⟩
      refine kg_aload_n cx dX4_set_65 rfl ?_
      refine kg_iload_n cx dX4_set_66 rfl ?_
      refine kg_callV (ci := 4) (na := 1) cx (r_isPinned l D c rd n u (nI q) hn hF) 0 rfl rfl kcd_X4_isPinned km_X4_110 kin_X4 kim_X4_isPinned ksl_X4_isPinned (by decide +kernel) rfl (by decide) (by decide) rfl (Nat.le_of_ble_eq_true rfl) dX4_set_67 (fun _ => kr_adr _ _) (fun v9 u9 h9 => ?_)
      obtain ⟨h9, e9⟩ := h9
      subst u9
      rcases h9 with ⟨hp9, rfl⟩ | ⟨hp9, rfl⟩
      case inl => exact absurd hp9 hf
      refine kg_if_ne cx 77 dX4_set_70 (by decide) (fun h9 => absurd h9 (by decide)) (fun h9 => ?_)
      refine kg_iconst (v := (nI 2)) cx dX4_set_73 (by decide) ?_
      refine kg_goto cx 78 dX4_set_74 (by decide) ?_
      refine kg_callV (ci := 4) (na := 1) cx (r_refused l D c rd u (nI 2)) 0 rfl rfl kcd_X4_refused km_X4_104 kin_X4 kim_X4_refused ksl_X4_refused (by decide +kernel) rfl (by decide) (by decide) rfl (Nat.le_of_ble_eq_true rfl) dX4_set_78 (fun _ => kr_adr _ _) (fun v9 u9 h9 => ?_)
      obtain ⟨rfl, h9⟩ := h9
      subst u9
      refine kg_top 1 (kb_1 (by decide)) ?_
      refine kg_if_eq cx 86 dX4_set_81 (by decide) (fun h9 => absurd h9 (by decide)) (fun h9 => ?_)
      refine kg_iconst (v := 0) cx dX4_set_84 (by decide) ?_
      exact kg_ireturn cx hr (rfl) _ rfl (⟨rfl, rfl⟩) dX4_set_85
set_option maxHeartbeats 4000000 in
set_option maxRecDepth 100000 in
theorem r_set_full (l : Launch) (D : va_G) (c : Nat → ClassId) (rd : Nat → Nat) (n : Nat) (u : kS) (w9 : kS) (hw : ku u 20 0 0 0 = w9) (hn : n ≤ 8) (hF : u 21 0 0 = nI n) (val : Int32) (t : Nat) (ht : t < 8) (q : Nat) (hq : q < 32) (k : Nat) (hk : k < 8) (z : Nat) (hs : w9 14 0 0 = nI z) (hz : z ≤ 400) (h1 : u 16 t 0 ≠ 0) (h2 : u 17 t 0 = 0) (f : Nat) (hf : kPinR u n (nI q) f) (hr3 : ¬ z + 1 + kNeed w9 z 8 + 1 + 1 ≤ 400) : kR l D c rd yX4_set (Cond.code yX4_set cX4_set 8 (some .int)) 2 45 u [.ref (rd 0), .int (nI t), .int (nI q), .int (nI k), .int val] (fun v u9 => v = some (.int (-2)) ∧ u9 = w9) := by
  refine kR.mk (by decide) (by simp [Value.category]) (Nat.le_of_ble_eq_true rfl) ?_
  intro p e s m args below meth c9 cx hr
  refine kg_iload_n cx dX4_set_0 rfl ?_
  refine kg_iconst (v := 0) cx dX4_set_1 (by decide) ?_
  refine kg_bipush (v := (nI 7)) cx dX4_set_2 (by decide) ?_
  refine kg_callS (na := 3) cx (r_isIn l D c rd u (nI t) 0 (nI 7)) kcd_X4_isIn km_X4_100 kin_X4 kst_X4_isIn (by decide +kernel) rfl (by decide) (by decide) rfl (Nat.le_of_ble_eq_true rfl) dX4_set_4 (fun _ => kr_adr _ _) (fun v9 u9 h9 => ?_)
  obtain ⟨rfl, h9⟩ := h9
  subst u9
  refine kg_top 1 (kb_1 ((kIn_iff (by decide)).mpr ⟨t, ht, rfl⟩)) ?_
  refine kg_if_eq cx 34 dX4_set_7 (by decide) (fun h9 => absurd h9 (by decide)) (fun h9 => ?_)
  refine kg_iload_n cx dX4_set_10 rfl ?_
  refine kg_iconst (v := 0) cx dX4_set_11 (by decide) ?_
  refine kg_bipush (v := (nI 31)) cx dX4_set_12 (by decide) ?_
  refine kg_callS (na := 3) cx (r_isIn l D c rd u (nI q) 0 (nI 31)) kcd_X4_isIn km_X4_100 kin_X4 kst_X4_isIn (by decide +kernel) rfl (by decide) (by decide) rfl (Nat.le_of_ble_eq_true rfl) dX4_set_14 (fun _ => kr_adr _ _) (fun v9 u9 h9 => ?_)
  obtain ⟨rfl, h9⟩ := h9
  subst u9
  refine kg_top 1 (kb_1 ((kIn_iff (by decide)).mpr ⟨q, hq, rfl⟩)) ?_
  refine kg_if_eq cx 34 dX4_set_17 (by decide) (fun h9 => absurd h9 (by decide)) (fun h9 => ?_)
  refine kg_iload_n cx dX4_set_20 rfl ?_
  refine kg_iconst (v := 0) cx dX4_set_21 (by decide) ?_
  refine kg_bipush (v := (nI 7)) cx dX4_set_22 (by decide) ?_
  refine kg_callS (na := 3) cx (r_isIn l D c rd u (nI k) 0 (nI 7)) kcd_X4_isIn km_X4_100 kin_X4 kst_X4_isIn (by decide +kernel) rfl (by decide) (by decide) rfl (Nat.le_of_ble_eq_true rfl) dX4_set_24 (fun _ => kr_adr _ _) (fun v9 u9 h9 => ?_)
  obtain ⟨rfl, h9⟩ := h9
  subst u9
  refine kg_top 1 (kb_1 ((kIn_iff (by decide)).mpr ⟨k, hk, rfl⟩)) ?_
  refine kg_if_eq cx 34 dX4_set_27 (by decide) (fun h9 => absurd h9 (by decide)) (fun h9 => ?_)
  refine kg_iconst (v := 1) cx dX4_set_30 (by decide) ?_
  refine kg_goto cx 35 dX4_set_31 (by decide) ?_
  refine kg_istore cx dX4_set_35 (by decide) ?_
  refine kg_aload_n cx dX4_set_37 rfl ?_
  refine kg_iload cx dX4_set_38 rfl ?_
  refine kg_if_ne cx 47 dX4_set_40 (by decide) (fun h9 => ?_) (fun h9 => absurd h9 (by decide))
  refine kg_aload_n cx dX4_set_47 rfl ?_
  refine kg_get (ci := 4) cx 0 21 kfs_X4 rfl (by decide) rfl rfl kf_X4_59 dX4_set_48 ?_
  refine kg_iload_n cx dX4_set_51 rfl ?_
  refine kg_zaldN cx 17 1 t rfl rfl (rfl) (ht) (by decide) (rfl) dX4_set_52 ?_
  refine kg_if_eq cx 73 dX4_set_53 (by decide) (fun h9 => absurd h9 h1) (fun h9 => ?_)
  refine kg_aload_n cx dX4_set_56 rfl ?_
  refine kg_get (ci := 4) cx 0 22 kfs_X4 rfl (by decide) rfl rfl kf_X4_62 dX4_set_57 ?_
  refine kg_iload_n cx dX4_set_60 rfl ?_
  refine kg_zaldN cx 18 1 t rfl rfl (rfl) (ht) (by decide) (rfl) dX4_set_61 ?_
  refine kg_if_ne cx 73 dX4_set_62 (by decide) (fun h9 => absurd h2 h9) (fun h9 => ?_)
  refine kg_aload_n cx dX4_set_65 rfl ?_
  refine kg_iload_n cx dX4_set_66 rfl ?_
  refine kg_callV (ci := 4) (na := 1) cx (r_isPinned l D c rd n u (nI q) hn hF) 0 rfl rfl kcd_X4_isPinned km_X4_110 kin_X4 kim_X4_isPinned ksl_X4_isPinned (by decide +kernel) rfl (by decide) (by decide) rfl (Nat.le_of_ble_eq_true rfl) dX4_set_67 (fun _ => kr_adr _ _) (fun v9 u9 h9 => ?_)
  obtain ⟨h9, e9⟩ := h9
  subst u9
  rcases h9 with ⟨hp9, rfl⟩ | ⟨hp9, rfl⟩
  case inr => exact absurd ⟨f, hf⟩ hp9
  refine kg_if_ne cx 77 dX4_set_70 (by decide) (fun h9 => ?_) (fun h9 => absurd h9 (by decide))
  refine kg_iconst (v := 0) cx dX4_set_77 (by decide) ?_
  refine kg_callV (ci := 4) (na := 1) cx (r_refused l D c rd u 0) 0 rfl rfl kcd_X4_refused km_X4_104 kin_X4 kim_X4_refused ksl_X4_refused (by decide +kernel) rfl (by decide) (by decide) rfl (Nat.le_of_ble_eq_true rfl) dX4_set_78 (fun _ => kr_adr _ _) (fun v9 u9 h9 => ?_)
  obtain ⟨rfl, h9⟩ := h9
  subst u9
  refine kg_top 0 (kb_0 (by decide)) ?_
  refine kg_if_eq cx 86 dX4_set_81 (by decide) (fun h9 => ?_) (fun h9 => absurd h9 (by decide))
  refine kg_eq (congrArg (kr rd c) hw) rfl rfl rfl ?_
  have hnd := kNeed_le w9 z hz 8
  refine kg_aload_n cx dX4_set_86 rfl ?_
  refine kg_get (ci := 4) cx 0 11 kfs_X4 rfl (by decide) rfl rfl kf_X4_113 dX4_set_87 ?_
  refine kg_iconst (v := 1) cx dX4_set_90 (by decide) ?_
  refine kg_iadd cx dX4_set_91 ?_
  refine kg_top (nI (z + 1)) (by rw [hs]; exact nI_1 z) ?_
  refine kg_aload_n cx dX4_set_92 rfl ?_
  refine kg_callV (ci := 4) (na := 0) cx (r_needed l D c rd w9 z hs hz) 0 rfl rfl kcd_X4_needed km_X4_119 kin_X4 kim_X4_needed ksl_X4_needed (by decide +kernel) rfl (by decide) (by decide) rfl (Nat.le_of_ble_eq_true rfl) dX4_set_93 (fun _ => kr_adr _ _) (fun v9 u9 h9 => ?_)
  obtain ⟨rfl, h9⟩ := h9
  subst u9
  refine kg_iadd cx dX4_set_96 ?_
  refine kg_top (nI (z + 1 + kNeed w9 z 8)) (nI_add _ _) ?_
  refine kg_iconst (v := 1) cx dX4_set_97 (by decide) ?_
  refine kg_iadd cx dX4_set_98 ?_
  refine kg_top (nI (z + 1 + kNeed w9 z 8 + 1)) (nI_1 _) ?_
  refine kg_iconst (v := 1) cx dX4_set_99 (by decide) ?_
  refine kg_iadd cx dX4_set_100 ?_
  refine kg_top (nI (z + 1 + kNeed w9 z 8 + 1 + 1)) (nI_1 _) ?_
  refine kg_sipush (v := (nI 400)) cx dX4_set_101 (by decide) ?_
  refine kg_icmp_le cx 110 dX4_set_104 (by decide) (fun h9 => absurd ((nI_leI (by omega) (by omega)).mp h9) hr3) (fun h9 => ?_)
  refine kg_bipush (v := (-2)) cx dX4_set_107 (by decide) ?_
  exact kg_ireturn cx hr (rfl) _ rfl (⟨rfl, rfl⟩) dX4_set_109
/-- an UPDATE, as the reference lays it -/
def kSetR (w : kS) (f t q k : Nat) (x : Int32) (z : Nat) : kS := ku (ku (ku (ku (ku (ku (ku (kRec w z 0 (nI t)) 9 (z + 1) 2 (nI q)) 9 (z + 1) 3 (nI k)) 9 (z + 1) 4 (w 23 f k)) 9 (z + 1) 5 x) 23 f k x) 5 f 8 (nI (z + 1))) 3 f 0 1
set_option maxHeartbeats 4000000 in
set_option maxRecDepth 100000 in
theorem r_set_ok (l : Launch) (D : va_G) (c : Nat → ClassId) (rd : Nat → Nat) (n : Nat) (u : kS) (w9 : kS) (hw : ku u 20 0 0 0 = w9) (hn : n ≤ 8) (hF : u 21 0 0 = nI n) (val : Int32) (t : Nat) (ht : t < 8) (q : Nat) (hq : q < 32) (k : Nat) (hk : k < 8) (z : Nat) (hs : w9 14 0 0 = nI z) (hz : z ≤ 400) (h1 : u 16 t 0 ≠ 0) (h2 : u 17 t 0 = 0) (f : Nat) (hf : kPinR u n (nI q) f) (hr3 : z + 1 + kNeed w9 z 8 + 1 + 1 ≤ 400) : kR l D c rd yX4_set (Cond.code yX4_set cX4_set 8 (some .int)) 2 45 u [.ref (rd 0), .int (nI t), .int (nI q), .int (nI k), .int val] (fun v u9 => v = some (.int (nI (z + 1))) ∧ u9 = kSetR w9 f t q k val z) := by
  refine kR.mk (by decide) (by simp [Value.category]) (Nat.le_of_ble_eq_true rfl) ?_
  intro p e s m args below meth c9 cx hr
  refine kg_iload_n cx dX4_set_0 rfl ?_
  refine kg_iconst (v := 0) cx dX4_set_1 (by decide) ?_
  refine kg_bipush (v := (nI 7)) cx dX4_set_2 (by decide) ?_
  refine kg_callS (na := 3) cx (r_isIn l D c rd u (nI t) 0 (nI 7)) kcd_X4_isIn km_X4_100 kin_X4 kst_X4_isIn (by decide +kernel) rfl (by decide) (by decide) rfl (Nat.le_of_ble_eq_true rfl) dX4_set_4 (fun _ => kr_adr _ _) (fun v9 u9 h9 => ?_)
  obtain ⟨rfl, h9⟩ := h9
  subst u9
  refine kg_top 1 (kb_1 ((kIn_iff (by decide)).mpr ⟨t, ht, rfl⟩)) ?_
  refine kg_if_eq cx 34 dX4_set_7 (by decide) (fun h9 => absurd h9 (by decide)) (fun h9 => ?_)
  refine kg_iload_n cx dX4_set_10 rfl ?_
  refine kg_iconst (v := 0) cx dX4_set_11 (by decide) ?_
  refine kg_bipush (v := (nI 31)) cx dX4_set_12 (by decide) ?_
  refine kg_callS (na := 3) cx (r_isIn l D c rd u (nI q) 0 (nI 31)) kcd_X4_isIn km_X4_100 kin_X4 kst_X4_isIn (by decide +kernel) rfl (by decide) (by decide) rfl (Nat.le_of_ble_eq_true rfl) dX4_set_14 (fun _ => kr_adr _ _) (fun v9 u9 h9 => ?_)
  obtain ⟨rfl, h9⟩ := h9
  subst u9
  refine kg_top 1 (kb_1 ((kIn_iff (by decide)).mpr ⟨q, hq, rfl⟩)) ?_
  refine kg_if_eq cx 34 dX4_set_17 (by decide) (fun h9 => absurd h9 (by decide)) (fun h9 => ?_)
  refine kg_iload_n cx dX4_set_20 rfl ?_
  refine kg_iconst (v := 0) cx dX4_set_21 (by decide) ?_
  refine kg_bipush (v := (nI 7)) cx dX4_set_22 (by decide) ?_
  refine kg_callS (na := 3) cx (r_isIn l D c rd u (nI k) 0 (nI 7)) kcd_X4_isIn km_X4_100 kin_X4 kst_X4_isIn (by decide +kernel) rfl (by decide) (by decide) rfl (Nat.le_of_ble_eq_true rfl) dX4_set_24 (fun _ => kr_adr _ _) (fun v9 u9 h9 => ?_)
  obtain ⟨rfl, h9⟩ := h9
  subst u9
  refine kg_top 1 (kb_1 ((kIn_iff (by decide)).mpr ⟨k, hk, rfl⟩)) ?_
  refine kg_if_eq cx 34 dX4_set_27 (by decide) (fun h9 => absurd h9 (by decide)) (fun h9 => ?_)
  refine kg_iconst (v := 1) cx dX4_set_30 (by decide) ?_
  refine kg_goto cx 35 dX4_set_31 (by decide) ?_
  refine kg_istore cx dX4_set_35 (by decide) ?_
  refine kg_aload_n cx dX4_set_37 rfl ?_
  refine kg_iload cx dX4_set_38 rfl ?_
  refine kg_if_ne cx 47 dX4_set_40 (by decide) (fun h9 => ?_) (fun h9 => absurd h9 (by decide))
  refine kg_aload_n cx dX4_set_47 rfl ?_
  refine kg_get (ci := 4) cx 0 21 kfs_X4 rfl (by decide) rfl rfl kf_X4_59 dX4_set_48 ?_
  refine kg_iload_n cx dX4_set_51 rfl ?_
  refine kg_zaldN cx 17 1 t rfl rfl (rfl) (ht) (by decide) (rfl) dX4_set_52 ?_
  refine kg_if_eq cx 73 dX4_set_53 (by decide) (fun h9 => absurd h9 h1) (fun h9 => ?_)
  refine kg_aload_n cx dX4_set_56 rfl ?_
  refine kg_get (ci := 4) cx 0 22 kfs_X4 rfl (by decide) rfl rfl kf_X4_62 dX4_set_57 ?_
  refine kg_iload_n cx dX4_set_60 rfl ?_
  refine kg_zaldN cx 18 1 t rfl rfl (rfl) (ht) (by decide) (rfl) dX4_set_61 ?_
  refine kg_if_ne cx 73 dX4_set_62 (by decide) (fun h9 => absurd h2 h9) (fun h9 => ?_)
  refine kg_aload_n cx dX4_set_65 rfl ?_
  refine kg_iload_n cx dX4_set_66 rfl ?_
  refine kg_callV (ci := 4) (na := 1) cx (r_isPinned l D c rd n u (nI q) hn hF) 0 rfl rfl kcd_X4_isPinned km_X4_110 kin_X4 kim_X4_isPinned ksl_X4_isPinned (by decide +kernel) rfl (by decide) (by decide) rfl (Nat.le_of_ble_eq_true rfl) dX4_set_67 (fun _ => kr_adr _ _) (fun v9 u9 h9 => ?_)
  obtain ⟨h9, e9⟩ := h9
  subst u9
  rcases h9 with ⟨hp9, rfl⟩ | ⟨hp9, rfl⟩
  case inr => exact absurd ⟨f, hf⟩ hp9
  refine kg_if_ne cx 77 dX4_set_70 (by decide) (fun h9 => ?_) (fun h9 => absurd h9 (by decide))
  refine kg_iconst (v := 0) cx dX4_set_77 (by decide) ?_
  refine kg_callV (ci := 4) (na := 1) cx (r_refused l D c rd u 0) 0 rfl rfl kcd_X4_refused km_X4_104 kin_X4 kim_X4_refused ksl_X4_refused (by decide +kernel) rfl (by decide) (by decide) rfl (Nat.le_of_ble_eq_true rfl) dX4_set_78 (fun _ => kr_adr _ _) (fun v9 u9 h9 => ?_)
  obtain ⟨rfl, h9⟩ := h9
  subst u9
  refine kg_top 0 (kb_0 (by decide)) ?_
  refine kg_if_eq cx 86 dX4_set_81 (by decide) (fun h9 => ?_) (fun h9 => absurd h9 (by decide))
  refine kg_eq (congrArg (kr rd c) hw) rfl rfl rfl ?_
  have hnd := kNeed_le w9 z hz 8
  refine kg_aload_n cx dX4_set_86 rfl ?_
  refine kg_get (ci := 4) cx 0 11 kfs_X4 rfl (by decide) rfl rfl kf_X4_113 dX4_set_87 ?_
  refine kg_iconst (v := 1) cx dX4_set_90 (by decide) ?_
  refine kg_iadd cx dX4_set_91 ?_
  refine kg_top (nI (z + 1)) (by rw [hs]; exact nI_1 z) ?_
  refine kg_aload_n cx dX4_set_92 rfl ?_
  refine kg_callV (ci := 4) (na := 0) cx (r_needed l D c rd w9 z hs hz) 0 rfl rfl kcd_X4_needed km_X4_119 kin_X4 kim_X4_needed ksl_X4_needed (by decide +kernel) rfl (by decide) (by decide) rfl (Nat.le_of_ble_eq_true rfl) dX4_set_93 (fun _ => kr_adr _ _) (fun v9 u9 h9 => ?_)
  obtain ⟨rfl, h9⟩ := h9
  subst u9
  refine kg_iadd cx dX4_set_96 ?_
  refine kg_top (nI (z + 1 + kNeed w9 z 8)) (nI_add _ _) ?_
  refine kg_iconst (v := 1) cx dX4_set_97 (by decide) ?_
  refine kg_iadd cx dX4_set_98 ?_
  refine kg_top (nI (z + 1 + kNeed w9 z 8 + 1)) (nI_1 _) ?_
  refine kg_iconst (v := 1) cx dX4_set_99 (by decide) ?_
  refine kg_iadd cx dX4_set_100 ?_
  refine kg_top (nI (z + 1 + kNeed w9 z 8 + 1 + 1)) (nI_1 _) ?_
  refine kg_sipush (v := (nI 400)) cx dX4_set_101 (by decide) ?_
  refine kg_icmp_le cx 110 dX4_set_104 (by decide) (fun h9 => ?_) (fun h9 => absurd ((nI_leI (by omega) (by omega)).mpr hr3) h9)
  refine kg_aload_n cx dX4_set_110 rfl ?_
  refine kg_iload_n cx dX4_set_111 rfl ?_
  refine kg_callV (ci := 4) (na := 1) cx (r_frameOf l D c rd n w9 (nI q) hn (by rw [← hw]; exact (ku_F (by decide)).trans hF)) 0 rfl rfl kcd_X4_frameOf km_X4_89 kin_X4 kim_X4_frameOf ksl_X4_frameOf (by decide +kernel) rfl (by decide) (by decide) rfl (Nat.le_of_ble_eq_true rfl) dX4_set_112 (fun _ => kr_adr _ _) (fun v9 u9 h9 => ?_)
  obtain ⟨⟨r9, rfl, hr9⟩, h9⟩ := h9
  subst u9
  have hfw : kPinR w9 n (nI q) f := by rw [← hw]; exact kPinR_20.mpr hf
  have er9 : r9 = nI f := by
    rcases hr9 with ⟨g, g1, rfl, g2, g3⟩ | ⟨-, g1⟩
    · rw [kLeast_eq hfw.2.1 hfw.2.2.1 g2 g3]
    · exact absurd hfw.2.1 (g1 f hfw.1)
  subst er9
  have hfn : f < 8 := Nat.lt_of_lt_of_le hfw.1 hn
  refine kg_istore cx dX4_set_115 (by decide) ?_
  refine kg_aload_n cx dX4_set_117 rfl ?_
  refine kg_iconst (v := 0) cx dX4_set_118 (by decide) ?_
  refine kg_iload_n cx dX4_set_119 rfl ?_
  refine kg_callV (ci := 4) (na := 2) cx (r_record l D c rd w9 0 (nI t) z hs (by omega)) 0 rfl rfl kcd_X4_record km_X4_122 kin_X4 kim_X4_record ksl_X4_record (by decide +kernel) rfl (by decide) (by decide) rfl (Nat.le_of_ble_eq_true rfl) dX4_set_120 (fun _ => kr_adr _ _) (fun v9 u9 h9 => ?_)
  obtain ⟨rfl, h9⟩ := h9
  subst u9
  refine kg_istore cx dX4_set_123 (by decide) ?_
  refine kg_aload_n cx dX4_set_125 rfl ?_
  refine kg_get (ci := 4) cx 0 15 kfs_X4 rfl (by decide) rfl rfl kf_X4_41 dX4_set_126 ?_
  refine kg_iload cx dX4_set_129 rfl ?_
  refine kg_iload_n cx dX4_set_131 rfl ?_
  refine kg_iastN cx 11 0 (z + 1) rfl rfl (rfl) (by omega) (by decide) (kq_page (z + 1) _) dX4_set_132 ?_
  refine kg_aload_n cx dX4_set_133 rfl ?_
  refine kg_get (ci := 4) cx 0 16 kfs_X4 rfl (by decide) rfl rfl kf_X4_44 dX4_set_134 ?_
  refine kg_iload cx dX4_set_137 rfl ?_
  refine kg_iload_n cx dX4_set_139 rfl ?_
  refine kg_iastN cx 12 0 (z + 1) rfl rfl (rfl) (by omega) (by decide) (kq_which (z + 1) _) dX4_set_140 ?_
  refine kg_aload_n cx dX4_set_141 rfl ?_
  refine kg_get (ci := 4) cx 0 17 kfs_X4 rfl (by decide) rfl rfl kf_X4_47 dX4_set_142 ?_
  refine kg_iload cx dX4_set_145 rfl ?_
  refine kg_aload_n cx dX4_set_147 rfl ?_
  refine kg_get (ci := 4) cx 0 5 kfs_X4 rfl (by decide) rfl rfl kf_X4_19 dX4_set_148 ?_
  refine kg_bipush (v := (nI 8)) cx dX4_set_151 (by decide) ?_
  refine kg_iload cx dX4_set_153 rfl ?_
  refine kg_imul cx dX4_set_155 ?_
  refine kg_top (nI (8 * f)) (pk_mul 8 f) ?_
  refine kg_iload_n cx dX4_set_156 rfl ?_
  refine kg_iadd cx dX4_set_157 ?_
  refine kg_top (nI (8 * f + k)) (nI_add _ _) ?_
  refine kg_ialdN (v := (w9 23 f k)) cx 4 0 (8 * f + k) rfl rfl (rfl) (by omega) (by decide) (by show ku (ku (kRec w9 z 0 (nI t)) 9 (z + 1) 2 (nI q)) 9 (z + 1) 3 (nI k) 23 ((8 * f + k) / 8) ((8 * f + k) % 8) = w9 23 f k; rw [show (8 * f + k) / 8 = f by omega, show (8 * f + k) % 8 = k by omega]; simp [kRec, kApp, ku]) dX4_set_158 ?_
  refine kg_iastN cx 13 0 (z + 1) rfl rfl (rfl) (by omega) (by decide) (kq_was (z + 1) _) dX4_set_159 ?_
  refine kg_aload_n cx dX4_set_160 rfl ?_
  refine kg_get (ci := 4) cx 0 18 kfs_X4 rfl (by decide) rfl rfl kf_X4_50 dX4_set_161 ?_
  refine kg_iload cx dX4_set_164 rfl ?_
  refine kg_iload cx dX4_set_166 rfl ?_
  refine kg_iastN cx 14 0 (z + 1) rfl rfl (rfl) (by omega) (by decide) (kq_becomes (z + 1) _) dX4_set_168 ?_
  refine kg_aload_n cx dX4_set_169 rfl ?_
  refine kg_get (ci := 4) cx 0 5 kfs_X4 rfl (by decide) rfl rfl kf_X4_19 dX4_set_170 ?_
  refine kg_bipush (v := (nI 8)) cx dX4_set_173 (by decide) ?_
  refine kg_iload cx dX4_set_175 rfl ?_
  refine kg_imul cx dX4_set_177 ?_
  refine kg_top (nI (8 * f)) (pk_mul 8 f) ?_
  refine kg_iload_n cx dX4_set_178 rfl ?_
  refine kg_iadd cx dX4_set_179 ?_
  refine kg_top (nI (8 * f + k)) (nI_add _ _) ?_
  refine kg_iload cx dX4_set_180 rfl ?_
  refine kg_iastN cx 4 0 (8 * f + k) rfl rfl (rfl) (by omega) (by decide) (kq_number f k hk _) dX4_set_182 ?_
  refine kg_aload_n cx dX4_set_183 rfl ?_
  refine kg_get (ci := 4) cx 0 6 kfs_X4 rfl (by decide) rfl rfl kf_X4_22 dX4_set_184 ?_
  refine kg_iload cx dX4_set_187 rfl ?_
  refine kg_iload cx dX4_set_189 rfl ?_
  refine kg_iastN cx 5 0 f rfl rfl (rfl) (hfn) (by decide) (kq_frameLsn f _) dX4_set_191 ?_
  refine kg_aload_n cx dX4_set_192 rfl ?_
  refine kg_get (ci := 4) cx 0 8 kfs_X4 rfl (by decide) rfl rfl kf_X4_28 dX4_set_193 ?_
  refine kg_iload cx dX4_set_196 rfl ?_
  refine kg_iconst (v := 1) cx dX4_set_198 (by decide) ?_
  refine kg_zastN cx 7 1 f rfl rfl (rfl) (hfn) (by decide) (by decide) (kq_isDirty f _) dX4_set_199 ?_
  refine kg_iload cx dX4_set_200 rfl ?_
  exact kg_ireturn cx hr (rfl) _ rfl (⟨rfl, rfl⟩) dX4_set_202
set_option maxHeartbeats 4000000 in
set_option maxRecDepth 100000 in
theorem r_commit_bad (l : Launch) (D : va_G) (c : Nat → ClassId) (rd : Nat → Nat) (u : kS) (a : Int32) (hx : ¬ kIn a 8) : kR l D c rd yX4_commit (Cond.code yX4_commit cX4_commit 2 (some .int)) 1 22 u [.ref (rd 0), .int a] (fun v u9 => v = some (.int 0) ∧ u9 = ku u 20 0 0 1) := by
  refine kR.mk (by decide) (by simp [Value.category]) (Nat.le_of_ble_eq_true rfl) ?_
  intro p e s m args below meth c9 cx hr
  refine kg_aload_n cx dX4_commit_0 rfl ?_
  refine kg_iload_n cx dX4_commit_1 rfl ?_
  refine kg_iconst (v := 0) cx dX4_commit_2 (by decide) ?_
  refine kg_bipush (v := (nI 7)) cx dX4_commit_3 (by decide) ?_
  refine kg_callS (na := 3) cx (r_isIn l D c rd u a 0 (nI 7)) kcd_X4_isIn km_X4_100 kin_X4 kst_X4_isIn (by decide +kernel) rfl (by decide) (by decide) rfl (Nat.le_of_ble_eq_true rfl) dX4_commit_5 (fun _ => kr_adr _ _) (fun v9 u9 h9 => ?_)
  obtain ⟨rfl, h9⟩ := h9
  subst u9
  refine kg_top 0 (kb_0 (fun q9 => hx ((kIn_iff (by decide)).mp q9))) ?_
  refine kg_if_ne cx 15 dX4_commit_8 (by decide) (fun h9 => absurd h9 (by decide)) (fun h9 => ?_)
  refine kg_iconst (v := 1) cx dX4_commit_11 (by decide) ?_
  refine kg_goto cx 38 dX4_commit_12 (by decide) ?_
  refine kg_callV (ci := 4) (na := 1) cx (r_refused l D c rd u 1) 0 rfl rfl kcd_X4_refused km_X4_104 kin_X4 kim_X4_refused ksl_X4_refused (by decide +kernel) rfl (by decide) (by decide) rfl (Nat.le_of_ble_eq_true rfl) dX4_commit_38 (fun _ => kr_adr _ _) (fun v9 u9 h9 => ?_)
  obtain ⟨rfl, h9⟩ := h9
  subst u9
  refine kg_top 1 (kb_1 (by decide)) ?_
  refine kg_if_eq cx 46 dX4_commit_41 (by decide) (fun h9 => absurd h9 (by decide)) (fun h9 => ?_)
  refine kg_iconst (v := 0) cx dX4_commit_44 (by decide) ?_
  exact kg_ireturn cx hr (rfl) _ rfl (⟨rfl, rfl⟩) dX4_commit_45
set_option maxHeartbeats 4000000 in
set_option maxRecDepth 100000 in
theorem r_commit_bad2 (l : Launch) (D : va_G) (c : Nat → ClassId) (rd : Nat → Nat) (u : kS) (t : Nat) (ht : t < 8) (hx : ¬ (u 16 t 0 ≠ 0 ∧ u 17 t 0 = 0)) : kR l D c rd yX4_commit (Cond.code yX4_commit cX4_commit 2 (some .int)) 1 22 u [.ref (rd 0), .int (nI t)] (fun v u9 => v = some (.int 0) ∧ u9 = ku u 20 0 0 (nI 2)) := by
  refine kR.mk (by decide) (by simp [Value.category]) (Nat.le_of_ble_eq_true rfl) ?_
  intro p e s m args below meth c9 cx hr
  refine kg_aload_n cx dX4_commit_0 rfl ?_
  refine kg_iload_n cx dX4_commit_1 rfl ?_
  refine kg_iconst (v := 0) cx dX4_commit_2 (by decide) ?_
  refine kg_bipush (v := (nI 7)) cx dX4_commit_3 (by decide) ?_
  refine kg_callS (na := 3) cx (r_isIn l D c rd u (nI t) 0 (nI 7)) kcd_X4_isIn km_X4_100 kin_X4 kst_X4_isIn (by decide +kernel) rfl (by decide) (by decide) rfl (Nat.le_of_ble_eq_true rfl) dX4_commit_5 (fun _ => kr_adr _ _) (fun v9 u9 h9 => ?_)
  obtain ⟨rfl, h9⟩ := h9
  subst u9
  refine kg_top 1 (kb_1 ((kIn_iff (by decide)).mpr ⟨t, ht, rfl⟩)) ?_
  refine kg_if_ne cx 15 dX4_commit_8 (by decide) (fun h9 => ?_) (fun h9 => absurd h9 (by decide))
  refine kg_aload_n cx dX4_commit_15 rfl ?_
  refine kg_get (ci := 4) cx 0 21 kfs_X4 rfl (by decide) rfl rfl kf_X4_59 dX4_commit_16 ?_
  refine kg_iload_n cx dX4_commit_19 rfl ?_
  refine kg_zaldN cx 17 1 t rfl rfl (rfl) (ht) (by decide) (rfl) dX4_commit_20 ?_
  refine kg_if_eq cx 33 dX4_commit_21 (by decide) (fun h1 => ?_) (fun h1 => ?_)
  · refine kg_iconst (v := (nI 2)) cx dX4_commit_33 (by decide) ?_
    refine kg_goto cx 38 dX4_commit_34 (by decide) ?_
    refine kg_callV (ci := 4) (na := 1) cx (r_refused l D c rd u (nI 2)) 0 rfl rfl kcd_X4_refused km_X4_104 kin_X4 kim_X4_refused ksl_X4_refused (by decide +kernel) rfl (by decide) (by decide) rfl (Nat.le_of_ble_eq_true rfl) dX4_commit_38 (fun _ => kr_adr _ _) (fun v9 u9 h9 => ?_)
    obtain ⟨rfl, h9⟩ := h9
    subst u9
    refine kg_top 1 (kb_1 (by decide)) ?_
    refine kg_if_eq cx 46 dX4_commit_41 (by decide) (fun h9 => absurd h9 (by decide)) (fun h9 => ?_)
    refine kg_iconst (v := 0) cx dX4_commit_44 (by decide) ?_
    exact kg_ireturn cx hr (rfl) _ rfl (⟨rfl, rfl⟩) dX4_commit_45
  · refine kg_aload_n cx dX4_commit_24 rfl ?_
    refine kg_get (ci := 4) cx 0 22 kfs_X4 rfl (by decide) rfl rfl kf_X4_62 dX4_commit_25 ?_
    refine kg_iload_n cx dX4_commit_28 rfl ?_
    refine kg_zaldN cx 18 1 t rfl rfl (rfl) (ht) (by decide) (rfl) dX4_commit_29 ?_
    refine kg_if_eq cx 37 dX4_commit_30 (by decide) (fun h9 => absurd ⟨h1, h9⟩ hx) (fun h9 => ?_)
    refine kg_iconst (v := (nI 2)) cx dX4_commit_33 (by decide) ?_
    refine kg_goto cx 38 dX4_commit_34 (by decide) ?_
    refine kg_callV (ci := 4) (na := 1) cx (r_refused l D c rd u (nI 2)) 0 rfl rfl kcd_X4_refused km_X4_104 kin_X4 kim_X4_refused ksl_X4_refused (by decide +kernel) rfl (by decide) (by decide) rfl (Nat.le_of_ble_eq_true rfl) dX4_commit_38 (fun _ => kr_adr _ _) (fun v9 u9 h9 => ?_)
    obtain ⟨rfl, h9⟩ := h9
    subst u9
    refine kg_top 1 (kb_1 (by decide)) ?_
    refine kg_if_eq cx 46 dX4_commit_41 (by decide) (fun h9 => absurd h9 (by decide)) (fun h9 => ?_)
    refine kg_iconst (v := 0) cx dX4_commit_44 (by decide) ?_
    exact kg_ireturn cx hr (rfl) _ rfl (⟨rfl, rfl⟩) dX4_commit_45
def kComR (w : kS) (t z : Nat) : kS := ku (ku (kRec w z (nI 2) (nI t)) 15 0 0 (nI (z + 1))) 16 t 0 0
set_option maxHeartbeats 4000000 in
set_option maxRecDepth 100000 in
theorem r_commit_ok (l : Launch) (D : va_G) (c : Nat → ClassId) (rd : Nat → Nat) (u : kS) (w9 : kS) (hw : ku u 20 0 0 0 = w9) (t : Nat) (ht : t < 8) (h1 : u 16 t 0 ≠ 0) (h2 : u 17 t 0 = 0) (z : Nat) (hs : w9 14 0 0 = nI z) (hz : z < 400) : kR l D c rd yX4_commit (Cond.code yX4_commit cX4_commit 2 (some .int)) 1 22 u [.ref (rd 0), .int (nI t)] (fun v u9 => v = some (.int (nI (z + 1))) ∧ u9 = kComR w9 t z) := by
  refine kR.mk (by decide) (by simp [Value.category]) (Nat.le_of_ble_eq_true rfl) ?_
  intro p e s m args below meth c9 cx hr
  refine kg_aload_n cx dX4_commit_0 rfl ?_
  refine kg_iload_n cx dX4_commit_1 rfl ?_
  refine kg_iconst (v := 0) cx dX4_commit_2 (by decide) ?_
  refine kg_bipush (v := (nI 7)) cx dX4_commit_3 (by decide) ?_
  refine kg_callS (na := 3) cx (r_isIn l D c rd u (nI t) 0 (nI 7)) kcd_X4_isIn km_X4_100 kin_X4 kst_X4_isIn (by decide +kernel) rfl (by decide) (by decide) rfl (Nat.le_of_ble_eq_true rfl) dX4_commit_5 (fun _ => kr_adr _ _) (fun v9 u9 h9 => ?_)
  obtain ⟨rfl, h9⟩ := h9
  subst u9
  refine kg_top 1 (kb_1 ((kIn_iff (by decide)).mpr ⟨t, ht, rfl⟩)) ?_
  refine kg_if_ne cx 15 dX4_commit_8 (by decide) (fun h9 => ?_) (fun h9 => absurd h9 (by decide))
  refine kg_aload_n cx dX4_commit_15 rfl ?_
  refine kg_get (ci := 4) cx 0 21 kfs_X4 rfl (by decide) rfl rfl kf_X4_59 dX4_commit_16 ?_
  refine kg_iload_n cx dX4_commit_19 rfl ?_
  refine kg_zaldN cx 17 1 t rfl rfl (rfl) (ht) (by decide) (rfl) dX4_commit_20 ?_
  refine kg_if_eq cx 33 dX4_commit_21 (by decide) (fun h9 => absurd h9 h1) (fun h9 => ?_)
  refine kg_aload_n cx dX4_commit_24 rfl ?_
  refine kg_get (ci := 4) cx 0 22 kfs_X4 rfl (by decide) rfl rfl kf_X4_62 dX4_commit_25 ?_
  refine kg_iload_n cx dX4_commit_28 rfl ?_
  refine kg_zaldN cx 18 1 t rfl rfl (rfl) (ht) (by decide) (rfl) dX4_commit_29 ?_
  refine kg_if_eq cx 37 dX4_commit_30 (by decide) (fun h9 => ?_) (fun h9 => absurd h2 h9)
  refine kg_iconst (v := 0) cx dX4_commit_37 (by decide) ?_
  refine kg_callV (ci := 4) (na := 1) cx (r_refused l D c rd u 0) 0 rfl rfl kcd_X4_refused km_X4_104 kin_X4 kim_X4_refused ksl_X4_refused (by decide +kernel) rfl (by decide) (by decide) rfl (Nat.le_of_ble_eq_true rfl) dX4_commit_38 (fun _ => kr_adr _ _) (fun v9 u9 h9 => ?_)
  obtain ⟨rfl, h9⟩ := h9
  subst u9
  refine kg_top 0 (kb_0 (by decide)) ?_
  refine kg_if_eq cx 46 dX4_commit_41 (by decide) (fun h9 => ?_) (fun h9 => absurd h9 (by decide))
  refine kg_eq (congrArg (kr rd c) hw) rfl rfl rfl ?_
  refine kg_aload_n cx dX4_commit_46 rfl ?_
  refine kg_aload_n cx dX4_commit_47 rfl ?_
  refine kg_iconst (v := (nI 2)) cx dX4_commit_48 (by decide) ?_
  refine kg_iload_n cx dX4_commit_49 rfl ?_
  refine kg_callV (ci := 4) (na := 2) cx (r_record l D c rd w9 (nI 2) (nI t) z hs hz) 0 rfl rfl kcd_X4_record km_X4_122 kin_X4 kim_X4_record ksl_X4_record (by decide +kernel) rfl (by decide) (by decide) rfl (Nat.le_of_ble_eq_true rfl) dX4_commit_50 (fun _ => kr_adr _ _) (fun v9 u9 h9 => ?_)
  obtain ⟨rfl, h9⟩ := h9
  subst u9
  refine kg_put (ci := 4) (ty := .int) cx 0 12 kfs_X4 tyX4 tyX4_ok nmX4 rfl (by decide) rfl (Nat.le_of_ble_eq_true rfl) kf_X4_72 rfl (by decide +kernel) rfl rfl (kq_flushed _) dX4_commit_53 ?_
  refine kg_aload_n cx dX4_commit_56 rfl ?_
  refine kg_get (ci := 4) cx 0 21 kfs_X4 rfl (by decide) rfl rfl kf_X4_59 dX4_commit_57 ?_
  refine kg_iload_n cx dX4_commit_60 rfl ?_
  refine kg_iconst (v := 0) cx dX4_commit_61 (by decide) ?_
  refine kg_zastN cx 17 1 t rfl rfl (rfl) (ht) (by decide) (by decide) (kq_isActive t _) dX4_commit_62 ?_
  refine kg_aload_n cx dX4_commit_63 rfl ?_
  refine kg_get (ci := 4) cx 0 12 kfs_X4 rfl (by decide) rfl rfl kf_X4_72 dX4_commit_64 ?_
  refine kg_top (nI (z + 1)) (by simp [ku]) ?_
  exact kg_ireturn cx hr (rfl) _ rfl (⟨rfl, rfl⟩) dX4_commit_67
def kFluR (w : kS) (x : Int32) : kS := ku w 15 0 0 (if w 15 0 0 < (if x < w 14 0 0 then x else w 14 0 0) then (if x < w 14 0 0 then x else w 14 0 0) else w 15 0 0)
set_option maxHeartbeats 4000000 in
set_option maxRecDepth 100000 in
theorem r_flush_bad (l : Launch) (D : va_G) (c : Nat → ClassId) (rd : Nat → Nat) (u : kS) (x : Int32) (hx : x < 0) : kR l D c rd yX4_flush (Cond.code yX4_flush cX4_flush 3 (some .int)) 1 21 u [.ref (rd 0), .int x] (fun v u9 => v = some (.int 0) ∧ u9 = ku u 20 0 0 1) := by
  refine kR.mk (by decide) (by simp [Value.category]) (Nat.le_of_ble_eq_true rfl) ?_
  intro p e s m args below meth c9 cx hr
  refine kg_aload_n cx dX4_flush_0 rfl ?_
  refine kg_iload_n cx dX4_flush_1 rfl ?_
  refine kg_if_ge cx 9 dX4_flush_2 (by decide) (fun h9 => absurd hx (Int32.not_lt.mpr h9)) (fun h9 => ?_)
  refine kg_iconst (v := 1) cx dX4_flush_5 (by decide) ?_
  refine kg_goto cx 10 dX4_flush_6 (by decide) ?_
  refine kg_callV (ci := 4) (na := 1) cx (r_refused l D c rd u 1) 0 rfl rfl kcd_X4_refused km_X4_104 kin_X4 kim_X4_refused ksl_X4_refused (by decide +kernel) rfl (by decide) (by decide) rfl (Nat.le_of_ble_eq_true rfl) dX4_flush_10 (fun _ => kr_adr _ _) (fun v9 u9 h9 => ?_)
  obtain ⟨rfl, h9⟩ := h9
  subst u9
  refine kg_top 1 (kb_1 (by decide)) ?_
  refine kg_if_eq cx 18 dX4_flush_13 (by decide) (fun h9 => absurd h9 (by decide)) (fun h9 => ?_)
  refine kg_iconst (v := 0) cx dX4_flush_16 (by decide) ?_
  exact kg_ireturn cx hr (rfl) _ rfl (⟨rfl, rfl⟩) dX4_flush_17
set_option maxHeartbeats 4000000 in
set_option maxRecDepth 100000 in
theorem r_flush_ok (l : Launch) (D : va_G) (c : Nat → ClassId) (rd : Nat → Nat) (u : kS) (w9 : kS) (hw : ku u 20 0 0 0 = w9) (x : Int32) (hx : ¬ x < 0) : kR l D c rd yX4_flush (Cond.code yX4_flush cX4_flush 3 (some .int)) 1 21 u [.ref (rd 0), .int x] (fun v u9 => v = some (.int (kFluR w9 x 15 0 0)) ∧ u9 = kFluR w9 x) := by
  refine kR.mk (by decide) (by simp [Value.category]) (Nat.le_of_ble_eq_true rfl) ?_
  intro p e s m args below meth c9 cx hr
  refine kg_aload_n cx dX4_flush_0 rfl ?_
  refine kg_iload_n cx dX4_flush_1 rfl ?_
  refine kg_if_ge cx 9 dX4_flush_2 (by decide) (fun h9 => ?_) (fun h9 => absurd (Int32.not_lt.mp hx) h9)
  refine kg_iconst (v := 0) cx dX4_flush_9 (by decide) ?_
  refine kg_callV (ci := 4) (na := 1) cx (r_refused l D c rd u 0) 0 rfl rfl kcd_X4_refused km_X4_104 kin_X4 kim_X4_refused ksl_X4_refused (by decide +kernel) rfl (by decide) (by decide) rfl (Nat.le_of_ble_eq_true rfl) dX4_flush_10 (fun _ => kr_adr _ _) (fun v9 u9 h9 => ?_)
  obtain ⟨rfl, h9⟩ := h9
  subst u9
  refine kg_top 0 (kb_0 (by decide)) ?_
  refine kg_if_eq cx 18 dX4_flush_13 (by decide) (fun h9 => ?_) (fun h9 => absurd h9 (by decide))
  refine kg_eq (congrArg (kr rd c) hw) rfl rfl rfl ?_
  refine kg_iload_n cx dX4_flush_18 rfl ?_
  refine kg_aload_n cx dX4_flush_19 rfl ?_
  refine kg_get (ci := 4) cx 0 11 kfs_X4 rfl (by decide) rfl rfl kf_X4_113 dX4_flush_20 ?_
  refine kg_icmp_ge cx 30 dX4_flush_23 (by decide) (fun h3 => ?_) (fun h3 => ?_)
  · refine kg_aload_n cx dX4_flush_30 rfl ?_
    refine kg_get (ci := 4) cx 0 11 kfs_X4 rfl (by decide) rfl rfl kf_X4_113 dX4_flush_31 ?_
    refine kg_istore_n cx dX4_flush_34 (by decide) ?_
    refine kg_aload_n cx dX4_flush_35 rfl ?_
    refine kg_iload_n cx dX4_flush_36 rfl ?_
    refine kg_aload_n cx dX4_flush_37 rfl ?_
    refine kg_get (ci := 4) cx 0 12 kfs_X4 rfl (by decide) rfl rfl kf_X4_72 dX4_flush_38 ?_
    refine kg_icmp_le cx 48 dX4_flush_41 (by decide) (fun h4 => ?_) (fun h4 => ?_)
    · refine kg_aload_n cx dX4_flush_48 rfl ?_
      refine kg_get (ci := 4) cx 0 12 kfs_X4 rfl (by decide) rfl rfl kf_X4_72 dX4_flush_49 ?_
      refine kg_put (ci := 4) (ty := .int) cx 0 12 kfs_X4 tyX4 tyX4_ok nmX4 rfl (by decide) rfl (Nat.le_of_ble_eq_true rfl) kf_X4_72 rfl (by decide +kernel) rfl rfl (kq_flushed _) dX4_flush_52 ?_
      refine kg_aload_n cx dX4_flush_55 rfl ?_
      refine kg_get (ci := 4) cx 0 12 kfs_X4 rfl (by decide) rfl rfl kf_X4_72 dX4_flush_56 ?_
      exact kg_ireturn cx hr (rfl) _ rfl (⟨by unfold kFluR; rw [if_neg (Int32.not_lt.mpr h3), if_neg (Int32.not_lt.mpr h4)], by unfold kFluR; rw [if_neg (Int32.not_lt.mpr h3), if_neg (Int32.not_lt.mpr h4)]⟩) dX4_flush_59
    · refine kg_iload_n cx dX4_flush_44 rfl ?_
      refine kg_goto cx 52 dX4_flush_45 (by decide) ?_
      refine kg_put (ci := 4) (ty := .int) cx 0 12 kfs_X4 tyX4 tyX4_ok nmX4 rfl (by decide) rfl (Nat.le_of_ble_eq_true rfl) kf_X4_72 rfl (by decide +kernel) rfl rfl (kq_flushed _) dX4_flush_52 ?_
      refine kg_aload_n cx dX4_flush_55 rfl ?_
      refine kg_get (ci := 4) cx 0 12 kfs_X4 rfl (by decide) rfl rfl kf_X4_72 dX4_flush_56 ?_
      exact kg_ireturn cx hr (rfl) _ rfl (⟨by unfold kFluR; rw [if_neg (Int32.not_lt.mpr h3), if_pos (Int32.not_le.mp h4)], by unfold kFluR; rw [if_neg (Int32.not_lt.mpr h3), if_pos (Int32.not_le.mp h4)]⟩) dX4_flush_59
  · refine kg_iload_n cx dX4_flush_26 rfl ?_
    refine kg_goto cx 34 dX4_flush_27 (by decide) ?_
    refine kg_istore_n cx dX4_flush_34 (by decide) ?_
    refine kg_aload_n cx dX4_flush_35 rfl ?_
    refine kg_iload_n cx dX4_flush_36 rfl ?_
    refine kg_aload_n cx dX4_flush_37 rfl ?_
    refine kg_get (ci := 4) cx 0 12 kfs_X4 rfl (by decide) rfl rfl kf_X4_72 dX4_flush_38 ?_
    refine kg_icmp_le cx 48 dX4_flush_41 (by decide) (fun h4 => ?_) (fun h4 => ?_)
    · refine kg_aload_n cx dX4_flush_48 rfl ?_
      refine kg_get (ci := 4) cx 0 12 kfs_X4 rfl (by decide) rfl rfl kf_X4_72 dX4_flush_49 ?_
      refine kg_put (ci := 4) (ty := .int) cx 0 12 kfs_X4 tyX4 tyX4_ok nmX4 rfl (by decide) rfl (Nat.le_of_ble_eq_true rfl) kf_X4_72 rfl (by decide +kernel) rfl rfl (kq_flushed _) dX4_flush_52 ?_
      refine kg_aload_n cx dX4_flush_55 rfl ?_
      refine kg_get (ci := 4) cx 0 12 kfs_X4 rfl (by decide) rfl rfl kf_X4_72 dX4_flush_56 ?_
      exact kg_ireturn cx hr (rfl) _ rfl (⟨by unfold kFluR; rw [if_pos (Int32.not_le.mp h3), if_neg (Int32.not_lt.mpr h4)], by unfold kFluR; rw [if_pos (Int32.not_le.mp h3), if_neg (Int32.not_lt.mpr h4)]⟩) dX4_flush_59
    · refine kg_iload_n cx dX4_flush_44 rfl ?_
      refine kg_goto cx 52 dX4_flush_45 (by decide) ?_
      refine kg_put (ci := 4) (ty := .int) cx 0 12 kfs_X4 tyX4 tyX4_ok nmX4 rfl (by decide) rfl (Nat.le_of_ble_eq_true rfl) kf_X4_72 rfl (by decide +kernel) rfl rfl (kq_flushed _) dX4_flush_52 ?_
      refine kg_aload_n cx dX4_flush_55 rfl ?_
      refine kg_get (ci := 4) cx 0 12 kfs_X4 rfl (by decide) rfl rfl kf_X4_72 dX4_flush_56 ?_
      exact kg_ireturn cx hr (rfl) _ rfl (⟨by unfold kFluR; rw [if_pos (Int32.not_le.mp h3), if_pos (Int32.not_le.mp h4)], by unfold kFluR; rw [if_pos (Int32.not_le.mp h3), if_pos (Int32.not_le.mp h4)]⟩) dX4_flush_59
set_option maxHeartbeats 4000000 in
set_option maxRecDepth 100000 in
theorem r_clean_bad (l : Launch) (D : va_G) (c : Nat → ClassId) (rd : Nat → Nat) (u : kS) (x : Int32) (hx : ¬ kIn x 32) : kR l D c rd yX4_clean (Cond.code yX4_clean cX4_clean 3 (some .boolean)) 1 22 u [.ref (rd 0), .int x] (fun v u9 => v = some (.int 0) ∧ u9 = ku u 20 0 0 1) := by
  refine kR.mk (by decide) (by simp [Value.category]) (Nat.le_of_ble_eq_true rfl) ?_
  intro p e s m args below meth c9 cx hr
  refine kg_aload_n cx dX4_clean_0 rfl ?_
  refine kg_iload_n cx dX4_clean_1 rfl ?_
  refine kg_iconst (v := 0) cx dX4_clean_2 (by decide) ?_
  refine kg_bipush (v := (nI 31)) cx dX4_clean_3 (by decide) ?_
  refine kg_callS (na := 3) cx (r_isIn l D c rd u x 0 (nI 31)) kcd_X4_isIn km_X4_100 kin_X4 kst_X4_isIn (by decide +kernel) rfl (by decide) (by decide) rfl (Nat.le_of_ble_eq_true rfl) dX4_clean_5 (fun _ => kr_adr _ _) (fun v9 u9 h9 => ?_)
  obtain ⟨rfl, h9⟩ := h9
  subst u9
  refine kg_top 0 (kb_0 (fun q9 => hx ((kIn_iff (by decide)).mp q9))) ?_
  refine kg_if_eq cx 15 dX4_clean_8 (by decide) (fun h9 => ?_) (fun h9 => absurd h9 (by decide))
  refine kg_iconst (v := 1) cx dX4_clean_15 (by decide) ?_
  refine kg_callV (ci := 4) (na := 1) cx (r_refused l D c rd u 1) 0 rfl rfl kcd_X4_refused km_X4_104 kin_X4 kim_X4_refused ksl_X4_refused (by decide +kernel) rfl (by decide) (by decide) rfl (Nat.le_of_ble_eq_true rfl) dX4_clean_16 (fun _ => kr_adr _ _) (fun v9 u9 h9 => ?_)
  obtain ⟨rfl, h9⟩ := h9
  subst u9
  refine kg_top 1 (kb_1 (by decide)) ?_
  refine kg_if_eq cx 24 dX4_clean_19 (by decide) (fun h9 => absurd h9 (by decide)) (fun h9 => ?_)
  refine kg_iconst (v := 0) cx dX4_clean_22 (by decide) ?_
  exact kg_ireturn cx hr (nar_0) _ rfl (⟨rfl, rfl⟩) dX4_clean_23
set_option maxHeartbeats 4000000 in
set_option maxRecDepth 100000 in
theorem r_clean_ok (l : Launch) (D : va_G) (c : Nat → ClassId) (rd : Nat → Nat) (n : Nat) (u : kS) (w9 : kS) (hw : ku u 20 0 0 0 = w9) (hn : n ≤ 8) (hF : w9 21 0 0 = nI n) (q : Nat) (hq : q < 32) : kR l D c rd yX4_clean (Cond.code yX4_clean cX4_clean 3 (some .boolean)) 1 22 u [.ref (rd 0), .int (nI q)] (fun v u9 => (∃ f, f < n ∧ w9 1 f 0 = nI q ∧ (∀ j, j < f → w9 1 j 0 ≠ nI q) ∧ w9 3 f 0 ≠ 0 ∧ w9 5 f 8 ≤ w9 15 0 0 ∧ v = some (.int 1) ∧ u9 = kBackR w9 f q) ∨ ((∀ f, f < n → w9 1 f 0 = nI q → (∀ j, j < f → w9 1 j 0 ≠ nI q) → ¬ (w9 3 f 0 ≠ 0 ∧ w9 5 f 8 ≤ w9 15 0 0)) ∧ v = some (.int 0) ∧ u9 = w9)) := by
  refine kR.mk (by decide) (by simp [Value.category]) (Nat.le_of_ble_eq_true rfl) ?_
  intro p e s m args below meth c9 cx hr
  refine kg_aload_n cx dX4_clean_0 rfl ?_
  refine kg_iload_n cx dX4_clean_1 rfl ?_
  refine kg_iconst (v := 0) cx dX4_clean_2 (by decide) ?_
  refine kg_bipush (v := (nI 31)) cx dX4_clean_3 (by decide) ?_
  refine kg_callS (na := 3) cx (r_isIn l D c rd u (nI q) 0 (nI 31)) kcd_X4_isIn km_X4_100 kin_X4 kst_X4_isIn (by decide +kernel) rfl (by decide) (by decide) rfl (Nat.le_of_ble_eq_true rfl) dX4_clean_5 (fun _ => kr_adr _ _) (fun v9 u9 h9 => ?_)
  obtain ⟨rfl, h9⟩ := h9
  subst u9
  refine kg_top 1 (kb_1 ((kIn_iff (by decide)).mpr ⟨q, hq, rfl⟩)) ?_
  refine kg_if_eq cx 15 dX4_clean_8 (by decide) (fun h9 => absurd h9 (by decide)) (fun h9 => ?_)
  refine kg_iconst (v := 0) cx dX4_clean_11 (by decide) ?_
  refine kg_goto cx 16 dX4_clean_12 (by decide) ?_
  refine kg_callV (ci := 4) (na := 1) cx (r_refused l D c rd u 0) 0 rfl rfl kcd_X4_refused km_X4_104 kin_X4 kim_X4_refused ksl_X4_refused (by decide +kernel) rfl (by decide) (by decide) rfl (Nat.le_of_ble_eq_true rfl) dX4_clean_16 (fun _ => kr_adr _ _) (fun v9 u9 h9 => ?_)
  obtain ⟨rfl, h9⟩ := h9
  subst u9
  refine kg_top 0 (kb_0 (by decide)) ?_
  refine kg_if_eq cx 24 dX4_clean_19 (by decide) (fun h9 => ?_) (fun h9 => absurd h9 (by decide))
  refine kg_eq (congrArg (kr rd c) hw) rfl rfl rfl ?_
  refine kg_aload_n cx dX4_clean_24 rfl ?_
  refine kg_iload_n cx dX4_clean_25 rfl ?_
  refine kg_callV (ci := 4) (na := 1) cx (r_frameOf l D c rd n w9 (nI q) hn hF) 0 rfl rfl kcd_X4_frameOf km_X4_89 kin_X4 kim_X4_frameOf ksl_X4_frameOf (by decide +kernel) rfl (by decide) (by decide) rfl (Nat.le_of_ble_eq_true rfl) dX4_clean_26 (fun _ => kr_adr _ _) (fun v9 u9 h9 => ?_)
  obtain ⟨⟨r9, rfl, hr9⟩, h9⟩ := h9
  subst u9
  rcases hr9 with ⟨f, hf, rfl, hpf, hlf⟩ | ⟨rfl, hno⟩
  · refine kg_istore_n cx dX4_clean_29 (by decide) ?_
    refine kg_iload_n cx dX4_clean_30 rfl ?_
    refine kg_if_lt cx 56 dX4_clean_31 (by decide) (fun h9 => absurd h9 (nI_pos (by omega))) (fun h9 => ?_)
    refine kg_aload_n cx dX4_clean_34 rfl ?_
    refine kg_get (ci := 4) cx 0 8 kfs_X4 rfl (by decide) rfl rfl kf_X4_28 dX4_clean_35 ?_
    refine kg_iload_n cx dX4_clean_38 rfl ?_
    refine kg_zaldN cx 7 1 f rfl rfl (rfl) (by omega) (by decide) (rfl) dX4_clean_39 ?_
    refine kg_if_eq cx 56 dX4_clean_40 (by decide) (fun h2 => ?_) (fun h2 => ?_)
    · refine kg_iconst (v := 0) cx dX4_clean_56 (by decide) ?_
      exact kg_ireturn cx hr (nar_0) _ rfl (Or.inr ⟨fun g g1 g2 g3 ⟨g4, g5⟩ => by
          have e := kLeast_eq hpf hlf g2 g3
          subst e
          exact g4 h2, rfl, rfl⟩) dX4_clean_57
    · refine kg_aload_n cx dX4_clean_43 rfl ?_
      refine kg_get (ci := 4) cx 0 6 kfs_X4 rfl (by decide) rfl rfl kf_X4_22 dX4_clean_44 ?_
      refine kg_iload_n cx dX4_clean_47 rfl ?_
      refine kg_ialdN cx 5 0 f rfl rfl (rfl) (by omega) (by decide) (rfl) dX4_clean_48 ?_
      refine kg_aload_n cx dX4_clean_49 rfl ?_
      refine kg_get (ci := 4) cx 0 12 kfs_X4 rfl (by decide) rfl rfl kf_X4_72 dX4_clean_50 ?_
      refine kg_icmp_le cx 58 dX4_clean_53 (by decide) (fun h3 => ?_) (fun h3 => ?_)
      · refine kg_aload_n cx dX4_clean_58 rfl ?_
        refine kg_iload_n cx dX4_clean_59 rfl ?_
        refine kg_callV (ci := 4) (na := 1) cx (r_write l D c rd w9 f q (by omega) hq hpf) 0 rfl rfl kcd_X4_write km_X4_85 kin_X4 kim_X4_write ksl_X4_write (by decide +kernel) rfl (by decide) (by decide) rfl (Nat.le_of_ble_eq_true rfl) dX4_clean_60 (fun _ => kr_adr _ _) (fun v9 u9 h9 => ?_)
        obtain ⟨rfl, h9⟩ := h9
        subst u9
        refine kg_iconst (v := 1) cx dX4_clean_63 (by decide) ?_
        exact kg_ireturn cx hr (nar_1) _ rfl (Or.inl ⟨f, hf, hpf, hlf, h2, h3, rfl, rfl⟩) dX4_clean_64
      · refine kg_iconst (v := 0) cx dX4_clean_56 (by decide) ?_
        exact kg_ireturn cx hr (nar_0) _ rfl (Or.inr ⟨fun g g1 g2 g3 ⟨g4, g5⟩ => by
            have e := kLeast_eq hpf hlf g2 g3
            subst e
            exact h3 g5, rfl, rfl⟩) dX4_clean_57
  · refine kg_istore_n cx dX4_clean_29 (by decide) ?_
    refine kg_iload_n cx dX4_clean_30 rfl ?_
    refine kg_if_lt cx 56 dX4_clean_31 (by decide) (fun h9 => ?_) (fun h9 => absurd h9 (by decide))
    refine kg_iconst (v := 0) cx dX4_clean_56 (by decide) ?_
    exact kg_ireturn cx hr (nar_0) _ rfl (Or.inr ⟨fun g g1 g2 _ _ => hno g g1 g2, rfl, rfl⟩) dX4_clean_57
set_option maxHeartbeats 4000000 in
set_option maxRecDepth 100000 in
theorem r_disk_bad (l : Launch) (D : va_G) (c : Nat → ClassId) (rd : Nat → Nat) (u : kS) (x y : Int32) (hx : ¬ (kIn x 32 ∧ kIn y 9)) : kR l D c rd yX4_disk (Cond.code yX4_disk cX4_disk 3 (some .int)) 1 22 u [.ref (rd 0), .int x, .int y] (fun v u9 => v = some (.int 0) ∧ u9 = ku u 20 0 0 1) := by
  refine kR.mk (by decide) (by simp [Value.category]) (Nat.le_of_ble_eq_true rfl) ?_
  intro p e s m args below meth c9 cx hr
  by_cases h1 : kIn x 32
  · refine kg_aload_n cx dX4_disk_0 rfl ?_
    refine kg_iload_n cx dX4_disk_1 rfl ?_
    refine kg_iconst (v := 0) cx dX4_disk_2 (by decide) ?_
    refine kg_bipush (v := (nI 31)) cx dX4_disk_3 (by decide) ?_
    refine kg_callS (na := 3) cx (r_isIn l D c rd u x 0 (nI 31)) kcd_X4_isIn km_X4_100 kin_X4 kst_X4_isIn (by decide +kernel) rfl (by decide) (by decide) rfl (Nat.le_of_ble_eq_true rfl) dX4_disk_5 (fun _ => kr_adr _ _) (fun v9 u9 h9 => ?_)
    obtain ⟨rfl, h9⟩ := h9
    subst u9
    refine kg_top 1 (kb_1 ((kIn_iff (by decide)).mpr h1)) ?_
    refine kg_if_eq cx 25 dX4_disk_8 (by decide) (fun h9 => absurd h9 (by decide)) (fun h9 => ?_)
    refine kg_iload_n cx dX4_disk_11 rfl ?_
    refine kg_iconst (v := 0) cx dX4_disk_12 (by decide) ?_
    refine kg_bipush (v := (nI 8)) cx dX4_disk_13 (by decide) ?_
    refine kg_callS (na := 3) cx (r_isIn l D c rd u y 0 (nI 8)) kcd_X4_isIn km_X4_100 kin_X4 kst_X4_isIn (by decide +kernel) rfl (by decide) (by decide) rfl (Nat.le_of_ble_eq_true rfl) dX4_disk_15 (fun _ => kr_adr _ _) (fun v9 u9 h9 => ?_)
    obtain ⟨rfl, h9⟩ := h9
    subst u9
    refine kg_top 0 (kb_0 (fun q9 => (fun q8 => hx ⟨h1, q8⟩) ((kIn_iff (by decide)).mp q9))) ?_
    refine kg_if_eq cx 25 dX4_disk_18 (by decide) (fun h9 => ?_) (fun h9 => absurd h9 (by decide))
    refine kg_iconst (v := 1) cx dX4_disk_25 (by decide) ?_
    refine kg_callV (ci := 4) (na := 1) cx (r_refused l D c rd u 1) 0 rfl rfl kcd_X4_refused km_X4_104 kin_X4 kim_X4_refused ksl_X4_refused (by decide +kernel) rfl (by decide) (by decide) rfl (Nat.le_of_ble_eq_true rfl) dX4_disk_26 (fun _ => kr_adr _ _) (fun v9 u9 h9 => ?_)
    obtain ⟨rfl, h9⟩ := h9
    subst u9
    refine kg_top 1 (kb_1 (by decide)) ?_
    refine kg_if_eq cx 34 dX4_disk_29 (by decide) (fun h9 => absurd h9 (by decide)) (fun h9 => ?_)
    refine kg_iconst (v := 0) cx dX4_disk_32 (by decide) ?_
    exact kg_ireturn cx hr (rfl) _ rfl (⟨rfl, rfl⟩) dX4_disk_33
  · refine kg_aload_n cx dX4_disk_0 rfl ?_
    refine kg_iload_n cx dX4_disk_1 rfl ?_
    refine kg_iconst (v := 0) cx dX4_disk_2 (by decide) ?_
    refine kg_bipush (v := (nI 31)) cx dX4_disk_3 (by decide) ?_
    refine kg_callS (na := 3) cx (r_isIn l D c rd u x 0 (nI 31)) kcd_X4_isIn km_X4_100 kin_X4 kst_X4_isIn (by decide +kernel) rfl (by decide) (by decide) rfl (Nat.le_of_ble_eq_true rfl) dX4_disk_5 (fun _ => kr_adr _ _) (fun v9 u9 h9 => ?_)
    obtain ⟨rfl, h9⟩ := h9
    subst u9
    refine kg_top 0 (kb_0 (fun q9 => h1 ((kIn_iff (by decide)).mp q9))) ?_
    refine kg_if_eq cx 25 dX4_disk_8 (by decide) (fun h9 => ?_) (fun h9 => absurd h9 (by decide))
    refine kg_iconst (v := 1) cx dX4_disk_25 (by decide) ?_
    refine kg_callV (ci := 4) (na := 1) cx (r_refused l D c rd u 1) 0 rfl rfl kcd_X4_refused km_X4_104 kin_X4 kim_X4_refused ksl_X4_refused (by decide +kernel) rfl (by decide) (by decide) rfl (Nat.le_of_ble_eq_true rfl) dX4_disk_26 (fun _ => kr_adr _ _) (fun v9 u9 h9 => ?_)
    obtain ⟨rfl, h9⟩ := h9
    subst u9
    refine kg_top 1 (kb_1 (by decide)) ?_
    refine kg_if_eq cx 34 dX4_disk_29 (by decide) (fun h9 => absurd h9 (by decide)) (fun h9 => ?_)
    refine kg_iconst (v := 0) cx dX4_disk_32 (by decide) ?_
    exact kg_ireturn cx hr (rfl) _ rfl (⟨rfl, rfl⟩) dX4_disk_33
set_option maxHeartbeats 4000000 in
set_option maxRecDepth 100000 in
theorem r_disk_ok (l : Launch) (D : va_G) (c : Nat → ClassId) (rd : Nat → Nat) (u : kS) (w9 : kS) (hw : ku u 20 0 0 0 = w9) (q : Nat) (hq : q < 32) (k : Nat) (hk : k < 9) : kR l D c rd yX4_disk (Cond.code yX4_disk cX4_disk 3 (some .int)) 1 22 u [.ref (rd 0), .int (nI q), .int (nI k)] (fun v u9 => v = some (.int (w9 0 q k)) ∧ u9 = w9) := by
  refine kR.mk (by decide) (by simp [Value.category]) (Nat.le_of_ble_eq_true rfl) ?_
  intro p e s m args below meth c9 cx hr
  refine kg_aload_n cx dX4_disk_0 rfl ?_
  refine kg_iload_n cx dX4_disk_1 rfl ?_
  refine kg_iconst (v := 0) cx dX4_disk_2 (by decide) ?_
  refine kg_bipush (v := (nI 31)) cx dX4_disk_3 (by decide) ?_
  refine kg_callS (na := 3) cx (r_isIn l D c rd u (nI q) 0 (nI 31)) kcd_X4_isIn km_X4_100 kin_X4 kst_X4_isIn (by decide +kernel) rfl (by decide) (by decide) rfl (Nat.le_of_ble_eq_true rfl) dX4_disk_5 (fun _ => kr_adr _ _) (fun v9 u9 h9 => ?_)
  obtain ⟨rfl, h9⟩ := h9
  subst u9
  refine kg_top 1 (kb_1 ((kIn_iff (by decide)).mpr ⟨q, hq, rfl⟩)) ?_
  refine kg_if_eq cx 25 dX4_disk_8 (by decide) (fun h9 => absurd h9 (by decide)) (fun h9 => ?_)
  refine kg_iload_n cx dX4_disk_11 rfl ?_
  refine kg_iconst (v := 0) cx dX4_disk_12 (by decide) ?_
  refine kg_bipush (v := (nI 8)) cx dX4_disk_13 (by decide) ?_
  refine kg_callS (na := 3) cx (r_isIn l D c rd u (nI k) 0 (nI 8)) kcd_X4_isIn km_X4_100 kin_X4 kst_X4_isIn (by decide +kernel) rfl (by decide) (by decide) rfl (Nat.le_of_ble_eq_true rfl) dX4_disk_15 (fun _ => kr_adr _ _) (fun v9 u9 h9 => ?_)
  obtain ⟨rfl, h9⟩ := h9
  subst u9
  refine kg_top 1 (kb_1 ((kIn_iff (by decide)).mpr ⟨k, hk, rfl⟩)) ?_
  refine kg_if_eq cx 25 dX4_disk_18 (by decide) (fun h9 => absurd h9 (by decide)) (fun h9 => ?_)
  refine kg_iconst (v := 0) cx dX4_disk_21 (by decide) ?_
  refine kg_goto cx 26 dX4_disk_22 (by decide) ?_
  refine kg_callV (ci := 4) (na := 1) cx (r_refused l D c rd u 0) 0 rfl rfl kcd_X4_refused km_X4_104 kin_X4 kim_X4_refused ksl_X4_refused (by decide +kernel) rfl (by decide) (by decide) rfl (Nat.le_of_ble_eq_true rfl) dX4_disk_26 (fun _ => kr_adr _ _) (fun v9 u9 h9 => ?_)
  obtain ⟨rfl, h9⟩ := h9
  subst u9
  refine kg_top 0 (kb_0 (by decide)) ?_
  refine kg_if_eq cx 34 dX4_disk_29 (by decide) (fun h9 => ?_) (fun h9 => absurd h9 (by decide))
  refine kg_eq (congrArg (kr rd c) hw) rfl rfl rfl ?_
  refine kg_iload_n cx dX4_disk_34 rfl ?_
  refine kg_bipush (v := (nI 8)) cx dX4_disk_35 (by decide) ?_
  refine kg_icmp_ne cx 49 dX4_disk_37 (by decide) (fun h1 => ?_) (fun h1 => ?_)
  · have hk8 : k < 8 := by
      rcases Nat.lt_or_ge k 8 with q9 | q9
      · exact q9
      · exact absurd (congrArg nI (show k = 8 by omega)) h1
    refine kg_aload_n cx dX4_disk_49 rfl ?_
    refine kg_get (ci := 4) cx 0 2 kfs_X4 rfl (by decide) rfl rfl kf_X4_7 dX4_disk_50 ?_
    refine kg_bipush (v := (nI 8)) cx dX4_disk_53 (by decide) ?_
    refine kg_iload_n cx dX4_disk_55 rfl ?_
    refine kg_imul cx dX4_disk_56 ?_
    refine kg_top (nI (8 * q)) (pk_mul 8 q) ?_
    refine kg_iload_n cx dX4_disk_57 rfl ?_
    refine kg_iadd cx dX4_disk_58 ?_
    refine kg_top (nI (8 * q + k)) (nI_add _ _) ?_
    refine kg_ialdN cx 1 0 (8 * q + k) rfl rfl (rfl) (by omega) (by decide) (by show w9 0 ((8 * q + k) / 8) ((8 * q + k) % 8) = w9 0 q k; rw [show (8 * q + k) / 8 = q by omega, show (8 * q + k) % 8 = k by omega]) dX4_disk_59 ?_
    exact kg_ireturn cx hr (rfl) _ rfl (⟨rfl, rfl⟩) dX4_disk_60
  · have hk8 : k = 8 := (nI_eq (by omega) (by decide)).mp h1
    subst hk8
    refine kg_aload_n cx dX4_disk_40 rfl ?_
    refine kg_get (ci := 4) cx 0 3 kfs_X4 rfl (by decide) rfl rfl kf_X4_13 dX4_disk_41 ?_
    refine kg_iload_n cx dX4_disk_44 rfl ?_
    refine kg_ialdN cx 2 0 q rfl rfl (rfl) (hq) (by decide) (rfl) dX4_disk_45 ?_
    refine kg_goto cx 60 dX4_disk_46 (by decide) ?_
    exact kg_ireturn cx hr (rfl) _ rfl (⟨rfl, rfl⟩) dX4_disk_60
def kFrmR (w : kS) (f : Nat) : Nat → Int32
  | 0 => w 1 f 0
  | 1 => if w 1 f 0 < 0 then 0 else w 2 f 0
  | 2 => kb (¬ w 1 f 0 < 0 ∧ w 3 f 0 ≠ 0)
  | 3 => kb (¬ w 1 f 0 < 0 ∧ w 4 f 0 ≠ 0)
  | _ => if w 1 f 0 < 0 then 0 else w 5 f 8
set_option maxHeartbeats 4000000 in
set_option maxRecDepth 100000 in
theorem r_frame_bad (l : Launch) (D : va_G) (c : Nat → ClassId) (rd : Nat → Nat) (n : Nat) (u : kS) (hn : n ≤ 8) (hF : u 21 0 0 = nI n) (h0 : 1 ≤ n) (x y : Int32) (hx : ¬ (kIn x n ∧ kIn y 5)) : kR l D c rd yX4_frame (Cond.code yX4_frame cX4_frame 4 (some .int)) 1 22 u [.ref (rd 0), .int x, .int y] (fun v u9 => v = some (.int 0) ∧ u9 = ku u 20 0 0 1) := by
  refine kR.mk (by decide) (by simp [Value.category]) (Nat.le_of_ble_eq_true rfl) ?_
  intro p e s m args below meth c9 cx hr
  by_cases h1 : kIn x n
  · refine kg_aload_n cx dX4_frame_0 rfl ?_
    refine kg_iload_n cx dX4_frame_1 rfl ?_
    refine kg_iconst (v := 0) cx dX4_frame_2 (by decide) ?_
    refine kg_aload_n cx dX4_frame_3 rfl ?_
    refine kg_get (ci := 4) cx 0 1 kfs_X4 rfl (by decide) rfl rfl kf_X4_65 dX4_frame_4 ?_
    refine kg_top (nI n) (hF) ?_
    refine kg_iconst (v := 1) cx dX4_frame_7 (by decide) ?_
    refine kg_isub cx dX4_frame_8 ?_
    refine kg_top (nI (n - 1)) (by rw [show n = n - 1 + 1 by omega]; exact nI_pred (n - 1)) ?_
    refine kg_callS (na := 3) cx (r_isIn l D c rd u x 0 (nI (n - 1))) kcd_X4_isIn km_X4_100 kin_X4 kst_X4_isIn (by decide +kernel) rfl (by decide) (by decide) rfl (Nat.le_of_ble_eq_true rfl) dX4_frame_9 (fun _ => kr_adr _ _) (fun v9 u9 h9 => ?_)
    obtain ⟨rfl, h9⟩ := h9
    subst u9
    refine kg_top 1 (kb_1 ((kIn_iff (by omega)).mpr (by rw [show n - 1 + 1 = n by omega]; exact h1))) ?_
    refine kg_if_eq cx 28 dX4_frame_12 (by decide) (fun h9 => absurd h9 (by decide)) (fun h9 => ?_)
    refine kg_iload_n cx dX4_frame_15 rfl ?_
    refine kg_iconst (v := 0) cx dX4_frame_16 (by decide) ?_
    refine kg_iconst (v := (nI 4)) cx dX4_frame_17 (by decide) ?_
    refine kg_callS (na := 3) cx (r_isIn l D c rd u y 0 (nI 4)) kcd_X4_isIn km_X4_100 kin_X4 kst_X4_isIn (by decide +kernel) rfl (by decide) (by decide) rfl (Nat.le_of_ble_eq_true rfl) dX4_frame_18 (fun _ => kr_adr _ _) (fun v9 u9 h9 => ?_)
    obtain ⟨rfl, h9⟩ := h9
    subst u9
    refine kg_top 0 (kb_0 (fun q9 => (fun q8 => hx ⟨h1, q8⟩) ((kIn_iff (by decide)).mp q9))) ?_
    refine kg_if_eq cx 28 dX4_frame_21 (by decide) (fun h9 => ?_) (fun h9 => absurd h9 (by decide))
    refine kg_iconst (v := 1) cx dX4_frame_28 (by decide) ?_
    refine kg_callV (ci := 4) (na := 1) cx (r_refused l D c rd u 1) 0 rfl rfl kcd_X4_refused km_X4_104 kin_X4 kim_X4_refused ksl_X4_refused (by decide +kernel) rfl (by decide) (by decide) rfl (Nat.le_of_ble_eq_true rfl) dX4_frame_29 (fun _ => kr_adr _ _) (fun v9 u9 h9 => ?_)
    obtain ⟨rfl, h9⟩ := h9
    subst u9
    refine kg_top 1 (kb_1 (by decide)) ?_
    refine kg_if_eq cx 37 dX4_frame_32 (by decide) (fun h9 => absurd h9 (by decide)) (fun h9 => ?_)
    refine kg_iconst (v := 0) cx dX4_frame_35 (by decide) ?_
    exact kg_ireturn cx hr (rfl) _ rfl (⟨rfl, rfl⟩) dX4_frame_36
  · refine kg_aload_n cx dX4_frame_0 rfl ?_
    refine kg_iload_n cx dX4_frame_1 rfl ?_
    refine kg_iconst (v := 0) cx dX4_frame_2 (by decide) ?_
    refine kg_aload_n cx dX4_frame_3 rfl ?_
    refine kg_get (ci := 4) cx 0 1 kfs_X4 rfl (by decide) rfl rfl kf_X4_65 dX4_frame_4 ?_
    refine kg_top (nI n) (hF) ?_
    refine kg_iconst (v := 1) cx dX4_frame_7 (by decide) ?_
    refine kg_isub cx dX4_frame_8 ?_
    refine kg_top (nI (n - 1)) (by rw [show n = n - 1 + 1 by omega]; exact nI_pred (n - 1)) ?_
    refine kg_callS (na := 3) cx (r_isIn l D c rd u x 0 (nI (n - 1))) kcd_X4_isIn km_X4_100 kin_X4 kst_X4_isIn (by decide +kernel) rfl (by decide) (by decide) rfl (Nat.le_of_ble_eq_true rfl) dX4_frame_9 (fun _ => kr_adr _ _) (fun v9 u9 h9 => ?_)
    obtain ⟨rfl, h9⟩ := h9
    subst u9
    refine kg_top 0 (kb_0 (fun q9 => by have := (kIn_iff (by omega)).mp q9; rw [show n - 1 + 1 = n by omega] at this; exact h1 this)) ?_
    refine kg_if_eq cx 28 dX4_frame_12 (by decide) (fun h9 => ?_) (fun h9 => absurd h9 (by decide))
    refine kg_iconst (v := 1) cx dX4_frame_28 (by decide) ?_
    refine kg_callV (ci := 4) (na := 1) cx (r_refused l D c rd u 1) 0 rfl rfl kcd_X4_refused km_X4_104 kin_X4 kim_X4_refused ksl_X4_refused (by decide +kernel) rfl (by decide) (by decide) rfl (Nat.le_of_ble_eq_true rfl) dX4_frame_29 (fun _ => kr_adr _ _) (fun v9 u9 h9 => ?_)
    obtain ⟨rfl, h9⟩ := h9
    subst u9
    refine kg_top 1 (kb_1 (by decide)) ?_
    refine kg_if_eq cx 37 dX4_frame_32 (by decide) (fun h9 => absurd h9 (by decide)) (fun h9 => ?_)
    refine kg_iconst (v := 0) cx dX4_frame_35 (by decide) ?_
    exact kg_ireturn cx hr (rfl) _ rfl (⟨rfl, rfl⟩) dX4_frame_36
set_option maxHeartbeats 4000000 in
set_option maxRecDepth 100000 in
theorem r_frame_ok (l : Launch) (D : va_G) (c : Nat → ClassId) (rd : Nat → Nat) (n : Nat) (u : kS) (w9 : kS) (hw : ku u 20 0 0 0 = w9) (hn : n ≤ 8) (hF : u 21 0 0 = nI n) (f : Nat) (hf : f < n) (j : Nat) (hj : j < 5) : kR l D c rd yX4_frame (Cond.code yX4_frame cX4_frame 4 (some .int)) 1 22 u [.ref (rd 0), .int (nI f), .int (nI j)] (fun v u9 => v = some (.int (kFrmR w9 f j)) ∧ u9 = w9) := by
  refine kR.mk (by decide) (by simp [Value.category]) (Nat.le_of_ble_eq_true rfl) ?_
  intro p e s m args below meth c9 cx hr
  refine kg_aload_n cx dX4_frame_0 rfl ?_
  refine kg_iload_n cx dX4_frame_1 rfl ?_
  refine kg_iconst (v := 0) cx dX4_frame_2 (by decide) ?_
  refine kg_aload_n cx dX4_frame_3 rfl ?_
  refine kg_get (ci := 4) cx 0 1 kfs_X4 rfl (by decide) rfl rfl kf_X4_65 dX4_frame_4 ?_
  refine kg_top (nI n) (hF) ?_
  refine kg_iconst (v := 1) cx dX4_frame_7 (by decide) ?_
  refine kg_isub cx dX4_frame_8 ?_
  refine kg_top (nI (n - 1)) (by rw [show n = n - 1 + 1 by omega]; exact nI_pred (n - 1)) ?_
  refine kg_callS (na := 3) cx (r_isIn l D c rd u (nI f) 0 (nI (n - 1))) kcd_X4_isIn km_X4_100 kin_X4 kst_X4_isIn (by decide +kernel) rfl (by decide) (by decide) rfl (Nat.le_of_ble_eq_true rfl) dX4_frame_9 (fun _ => kr_adr _ _) (fun v9 u9 h9 => ?_)
  obtain ⟨rfl, h9⟩ := h9
  subst u9
  refine kg_top 1 (kb_1 ((kIn_iff (by omega)).mpr (by rw [show n - 1 + 1 = n by omega]; exact ⟨f, hf, rfl⟩))) ?_
  refine kg_if_eq cx 28 dX4_frame_12 (by decide) (fun h9 => absurd h9 (by decide)) (fun h9 => ?_)
  refine kg_iload_n cx dX4_frame_15 rfl ?_
  refine kg_iconst (v := 0) cx dX4_frame_16 (by decide) ?_
  refine kg_iconst (v := (nI 4)) cx dX4_frame_17 (by decide) ?_
  refine kg_callS (na := 3) cx (r_isIn l D c rd u (nI j) 0 (nI 4)) kcd_X4_isIn km_X4_100 kin_X4 kst_X4_isIn (by decide +kernel) rfl (by decide) (by decide) rfl (Nat.le_of_ble_eq_true rfl) dX4_frame_18 (fun _ => kr_adr _ _) (fun v9 u9 h9 => ?_)
  obtain ⟨rfl, h9⟩ := h9
  subst u9
  refine kg_top 1 (kb_1 ((kIn_iff (by decide)).mpr ⟨j, hj, rfl⟩)) ?_
  refine kg_if_eq cx 28 dX4_frame_21 (by decide) (fun h9 => absurd h9 (by decide)) (fun h9 => ?_)
  refine kg_iconst (v := 0) cx dX4_frame_24 (by decide) ?_
  refine kg_goto cx 29 dX4_frame_25 (by decide) ?_
  refine kg_callV (ci := 4) (na := 1) cx (r_refused l D c rd u 0) 0 rfl rfl kcd_X4_refused km_X4_104 kin_X4 kim_X4_refused ksl_X4_refused (by decide +kernel) rfl (by decide) (by decide) rfl (Nat.le_of_ble_eq_true rfl) dX4_frame_29 (fun _ => kr_adr _ _) (fun v9 u9 h9 => ?_)
  obtain ⟨rfl, h9⟩ := h9
  subst u9
  refine kg_top 0 (kb_0 (by decide)) ?_
  refine kg_if_eq cx 37 dX4_frame_32 (by decide) (fun h9 => ?_) (fun h9 => absurd h9 (by decide))
  refine kg_eq (congrArg (kr rd c) hw) rfl rfl rfl ?_
  refine kg_aload_n cx dX4_frame_37 rfl ?_
  refine kg_get (ci := 4) cx 0 4 kfs_X4 rfl (by decide) rfl rfl kf_X4_16 dX4_frame_38 ?_
  refine kg_iload_n cx dX4_frame_41 rfl ?_
  refine kg_ialdN cx 3 0 f rfl rfl (rfl) (by omega) (by decide) (rfl) dX4_frame_42 ?_
  refine kg_if_ge cx 50 dX4_frame_43 (by decide) (fun h3 => ?_) (fun h3 => ?_)
  · have h3 := Int32.not_lt.mpr h3
    refine kg_iconst (v := 0) cx dX4_frame_50 (by decide) ?_
    refine kg_istore_n cx dX4_frame_51 (by decide) ?_
    refine kg_iload_n cx dX4_frame_52 rfl ?_
    match j, hj with
    | 0, hj =>
      refine kg_tableIn (off := 31) cx 84 dX4_frame_53 (by decide) (by decide) (by decide +kernel) (by decide) ?_
      refine kg_aload_n cx dX4_frame_84 rfl ?_
      refine kg_get (ci := 4) cx 0 4 kfs_X4 rfl (by decide) rfl rfl kf_X4_16 dX4_frame_85 ?_
      refine kg_iload_n cx dX4_frame_88 rfl ?_
      refine kg_ialdN cx 3 0 f rfl rfl (rfl) (by omega) (by decide) (rfl) dX4_frame_89 ?_
      exact kg_ireturn cx hr (rfl) _ rfl (⟨rfl, rfl⟩) dX4_frame_90
    | 1, hj =>
      refine kg_tableIn (off := 38) cx 91 dX4_frame_53 (by decide) (by decide) (by decide +kernel) (by decide) ?_
      refine kg_iload_n cx dX4_frame_91 rfl ?_
      refine kg_if_eq cx 99 dX4_frame_92 (by decide) (fun h9 => ?_) (fun h9 => absurd h9 (by decide))
      refine kg_aload_n cx dX4_frame_99 rfl ?_
      refine kg_get (ci := 4) cx 0 7 kfs_X4 rfl (by decide) rfl rfl kf_X4_25 dX4_frame_100 ?_
      refine kg_iload_n cx dX4_frame_103 rfl ?_
      refine kg_ialdN cx 6 0 f rfl rfl (rfl) (by omega) (by decide) (rfl) dX4_frame_104 ?_
      exact kg_ireturn cx hr (rfl) _ rfl (⟨congrArg (fun x => some (Value.int x)) (if_neg h3).symm, rfl⟩) dX4_frame_105
    | 2, hj =>
      refine kg_tableIn (off := 53) cx 106 dX4_frame_53 (by decide) (by decide) (by decide +kernel) (by decide) ?_
      refine kg_iload_n cx dX4_frame_106 rfl ?_
      refine kg_if_ne cx 123 dX4_frame_107 (by decide) (fun h9 => absurd h9 (by decide)) (fun h9 => ?_)
      refine kg_aload_n cx dX4_frame_110 rfl ?_
      refine kg_get (ci := 4) cx 0 8 kfs_X4 rfl (by decide) rfl rfl kf_X4_28 dX4_frame_111 ?_
      refine kg_iload_n cx dX4_frame_114 rfl ?_
      refine kg_zaldN cx 7 1 f rfl rfl (rfl) (by omega) (by decide) (rfl) dX4_frame_115 ?_
      refine kg_if_eq cx 123 dX4_frame_116 (by decide) (fun h5 => ?_) (fun h5 => ?_)
      · refine kg_iconst (v := 0) cx dX4_frame_123 (by decide) ?_
        exact kg_ireturn cx hr (rfl) _ rfl (⟨congrArg (fun x => some (Value.int x)) (kb_0 (P := ¬ w9 1 f 0 < 0 ∧ w9 3 f 0 ≠ 0) (fun q => q.2 h5)).symm, rfl⟩) dX4_frame_124
      · refine kg_iconst (v := 1) cx dX4_frame_119 (by decide) ?_
        refine kg_goto cx 124 dX4_frame_120 (by decide) ?_
        exact kg_ireturn cx hr (rfl) _ rfl (⟨congrArg (fun x => some (Value.int x)) (kb_1 (P := ¬ w9 1 f 0 < 0 ∧ w9 3 f 0 ≠ 0) ⟨h3, h5⟩).symm, rfl⟩) dX4_frame_124
    | 3, hj =>
      refine kg_tableIn (off := 72) cx 125 dX4_frame_53 (by decide) (by decide) (by decide +kernel) (by decide) ?_
      refine kg_iload_n cx dX4_frame_125 rfl ?_
      refine kg_if_ne cx 142 dX4_frame_126 (by decide) (fun h9 => absurd h9 (by decide)) (fun h9 => ?_)
      refine kg_aload_n cx dX4_frame_129 rfl ?_
      refine kg_get (ci := 4) cx 0 9 kfs_X4 rfl (by decide) rfl rfl kf_X4_32 dX4_frame_130 ?_
      refine kg_iload_n cx dX4_frame_133 rfl ?_
      refine kg_zaldN cx 8 1 f rfl rfl (rfl) (by omega) (by decide) (rfl) dX4_frame_134 ?_
      refine kg_if_eq cx 142 dX4_frame_135 (by decide) (fun h5 => ?_) (fun h5 => ?_)
      · refine kg_iconst (v := 0) cx dX4_frame_142 (by decide) ?_
        exact kg_ireturn cx hr (rfl) _ rfl (⟨congrArg (fun x => some (Value.int x)) (kb_0 (P := ¬ w9 1 f 0 < 0 ∧ w9 4 f 0 ≠ 0) (fun q => q.2 h5)).symm, rfl⟩) dX4_frame_143
      · refine kg_iconst (v := 1) cx dX4_frame_138 (by decide) ?_
        refine kg_goto cx 143 dX4_frame_139 (by decide) ?_
        exact kg_ireturn cx hr (rfl) _ rfl (⟨congrArg (fun x => some (Value.int x)) (kb_1 (P := ¬ w9 1 f 0 < 0 ∧ w9 4 f 0 ≠ 0) ⟨h3, h5⟩).symm, rfl⟩) dX4_frame_143
    | 4, hj =>
      refine kg_tableOut cx 144 dX4_frame_53 (Or.inr (by decide)) (by decide) ?_
      refine kg_iload_n cx dX4_frame_144 rfl ?_
      refine kg_if_eq cx 152 dX4_frame_145 (by decide) (fun h9 => ?_) (fun h9 => absurd h9 (by decide))
      refine kg_aload_n cx dX4_frame_152 rfl ?_
      refine kg_get (ci := 4) cx 0 6 kfs_X4 rfl (by decide) rfl rfl kf_X4_22 dX4_frame_153 ?_
      refine kg_iload_n cx dX4_frame_156 rfl ?_
      refine kg_ialdN cx 5 0 f rfl rfl (rfl) (by omega) (by decide) (rfl) dX4_frame_157 ?_
      exact kg_ireturn cx hr (rfl) _ rfl (⟨congrArg (fun x => some (Value.int x)) (if_neg h3).symm, rfl⟩) dX4_frame_158
    | j9 + 5, hj => exact absurd hj (by omega)
  · have h3 := Int32.not_le.mp h3
    refine kg_iconst (v := 1) cx dX4_frame_46 (by decide) ?_
    refine kg_goto cx 51 dX4_frame_47 (by decide) ?_
    refine kg_istore_n cx dX4_frame_51 (by decide) ?_
    refine kg_iload_n cx dX4_frame_52 rfl ?_
    match j, hj with
    | 0, hj =>
      refine kg_tableIn (off := 31) cx 84 dX4_frame_53 (by decide) (by decide) (by decide +kernel) (by decide) ?_
      refine kg_aload_n cx dX4_frame_84 rfl ?_
      refine kg_get (ci := 4) cx 0 4 kfs_X4 rfl (by decide) rfl rfl kf_X4_16 dX4_frame_85 ?_
      refine kg_iload_n cx dX4_frame_88 rfl ?_
      refine kg_ialdN cx 3 0 f rfl rfl (rfl) (by omega) (by decide) (rfl) dX4_frame_89 ?_
      exact kg_ireturn cx hr (rfl) _ rfl (⟨rfl, rfl⟩) dX4_frame_90
    | 1, hj =>
      refine kg_tableIn (off := 38) cx 91 dX4_frame_53 (by decide) (by decide) (by decide +kernel) (by decide) ?_
      refine kg_iload_n cx dX4_frame_91 rfl ?_
      refine kg_if_eq cx 99 dX4_frame_92 (by decide) (fun h9 => absurd h9 (by decide)) (fun h9 => ?_)
      refine kg_iconst (v := 0) cx dX4_frame_95 (by decide) ?_
      refine kg_goto cx 105 dX4_frame_96 (by decide) ?_
      exact kg_ireturn cx hr (rfl) _ rfl (⟨congrArg (fun x => some (Value.int x)) (if_pos h3).symm, rfl⟩) dX4_frame_105
    | 2, hj =>
      refine kg_tableIn (off := 53) cx 106 dX4_frame_53 (by decide) (by decide) (by decide +kernel) (by decide) ?_
      refine kg_iload_n cx dX4_frame_106 rfl ?_
      refine kg_if_ne cx 123 dX4_frame_107 (by decide) (fun h9 => ?_) (fun h9 => absurd h9 (by decide))
      refine kg_iconst (v := 0) cx dX4_frame_123 (by decide) ?_
      exact kg_ireturn cx hr (rfl) _ rfl (⟨congrArg (fun x => some (Value.int x)) (kb_0 (P := ¬ w9 1 f 0 < 0 ∧ w9 3 f 0 ≠ 0) (fun q => q.1 h3)).symm, rfl⟩) dX4_frame_124
    | 3, hj =>
      refine kg_tableIn (off := 72) cx 125 dX4_frame_53 (by decide) (by decide) (by decide +kernel) (by decide) ?_
      refine kg_iload_n cx dX4_frame_125 rfl ?_
      refine kg_if_ne cx 142 dX4_frame_126 (by decide) (fun h9 => ?_) (fun h9 => absurd h9 (by decide))
      refine kg_iconst (v := 0) cx dX4_frame_142 (by decide) ?_
      exact kg_ireturn cx hr (rfl) _ rfl (⟨congrArg (fun x => some (Value.int x)) (kb_0 (P := ¬ w9 1 f 0 < 0 ∧ w9 4 f 0 ≠ 0) (fun q => q.1 h3)).symm, rfl⟩) dX4_frame_143
    | 4, hj =>
      refine kg_tableOut cx 144 dX4_frame_53 (Or.inr (by decide)) (by decide) ?_
      refine kg_iload_n cx dX4_frame_144 rfl ?_
      refine kg_if_eq cx 152 dX4_frame_145 (by decide) (fun h9 => absurd h9 (by decide)) (fun h9 => ?_)
      refine kg_iconst (v := 0) cx dX4_frame_148 (by decide) ?_
      refine kg_goto cx 158 dX4_frame_149 (by decide) ?_
      exact kg_ireturn cx hr (rfl) _ rfl (⟨congrArg (fun x => some (Value.int x)) (if_pos h3).symm, rfl⟩) dX4_frame_158
    | j9 + 5, hj => exact absurd hj (by omega)
theorem kLsn_iff {x : Int32} {z : Nat} (hz : z ≤ 400) : (1 ≤ x ∧ x ≤ nI z) ↔ kLsn x z := by
  constructor
  · rintro ⟨h1, h2⟩
    exact kLsn_of hz (Int32.not_lt.mpr h1) h2
  · rintro ⟨i, h1, h2, rfl⟩
    exact ⟨nI_le (a := 1) h1 (by omega), nI_le h2 (by omega)⟩
set_option maxHeartbeats 4000000 in
set_option maxRecDepth 100000 in
theorem r_log_bad (l : Launch) (D : va_G) (c : Nat → ClassId) (rd : Nat → Nat) (u : kS) (x y : Int32) (z : Nat) (hs : u 14 0 0 = nI z) (hz : z ≤ 400) (hx : ¬ (kIn y 7 ∧ kLsn x z)) : kR l D c rd yX4_log (Cond.code yX4_log cX4_log 3 (some .int)) 1 22 u [.ref (rd 0), .int x, .int y] (fun v u9 => v = some (.int 0) ∧ u9 = ku u 20 0 0 1) := by
  refine kR.mk (by decide) (by simp [Value.category]) (Nat.le_of_ble_eq_true rfl) ?_
  intro p e s m args below meth c9 cx hr

  by_cases h1 : kLsn x z
  · refine kg_aload_n cx dX4_log_0 rfl ?_
    refine kg_iload_n cx dX4_log_1 rfl ?_
    refine kg_iconst (v := 1) cx dX4_log_2 (by decide) ?_
    refine kg_aload_n cx dX4_log_3 rfl ?_
    refine kg_get (ci := 4) cx 0 11 kfs_X4 rfl (by decide) rfl rfl kf_X4_113 dX4_log_4 ?_
    refine kg_top (nI z) (hs) ?_
    refine kg_callS (na := 3) cx (r_isIn l D c rd u x 1 (nI z)) kcd_X4_isIn km_X4_100 kin_X4 kst_X4_isIn (by decide +kernel) rfl (by decide) (by decide) rfl (Nat.le_of_ble_eq_true rfl) dX4_log_7 (fun _ => kr_adr _ _) (fun v9 u9 h9 => ?_)
    obtain ⟨rfl, h9⟩ := h9
    subst u9
    refine kg_top 1 (kb_1 (kLsn_iff hz |>.mpr h1)) ?_
    refine kg_if_eq cx 27 dX4_log_10 (by decide) (fun h9 => absurd h9 (by decide)) (fun h9 => ?_)
    refine kg_iload_n cx dX4_log_13 rfl ?_
    refine kg_iconst (v := 0) cx dX4_log_14 (by decide) ?_
    refine kg_bipush (v := (nI 6)) cx dX4_log_15 (by decide) ?_
    refine kg_callS (na := 3) cx (r_isIn l D c rd u y 0 (nI 6)) kcd_X4_isIn km_X4_100 kin_X4 kst_X4_isIn (by decide +kernel) rfl (by decide) (by decide) rfl (Nat.le_of_ble_eq_true rfl) dX4_log_17 (fun _ => kr_adr _ _) (fun v9 u9 h9 => ?_)
    obtain ⟨rfl, h9⟩ := h9
    subst u9
    refine kg_top 0 (kb_0 (fun q9 => (fun q8 => hx ⟨q8, h1⟩) ((kIn_iff (by decide)).mp q9))) ?_
    refine kg_if_eq cx 27 dX4_log_20 (by decide) (fun h9 => ?_) (fun h9 => absurd h9 (by decide))
    refine kg_iconst (v := 1) cx dX4_log_27 (by decide) ?_
    refine kg_callV (ci := 4) (na := 1) cx (r_refused l D c rd u 1) 0 rfl rfl kcd_X4_refused km_X4_104 kin_X4 kim_X4_refused ksl_X4_refused (by decide +kernel) rfl (by decide) (by decide) rfl (Nat.le_of_ble_eq_true rfl) dX4_log_28 (fun _ => kr_adr _ _) (fun v9 u9 h9 => ?_)
    obtain ⟨rfl, h9⟩ := h9
    subst u9
    refine kg_top 1 (kb_1 (by decide)) ?_
    refine kg_if_eq cx 36 dX4_log_31 (by decide) (fun h9 => absurd h9 (by decide)) (fun h9 => ?_)
    refine kg_iconst (v := 0) cx dX4_log_34 (by decide) ?_
    exact kg_ireturn cx hr (rfl) _ rfl (⟨rfl, rfl⟩) dX4_log_35
  · refine kg_aload_n cx dX4_log_0 rfl ?_
    refine kg_iload_n cx dX4_log_1 rfl ?_
    refine kg_iconst (v := 1) cx dX4_log_2 (by decide) ?_
    refine kg_aload_n cx dX4_log_3 rfl ?_
    refine kg_get (ci := 4) cx 0 11 kfs_X4 rfl (by decide) rfl rfl kf_X4_113 dX4_log_4 ?_
    refine kg_top (nI z) (hs) ?_
    refine kg_callS (na := 3) cx (r_isIn l D c rd u x 1 (nI z)) kcd_X4_isIn km_X4_100 kin_X4 kst_X4_isIn (by decide +kernel) rfl (by decide) (by decide) rfl (Nat.le_of_ble_eq_true rfl) dX4_log_7 (fun _ => kr_adr _ _) (fun v9 u9 h9 => ?_)
    obtain ⟨rfl, h9⟩ := h9
    subst u9
    refine kg_top 0 (kb_0 (fun q9 => h1 (kLsn_iff hz |>.mp q9))) ?_
    refine kg_if_eq cx 27 dX4_log_10 (by decide) (fun h9 => ?_) (fun h9 => absurd h9 (by decide))
    refine kg_iconst (v := 1) cx dX4_log_27 (by decide) ?_
    refine kg_callV (ci := 4) (na := 1) cx (r_refused l D c rd u 1) 0 rfl rfl kcd_X4_refused km_X4_104 kin_X4 kim_X4_refused ksl_X4_refused (by decide +kernel) rfl (by decide) (by decide) rfl (Nat.le_of_ble_eq_true rfl) dX4_log_28 (fun _ => kr_adr _ _) (fun v9 u9 h9 => ?_)
    obtain ⟨rfl, h9⟩ := h9
    subst u9
    refine kg_top 1 (kb_1 (by decide)) ?_
    refine kg_if_eq cx 36 dX4_log_31 (by decide) (fun h9 => absurd h9 (by decide)) (fun h9 => ?_)
    refine kg_iconst (v := 0) cx dX4_log_34 (by decide) ?_
    exact kg_ireturn cx hr (rfl) _ rfl (⟨rfl, rfl⟩) dX4_log_35
set_option maxHeartbeats 4000000 in
set_option maxRecDepth 100000 in
theorem r_log_ok (l : Launch) (D : va_G) (c : Nat → ClassId) (rd : Nat → Nat) (u : kS) (w9 : kS) (hw : ku u 20 0 0 0 = w9) (z : Nat) (hs : u 14 0 0 = nI z) (hz : z ≤ 400) (i : Nat) (hi1 : 1 ≤ i) (hi2 : i ≤ z) (k : Nat) (hk : k < 7) : kR l D c rd yX4_log (Cond.code yX4_log cX4_log 3 (some .int)) 1 22 u [.ref (rd 0), .int (nI i), .int (nI k)] (fun v u9 => v = some (.int (w9 9 i k)) ∧ u9 = w9) := by
  refine kR.mk (by decide) (by simp [Value.category]) (Nat.le_of_ble_eq_true rfl) ?_
  intro p e s m args below meth c9 cx hr
  refine kg_aload_n cx dX4_log_0 rfl ?_
  refine kg_iload_n cx dX4_log_1 rfl ?_
  refine kg_iconst (v := 1) cx dX4_log_2 (by decide) ?_
  refine kg_aload_n cx dX4_log_3 rfl ?_
  refine kg_get (ci := 4) cx 0 11 kfs_X4 rfl (by decide) rfl rfl kf_X4_113 dX4_log_4 ?_
  refine kg_top (nI z) (hs) ?_
  refine kg_callS (na := 3) cx (r_isIn l D c rd u (nI i) 1 (nI z)) kcd_X4_isIn km_X4_100 kin_X4 kst_X4_isIn (by decide +kernel) rfl (by decide) (by decide) rfl (Nat.le_of_ble_eq_true rfl) dX4_log_7 (fun _ => kr_adr _ _) (fun v9 u9 h9 => ?_)
  obtain ⟨rfl, h9⟩ := h9
  subst u9
  refine kg_top 1 (kb_1 (kLsn_iff hz |>.mpr ⟨i, hi1, hi2, rfl⟩)) ?_
  refine kg_if_eq cx 27 dX4_log_10 (by decide) (fun h9 => absurd h9 (by decide)) (fun h9 => ?_)
  refine kg_iload_n cx dX4_log_13 rfl ?_
  refine kg_iconst (v := 0) cx dX4_log_14 (by decide) ?_
  refine kg_bipush (v := (nI 6)) cx dX4_log_15 (by decide) ?_
  refine kg_callS (na := 3) cx (r_isIn l D c rd u (nI k) 0 (nI 6)) kcd_X4_isIn km_X4_100 kin_X4 kst_X4_isIn (by decide +kernel) rfl (by decide) (by decide) rfl (Nat.le_of_ble_eq_true rfl) dX4_log_17 (fun _ => kr_adr _ _) (fun v9 u9 h9 => ?_)
  obtain ⟨rfl, h9⟩ := h9
  subst u9
  refine kg_top 1 (kb_1 ((kIn_iff (by decide)).mpr ⟨k, hk, rfl⟩)) ?_
  refine kg_if_eq cx 27 dX4_log_20 (by decide) (fun h9 => absurd h9 (by decide)) (fun h9 => ?_)
  refine kg_iconst (v := 0) cx dX4_log_23 (by decide) ?_
  refine kg_goto cx 28 dX4_log_24 (by decide) ?_
  refine kg_callV (ci := 4) (na := 1) cx (r_refused l D c rd u 0) 0 rfl rfl kcd_X4_refused km_X4_104 kin_X4 kim_X4_refused ksl_X4_refused (by decide +kernel) rfl (by decide) (by decide) rfl (Nat.le_of_ble_eq_true rfl) dX4_log_28 (fun _ => kr_adr _ _) (fun v9 u9 h9 => ?_)
  obtain ⟨rfl, h9⟩ := h9
  subst u9
  refine kg_top 0 (kb_0 (by decide)) ?_
  refine kg_if_eq cx 36 dX4_log_31 (by decide) (fun h9 => ?_) (fun h9 => absurd h9 (by decide))
  refine kg_eq (congrArg (kr rd c) hw) rfl rfl rfl ?_
  refine kg_iload_n cx dX4_log_36 rfl ?_
  match k, hk with
  | 0, hk =>
    refine kg_tableIn (off := 39) cx 76 dX4_log_37 (by decide) (by decide) (by decide +kernel) (by decide) ?_
    refine kg_aload_n cx dX4_log_76 rfl ?_
    refine kg_get (ci := 4) cx 0 13 kfs_X4 rfl (by decide) rfl rfl kf_X4_35 dX4_log_77 ?_
    refine kg_iload_n cx dX4_log_80 rfl ?_
    refine kg_ialdN cx 9 0 i rfl rfl (rfl) (by omega) (by decide) (rfl) dX4_log_81 ?_
    exact kg_ireturn cx hr (rfl) _ rfl (⟨rfl, rfl⟩) dX4_log_82
  | 1, hk =>
    refine kg_tableIn (off := 46) cx 83 dX4_log_37 (by decide) (by decide) (by decide +kernel) (by decide) ?_
    refine kg_aload_n cx dX4_log_83 rfl ?_
    refine kg_get (ci := 4) cx 0 14 kfs_X4 rfl (by decide) rfl rfl kf_X4_38 dX4_log_84 ?_
    refine kg_iload_n cx dX4_log_87 rfl ?_
    refine kg_ialdN cx 10 0 i rfl rfl (rfl) (by omega) (by decide) (rfl) dX4_log_88 ?_
    exact kg_ireturn cx hr (rfl) _ rfl (⟨rfl, rfl⟩) dX4_log_89
  | 2, hk =>
    refine kg_tableIn (off := 53) cx 90 dX4_log_37 (by decide) (by decide) (by decide +kernel) (by decide) ?_
    refine kg_aload_n cx dX4_log_90 rfl ?_
    refine kg_get (ci := 4) cx 0 15 kfs_X4 rfl (by decide) rfl rfl kf_X4_41 dX4_log_91 ?_
    refine kg_iload_n cx dX4_log_94 rfl ?_
    refine kg_ialdN cx 11 0 i rfl rfl (rfl) (by omega) (by decide) (rfl) dX4_log_95 ?_
    exact kg_ireturn cx hr (rfl) _ rfl (⟨rfl, rfl⟩) dX4_log_96
  | 3, hk =>
    refine kg_tableIn (off := 60) cx 97 dX4_log_37 (by decide) (by decide) (by decide +kernel) (by decide) ?_
    refine kg_aload_n cx dX4_log_97 rfl ?_
    refine kg_get (ci := 4) cx 0 16 kfs_X4 rfl (by decide) rfl rfl kf_X4_44 dX4_log_98 ?_
    refine kg_iload_n cx dX4_log_101 rfl ?_
    refine kg_ialdN cx 12 0 i rfl rfl (rfl) (by omega) (by decide) (rfl) dX4_log_102 ?_
    exact kg_ireturn cx hr (rfl) _ rfl (⟨rfl, rfl⟩) dX4_log_103
  | 4, hk =>
    refine kg_tableIn (off := 67) cx 104 dX4_log_37 (by decide) (by decide) (by decide +kernel) (by decide) ?_
    refine kg_aload_n cx dX4_log_104 rfl ?_
    refine kg_get (ci := 4) cx 0 17 kfs_X4 rfl (by decide) rfl rfl kf_X4_47 dX4_log_105 ?_
    refine kg_iload_n cx dX4_log_108 rfl ?_
    refine kg_ialdN cx 13 0 i rfl rfl (rfl) (by omega) (by decide) (rfl) dX4_log_109 ?_
    exact kg_ireturn cx hr (rfl) _ rfl (⟨rfl, rfl⟩) dX4_log_110
  | 5, hk =>
    refine kg_tableIn (off := 74) cx 111 dX4_log_37 (by decide) (by decide) (by decide +kernel) (by decide) ?_
    refine kg_aload_n cx dX4_log_111 rfl ?_
    refine kg_get (ci := 4) cx 0 18 kfs_X4 rfl (by decide) rfl rfl kf_X4_50 dX4_log_112 ?_
    refine kg_iload_n cx dX4_log_115 rfl ?_
    refine kg_ialdN cx 14 0 i rfl rfl (rfl) (by omega) (by decide) (rfl) dX4_log_116 ?_
    exact kg_ireturn cx hr (rfl) _ rfl (⟨rfl, rfl⟩) dX4_log_117
  | 6, hk =>
    refine kg_tableOut cx 118 dX4_log_37 (Or.inr (by decide)) (by decide) ?_
    refine kg_aload_n cx dX4_log_118 rfl ?_
    refine kg_get (ci := 4) cx 0 19 kfs_X4 rfl (by decide) rfl rfl kf_X4_53 dX4_log_119 ?_
    refine kg_iload_n cx dX4_log_122 rfl ?_
    refine kg_ialdN cx 15 0 i rfl rfl (rfl) (by omega) (by decide) (rfl) dX4_log_123 ?_
    exact kg_ireturn cx hr (rfl) _ rfl (⟨rfl, rfl⟩) dX4_log_124
  | j9 + 7, hk => exact absurd hk (by omega)
set_option maxHeartbeats 4000000 in
set_option maxRecDepth 100000 in
theorem r_count_bad (l : Launch) (D : va_G) (c : Nat → ClassId) (rd : Nat → Nat) (u : kS) (x : Int32) (hx : ¬ kIn x 8) : kR l D c rd yX4_count (Cond.code yX4_count cX4_count 4 (some .int)) 1 22 u [.ref (rd 0), .int x] (fun v u9 => v = some (.int 0) ∧ u9 = ku u 20 0 0 1) := by
  refine kR.mk (by decide) (by simp [Value.category]) (Nat.le_of_ble_eq_true rfl) ?_
  intro p e s m args below meth c9 cx hr
  refine kg_aload_n cx dX4_count_0 rfl ?_
  refine kg_iload_n cx dX4_count_1 rfl ?_
  refine kg_iconst (v := 0) cx dX4_count_2 (by decide) ?_
  refine kg_bipush (v := (nI 7)) cx dX4_count_3 (by decide) ?_
  refine kg_callS (na := 3) cx (r_isIn l D c rd u x 0 (nI 7)) kcd_X4_isIn km_X4_100 kin_X4 kst_X4_isIn (by decide +kernel) rfl (by decide) (by decide) rfl (Nat.le_of_ble_eq_true rfl) dX4_count_5 (fun _ => kr_adr _ _) (fun v9 u9 h9 => ?_)
  obtain ⟨rfl, h9⟩ := h9
  subst u9
  refine kg_top 0 (kb_0 (fun q9 => hx ((kIn_iff (by decide)).mp q9))) ?_
  refine kg_if_eq cx 15 dX4_count_8 (by decide) (fun h9 => ?_) (fun h9 => absurd h9 (by decide))
  refine kg_iconst (v := 1) cx dX4_count_15 (by decide) ?_
  refine kg_callV (ci := 4) (na := 1) cx (r_refused l D c rd u 1) 0 rfl rfl kcd_X4_refused km_X4_104 kin_X4 kim_X4_refused ksl_X4_refused (by decide +kernel) rfl (by decide) (by decide) rfl (Nat.le_of_ble_eq_true rfl) dX4_count_16 (fun _ => kr_adr _ _) (fun v9 u9 h9 => ?_)
  obtain ⟨rfl, h9⟩ := h9
  subst u9
  refine kg_top 1 (kb_1 (by decide)) ?_
  refine kg_if_eq cx 24 dX4_count_19 (by decide) (fun h9 => absurd h9 (by decide)) (fun h9 => ?_)
  refine kg_iconst (v := 0) cx dX4_count_22 (by decide) ?_
  exact kg_ireturn cx hr (rfl) _ rfl (⟨rfl, rfl⟩) dX4_count_23
set_option maxHeartbeats 4000000 in
set_option maxRecDepth 100000 in
theorem r_count_ok (l : Launch) (D : va_G) (c : Nat → ClassId) (rd : Nat → Nat) (u : kS) (w9 : kS) (hw : ku u 20 0 0 0 = w9) (j : Nat) (hj : j < 8) : kR l D c rd yX4_count (Cond.code yX4_count cX4_count 4 (some .int)) 1 22 u [.ref (rd 0), .int (nI j)] (fun v u9 => v = some (.int (kCnt w9 j)) ∧ u9 = w9) := by
  refine kR.mk (by decide) (by simp [Value.category]) (Nat.le_of_ble_eq_true rfl) ?_
  intro p e s m args below meth c9 cx hr
  refine kg_aload_n cx dX4_count_0 rfl ?_
  refine kg_iload_n cx dX4_count_1 rfl ?_
  refine kg_iconst (v := 0) cx dX4_count_2 (by decide) ?_
  refine kg_bipush (v := (nI 7)) cx dX4_count_3 (by decide) ?_
  refine kg_callS (na := 3) cx (r_isIn l D c rd u (nI j) 0 (nI 7)) kcd_X4_isIn km_X4_100 kin_X4 kst_X4_isIn (by decide +kernel) rfl (by decide) (by decide) rfl (Nat.le_of_ble_eq_true rfl) dX4_count_5 (fun _ => kr_adr _ _) (fun v9 u9 h9 => ?_)
  obtain ⟨rfl, h9⟩ := h9
  subst u9
  refine kg_top 1 (kb_1 ((kIn_iff (by decide)).mpr ⟨j, hj, rfl⟩)) ?_
  refine kg_if_eq cx 15 dX4_count_8 (by decide) (fun h9 => absurd h9 (by decide)) (fun h9 => ?_)
  refine kg_iconst (v := 0) cx dX4_count_11 (by decide) ?_
  refine kg_goto cx 16 dX4_count_12 (by decide) ?_
  refine kg_callV (ci := 4) (na := 1) cx (r_refused l D c rd u 0) 0 rfl rfl kcd_X4_refused km_X4_104 kin_X4 kim_X4_refused ksl_X4_refused (by decide +kernel) rfl (by decide) (by decide) rfl (Nat.le_of_ble_eq_true rfl) dX4_count_16 (fun _ => kr_adr _ _) (fun v9 u9 h9 => ?_)
  obtain ⟨rfl, h9⟩ := h9
  subst u9
  refine kg_top 0 (kb_0 (by decide)) ?_
  refine kg_if_eq cx 24 dX4_count_19 (by decide) (fun h9 => ?_) (fun h9 => absurd h9 (by decide))
  refine kg_eq (congrArg (kr rd c) hw) rfl rfl rfl ?_
  refine kg_iconst (v := 0) cx dX4_count_24 (by decide) ?_
  refine kg_istore_n cx dX4_count_25 (by decide) ?_
  refine kg_iload_n cx dX4_count_26 rfl ?_
  match j, hj with
  | 0, hj =>
    refine kg_tableIn (off := 41) cx 68 dX4_count_27 (by decide) (by decide) (by decide +kernel) (by decide) ?_
    refine kg_aload_n cx dX4_count_68 rfl ?_
    refine kg_get (ci := 4) cx 0 11 kfs_X4 rfl (by decide) rfl rfl kf_X4_113 dX4_count_69 ?_
    exact kg_ireturn cx hr (rfl) _ rfl (⟨rfl, rfl⟩) dX4_count_72
  | 1, hj =>
    refine kg_tableIn (off := 46) cx 73 dX4_count_27 (by decide) (by decide) (by decide +kernel) (by decide) ?_
    refine kg_aload_n cx dX4_count_73 rfl ?_
    refine kg_get (ci := 4) cx 0 12 kfs_X4 rfl (by decide) rfl rfl kf_X4_72 dX4_count_74 ?_
    exact kg_ireturn cx hr (rfl) _ rfl (⟨rfl, rfl⟩) dX4_count_77
  | 2, hj =>
    refine kg_tableIn (off := 51) cx 78 dX4_count_27 (by decide) (by decide) (by decide +kernel) (by decide) ?_
    refine kg_iconst (v := 0) cx dX4_count_78 (by decide) ?_
    refine kg_istore_n cx dX4_count_79 (by decide) ?_
    have loop : ∀ (k i : Nat), 8 - i = k → i ≤ 8 → kgR p l e 1 22 s m args below meth c9 4 D c rd u (fun v u9 => v = some (.int (kCnt w9 2)) ∧ u9 = w9) w9 80 [some (.ref (rd 0)), some (.int (nI 2)), some (.int (nI (kct (fun t => w9 16 t 0) i))), some (.int (nI i))] [] := by
      intro k
      induction k with
      | zero =>
        intro i hk hi
        have e8 : i = 8 := by omega
        subst i
        refine kg_iload_n cx dX4_count_80 rfl ?_
        refine kg_bipush (v := (nI 8)) cx dX4_count_81 (by decide) ?_
        refine kg_icmp_ge cx 109 dX4_count_83 (by decide) (fun h1 => ?_) (fun h1 => ?_)
        · refine kg_iload_n cx dX4_count_109 rfl ?_
          exact kg_ireturn cx hr (rfl) _ rfl (⟨rfl, rfl⟩) dX4_count_110
        · exact absurd (Int32.le_refl _) h1
      | succ k ih =>
        intro i hk hi
        have hin : i < 8 := by omega
        refine kg_iload_n cx dX4_count_80 rfl ?_
        refine kg_bipush (v := (nI 8)) cx dX4_count_81 (by decide) ?_
        refine kg_icmp_ge cx 109 dX4_count_83 (by decide) (fun h1 => ?_) (fun h1 => ?_)
        · exact absurd h1 (nI_ge hin (by omega))
        · refine kg_aload_n cx dX4_count_86 rfl ?_
          refine kg_get (ci := 4) cx 0 21 kfs_X4 rfl (by decide) rfl rfl kf_X4_59 dX4_count_87 ?_
          refine kg_iload_n cx dX4_count_90 rfl ?_
          refine kg_zaldN cx 17 1 i rfl rfl (rfl) (hin) (by decide) (rfl) dX4_count_91 ?_
          refine kg_if_eq cx 101 dX4_count_92 (by decide) (fun h2 => ?_) (fun h2 => ?_)
          · refine kg_iload_n cx dX4_count_101 rfl ?_
            refine kg_istore_n cx dX4_count_102 (by decide) ?_
            refine kg_iinc (v := nI (i + 1)) cx dX4_count_103 rfl (nI_1 i) (by decide) ?_
            refine kg_goto cx 80 dX4_count_106 (by decide) ?_
            have e9 : kct (fun t => w9 16 t 0) (i + 1) = kct (fun t => w9 16 t 0) i := if_pos h2
            have := ih (i + 1) (by omega) (by omega)
            rw [e9] at this
            exact this
          · refine kg_iload_n cx dX4_count_95 rfl ?_
            refine kg_iconst (v := 1) cx dX4_count_96 (by decide) ?_
            refine kg_iadd cx dX4_count_97 ?_
            refine kg_top (nI (kct (fun t => w9 16 t 0) i + 1)) (nI_1 _) ?_
            refine kg_goto cx 102 dX4_count_98 (by decide) ?_
            refine kg_istore_n cx dX4_count_102 (by decide) ?_
            refine kg_iinc (v := nI (i + 1)) cx dX4_count_103 rfl (nI_1 i) (by decide) ?_
            refine kg_goto cx 80 dX4_count_106 (by decide) ?_
            have e9 : kct (fun t => w9 16 t 0) (i + 1) = kct (fun t => w9 16 t 0) i + 1 := if_neg h2
            have := ih (i + 1) (by omega) (by omega)
            rw [e9] at this
            exact this
    exact loop 8 0 rfl (by decide)
  | 3, hj =>
    refine kg_tableIn (off := 84) cx 111 dX4_count_27 (by decide) (by decide) (by decide +kernel) (by decide) ?_
    refine kg_aload_n cx dX4_count_111 rfl ?_
    refine kg_get (ci := 4) cx 0 10 kfs_X4 rfl (by decide) rfl rfl kf_X4_82 dX4_count_112 ?_
    exact kg_ireturn cx hr (rfl) _ rfl (⟨rfl, rfl⟩) dX4_count_115
  | 4, hj =>
    refine kg_tableIn (off := 89) cx 116 dX4_count_27 (by decide) (by decide) (by decide +kernel) (by decide) ?_
    refine kg_aload_n cx dX4_count_116 rfl ?_
    refine kg_get (ci := 4) cx 0 23 kfs_X4 rfl (by decide) rfl rfl kf_X4_75 dX4_count_117 ?_
    exact kg_ireturn cx hr (rfl) _ rfl (⟨rfl, rfl⟩) dX4_count_120
  | 5, hj =>
    refine kg_tableIn (off := 94) cx 121 dX4_count_27 (by decide) (by decide) (by decide +kernel) (by decide) ?_
    refine kg_aload_n cx dX4_count_121 rfl ?_
    refine kg_get (ci := 4) cx 0 24 kfs_X4 rfl (by decide) rfl rfl kf_X4_97 dX4_count_122 ?_
    exact kg_ireturn cx hr (rfl) _ rfl (⟨rfl, rfl⟩) dX4_count_125
  | 6, hj =>
    refine kg_tableIn (off := 99) cx 126 dX4_count_27 (by decide) (by decide) (by decide +kernel) (by decide) ?_
    refine kg_aload_n cx dX4_count_126 rfl ?_
    refine kg_get (ci := 4) cx 0 25 kfs_X4 rfl (by decide) rfl rfl kf_X4_147 dX4_count_127 ?_
    exact kg_ireturn cx hr (rfl) _ rfl (⟨rfl, rfl⟩) dX4_count_130
  | 7, hj =>
    refine kg_tableOut cx 131 dX4_count_27 (Or.inr (by decide)) (by decide) ?_
    refine kg_aload_n cx dX4_count_131 rfl ?_
    refine kg_get (ci := 4) cx 0 26 kfs_X4 rfl (by decide) rfl rfl kf_X4_138 dX4_count_132 ?_
    exact kg_ireturn cx hr (rfl) _ rfl (⟨rfl, rfl⟩) dX4_count_135
  | j9 + 8, hj => exact absurd hj (by omega)
