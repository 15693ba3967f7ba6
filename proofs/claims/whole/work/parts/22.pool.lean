/-- r: the least frame that has the page pg, or -1 -/
def kFind (u : kS) (n : Nat) (pg r : Int32) : Prop := (∃ f, f < n ∧ r = nI f ∧ u 1 f 0 = pg ∧ ∀ j, j < f → u 1 j 0 ≠ pg) ∨ (r = -1 ∧ ∀ j, j < n → u 1 j 0 ≠ pg)
theorem nI_ge0 {f : Nat} (h : f < 2 ^ 31) : (0 : Int32) ≤ nI f := nI_pos' h
set_option maxHeartbeats 4000000 in
set_option maxRecDepth 100000 in
/-- Pool.find -/
theorem c_X2_find (l : Launch) (D : va_G) (c : Nat → ClassId) (ad : Nat → Nat → Nat) (n : Nat) (hn : n ≤ 8) (u : kS) (pg : Int32) : kC l D c ad n yX2_find (Cond.code yX2_find cX2_find 3 (some .int)) 0 0 u [.ref (ad 1 0), .int pg] (fun v u9 => (∃ r, v = some (.int r) ∧ kFind u n pg r) ∧ u9 = u) := by
  refine kC.mk (by decide) (by simp [Value.category]) (Nat.le_of_ble_eq_true rfl) ?_
  intro p e s m args below meth c9 cx hr
  refine kg_iconst (v := 0) cx dX2_find_0 (by decide) ?_
  refine kg_istore_n cx dX2_find_1 (by decide) ?_
  have loop : ∀ (k i : Nat), n - i = k → i ≤ n → (∀ j, j < i → u 1 j 0 ≠ pg) → kgC p l e 0 0 s m args below meth c9 3 D c ad n u (fun v u9 => (∃ r, v = some (.int r) ∧ kFind u n pg r) ∧ u9 = u) u 2 [some (.ref (ad 1 0)), some (.int pg), some (.int (nI i))] [] := by
    intro k
    induction k with
    | zero =>
      intro i hk hi hj
      have e8 : i = n := by omega
      subst i
      refine kg_iload_n cx dX2_find_2 rfl ?_
      refine kg_aload_n cx dX2_find_3 rfl ?_
      refine kg_get (ci := 2) cx 1 1 kfs_X2 rfl (by decide) rfl rfl kf_X2_18 dX2_find_4 ?_
      refine kg_alen (v := nI n) cx 4 2 rfl rfl rfl dX2_find_7 ?_
      refine kg_icmp_ge cx 32 dX2_find_8 (by decide) (fun h1 => ?_) (fun h1 => ?_)
      · refine kg_iconst (v := (-1)) cx dX2_find_32 (by decide) ?_
        exact kg_ireturn cx hr (rfl) _ rfl (⟨⟨_, rfl, Or.inr ⟨rfl, hj⟩⟩, rfl⟩) dX2_find_33
      · exact absurd (Int32.le_refl _) h1
    | succ k ih =>
      intro i hk hi hj
      have hin : i < n := by omega
      refine kg_iload_n cx dX2_find_2 rfl ?_
      refine kg_aload_n cx dX2_find_3 rfl ?_
      refine kg_get (ci := 2) cx 1 1 kfs_X2 rfl (by decide) rfl rfl kf_X2_18 dX2_find_4 ?_
      refine kg_alen (v := nI n) cx 4 2 rfl rfl rfl dX2_find_7 ?_
      refine kg_icmp_ge cx 32 dX2_find_8 (by decide) (fun h1 => ?_) (fun h1 => ?_)
      · exact absurd h1 (nI_ge hin (by omega))
      · refine kg_aload_n cx dX2_find_11 rfl ?_
        refine kg_get (ci := 2) cx 1 1 kfs_X2 rfl (by decide) rfl rfl kf_X2_18 dX2_find_12 ?_
        refine kg_iload_n cx dX2_find_15 rfl ?_
        refine kg_aaldN cx 4 2 i rfl rfl (rfl) (hin) (by omega) (k_if hin _) dX2_find_16 ?_
        refine kg_getN (ci := 0) cx (44 + i) 1 kfs_X0 rfl (by decide) (kw_at_o hin) rfl (kfn_X2_23 cx.2.2.2.2.2.2.2.2) dX2_find_17 ?_
        refine kg_iload_n cx dX2_find_20 rfl ?_
        refine kg_icmp_ne cx 26 dX2_find_21 (by decide) (fun h2 => ?_) (fun h2 => ?_)
        · refine kg_iinc (v := nI (i + 1)) cx dX2_find_26 rfl (nI_1 i) (by decide) ?_
          refine kg_goto cx 2 dX2_find_29 (by decide) ?_
          refine ih (i + 1) (by omega) (by omega) (fun j hj9 => ?_)
          by_cases e9 : j = i
          · rw [e9]; exact h2
          · exact hj j (by omega)
        · refine kg_iload_n cx dX2_find_24 rfl ?_
          exact kg_ireturn cx hr (rfl) _ rfl (⟨⟨_, rfl, Or.inl ⟨i, hin, rfl, h2, hj⟩⟩, rfl⟩) dX2_find_25
  exact loop n 0 rfl (Nat.zero_le _) (fun j h => absurd h (Nat.not_lt_zero _))
def kO : Option Nat → Int32
  | some f => nI f
  | none => -1
/-- the hand goes round from h, k frames far at most: what then is, and the frame that it takes -/
def kTurn (n : Nat) (fl : Int32) : Nat → kS → Nat → kS × Option Nat
  | 0, u, _ => (u, none)
  | k + 1, u, h =>
    if kMay u h fl then
      if u 4 h 0 = 0 then (ku u 6 0 0 (nI (if h + 1 < n then h + 1 else 0)), some h)
      else kTurn n fl k (ku (ku u 6 0 0 (nI (if h + 1 < n then h + 1 else 0))) 4 h 0 0) (if h + 1 < n then h + 1 else 0)
    else kTurn n fl k (ku u 6 0 0 (nI (if h + 1 < n then h + 1 else 0))) (if h + 1 < n then h + 1 else 0)
theorem kTurn_s {n : Nat} {fl : Int32} {k : Nat} {u : kS} {h : Nat} : kTurn n fl (k + 1) u h =
    if kMay u h fl then
      if u 4 h 0 = 0 then (ku u 6 0 0 (nI (if h + 1 < n then h + 1 else 0)), some h)
      else kTurn n fl k (ku (ku u 6 0 0 (nI (if h + 1 < n then h + 1 else 0))) 4 h 0 0) (if h + 1 < n then h + 1 else 0)
    else kTurn n fl k (ku u 6 0 0 (nI (if h + 1 < n then h + 1 else 0))) (if h + 1 < n then h + 1 else 0) := rfl
theorem kTurn_F {n : Nat} {fl : Int32} {F a b : Nat} (h4 : F ≠ 4) (h6 : F ≠ 6) : ∀ (k : Nat) (u : kS) (h : Nat), (kTurn n fl k u h).1 F a b = u F a b
  | 0, _, _ => rfl
  | k + 1, u, h => by
    unfold kTurn
    split
    · split
      · exact ku_F h6
      · rw [kTurn_F h4 h6 k, ku_F h4, ku_F h6]
    · rw [kTurn_F h4 h6 k, ku_F h6]
theorem kTurn_lt {n : Nat} {fl : Int32} : ∀ (k : Nat) (u : kS) (h f : Nat), h < n → (kTurn n fl k u h).2 = some f → f < n
  | 0, _, _, _, _, e => by cases e
  | k + 1, u, h, f, hh, e => by
    have h9 : (if h + 1 < n then h + 1 else 0) < n := by split <;> omega
    unfold kTurn at e
    split at e
    · split at e
      · cases e; exact hh
      · exact kTurn_lt k _ _ f h9 e
    · exact kTurn_lt k _ _ f h9 e
theorem kMay_6 {u : kS} {x : Int32} {f : Nat} {fl : Int32} : kMay (ku u 6 0 0 x) f fl ↔ kMay u f fl := by simp [kMay, ku]
set_option maxHeartbeats 4000000 in
set_option maxRecDepth 100000 in
/-- Pool.turnHand -/
theorem c_X2_turnHand (l : Launch) (D : va_G) (c : Nat → ClassId) (ad : Nat → Nat → Nat) (n : Nat) (hn : n ≤ 8) (u : kS) (fl : Int32) (h : Nat) (hh : h < n) (hH : u 6 0 0 = nI h) : kC l D c ad n yX2_turnHand (Cond.code yX2_turnHand cX2_turnHand 4 (some .int)) 1 21 u [.ref (ad 1 0), .int fl] (fun v u9 => v = some (.int (kO (kTurn n fl (2 * n) u h).2)) ∧ u9 = (kTurn n fl (2 * n) u h).1) := by
  refine kC.mk (by decide) (by simp [Value.category]) (Nat.le_of_ble_eq_true rfl) ?_
  intro p e s m args below meth c9 cx hr
  refine kg_iconst (v := 0) cx dX2_turnHand_0 (by decide) ?_
  refine kg_istore_n cx dX2_turnHand_1 (by decide) ?_
  have loop : ∀ (k i : Nat) (v : kS) (h2 : Nat), 2 * n - i = k → i ≤ 2 * n → h2 < n → v 6 0 0 = nI h2 → kTurn n fl (2 * n) u h = kTurn n fl k v h2 → kgC p l e 1 21 s m args below meth c9 4 D c ad n u (fun v u9 => v = some (.int (kO (kTurn n fl (2 * n) u h).2)) ∧ u9 = (kTurn n fl (2 * n) u h).1) v 2 [some (.ref (ad 1 0)), some (.int fl), some (.int (nI i)), none] [] := by
    intro k
    induction k with
    | zero =>
      intro i v h2 hk hi hlt hv he
      have e8 : i = 2 * n := by omega
      subst i
      refine kg_iload_n cx dX2_turnHand_2 rfl ?_
      refine kg_iconst (v := (nI 2)) cx dX2_turnHand_3 (by decide) ?_
      refine kg_aload_n cx dX2_turnHand_4 rfl ?_
      refine kg_get (ci := 2) cx 1 1 kfs_X2 rfl (by decide) rfl rfl kf_X2_18 dX2_turnHand_5 ?_
      refine kg_alen (v := nI n) cx 4 2 rfl rfl rfl dX2_turnHand_8 ?_
      refine kg_imul cx dX2_turnHand_9 ?_
      refine kg_top (nI (2 * n)) (pk_mul 2 n) ?_
      refine kg_icmp_ge cx 83 dX2_turnHand_10 (by decide) (fun h1 => ?_) (fun h1 => ?_)
      · refine kg_iconst (v := (-1)) cx dX2_turnHand_83 (by decide) ?_
        exact kg_ireturn cx hr (rfl) _ rfl (⟨by rw [he]; rfl, by rw [he]; rfl⟩) dX2_turnHand_84
      · exact absurd (Int32.le_refl _) h1
    | succ k ih =>
      intro i v h2 hk hi hlt hv he
      refine kg_iload_n cx dX2_turnHand_2 rfl ?_
      refine kg_iconst (v := (nI 2)) cx dX2_turnHand_3 (by decide) ?_
      refine kg_aload_n cx dX2_turnHand_4 rfl ?_
      refine kg_get (ci := 2) cx 1 1 kfs_X2 rfl (by decide) rfl rfl kf_X2_18 dX2_turnHand_5 ?_
      refine kg_alen (v := nI n) cx 4 2 rfl rfl rfl dX2_turnHand_8 ?_
      refine kg_imul cx dX2_turnHand_9 ?_
      refine kg_top (nI (2 * n)) (pk_mul 2 n) ?_
      refine kg_icmp_ge cx 83 dX2_turnHand_10 (by decide) (fun h1 => ?_) (fun h1 => ?_)
      · exact absurd h1 (nI_ge (show i < 2 * n by omega) (by omega))
      · refine kg_aload_n cx dX2_turnHand_13 rfl ?_
        refine kg_get (ci := 2) cx 1 2 kfs_X2 rfl (by decide) rfl rfl kf_X2_45 dX2_turnHand_14 ?_
        refine kg_top (nI h2) (hv) ?_
        refine kg_istore_n cx dX2_turnHand_17 (by decide) ?_
        refine kg_aload_n cx dX2_turnHand_18 rfl ?_
        refine kg_iload_n cx dX2_turnHand_19 rfl ?_
        refine kg_iconst (v := 1) cx dX2_turnHand_20 (by decide) ?_
        refine kg_iadd cx dX2_turnHand_21 ?_
        refine kg_top (nI (h2 + 1)) (nI_1 h2) ?_
        refine kg_aload_n cx dX2_turnHand_22 rfl ?_
        refine kg_get (ci := 2) cx 1 1 kfs_X2 rfl (by decide) rfl rfl kf_X2_18 dX2_turnHand_23 ?_
        refine kg_alen (v := nI n) cx 4 2 rfl rfl rfl dX2_turnHand_26 ?_
        refine kg_icmp_ge cx 36 dX2_turnHand_27 (by decide) (fun h4 => ?_) (fun h4 => ?_)
        · refine kg_iconst (v := 0) cx dX2_turnHand_36 (by decide) ?_
          have e3 : (if h2 + 1 < n then h2 + 1 else 0) = 0 := if_neg (fun q => absurd (nI_lt q (by omega)) (Int32.not_lt.mpr h4))
          have hlt3 : 0 < n := by omega
          refine kg_put (ci := 2) (ty := .int) cx 1 2 kfs_X2 tyX2 tyX2_ok nmX2 rfl (by decide) rfl (Nat.le_of_ble_eq_true rfl) kf_X2_45 rfl (by decide +kernel) rfl rfl (ks_hand _) dX2_turnHand_37 ?_
          refine kg_aload_n cx dX2_turnHand_40 rfl ?_
          refine kg_get (ci := 2) cx 1 1 kfs_X2 rfl (by decide) rfl rfl kf_X2_18 dX2_turnHand_41 ?_
          refine kg_iload_n cx dX2_turnHand_44 rfl ?_
          refine kg_aaldN cx 4 2 h2 rfl rfl (rfl) (hlt) (by omega) (k_if hlt _) dX2_turnHand_45 ?_
          refine kg_iload_n cx dX2_turnHand_46 rfl ?_
          refine kg_callVN (ci := 0) (na := 1) cx (c_X0_mayBeTaken l D c ad n (ku v 6 0 0 (nI 0)) h2 fl hlt) (44 + h2) rfl (kw_at_o hlt) kcd_X0_mayBeTaken (kmn_X2_48 cx.2.2.2.2.2.2.2.2) kin_X0 kim_X0_mayBeTaken ksl_X0_mayBeTaken (by decide +kernel) rfl (by decide) (by decide) rfl (Nat.le_of_ble_eq_true rfl) dX2_turnHand_47 (fun _ => kw_adr _ _) (fun v9 u9 h9 => ?_)
          obtain ⟨rfl, h9⟩ := h9
          subst u9
          refine kg_if_eq cx 77 dX2_turnHand_50 (by decide) (fun h5 => ?_) (fun h5 => ?_)
          · refine kg_iinc (v := nI (i + 1)) cx dX2_turnHand_77 rfl (nI_1 i) (by decide) ?_
            refine kg_goto cx 2 dX2_turnHand_80 (by decide) ?_
            refine kg_lo (lo9 := [some (.ref (ad 1 0)), some (.int fl), some (.int (nI (i + 1))), none]) (fun j x9 hx => ?_) ?_
            · match j, hx with
              | 0, hx => exact hx
              | 1, hx => exact hx
              | 2, hx => exact hx
              | 3, hx => cases hx
              | j + 4, hx => cases hx
            · refine ih (i + 1) (ku v 6 0 0 (nI 0)) 0 (by omega) (by omega) hlt3 (ku_s _ _ _ _ _) ?_
              rw [he, kTurn_s, if_neg (fun q => absurd ((kb_1 (kMay_6.mpr q)).symm.trans h5) (by decide)), e3]
          · have hm : kMay v h2 fl := by
              by_cases q : kMay (ku v 6 0 0 (nI 0)) h2 fl
              · exact kMay_6.mp q
              · exact absurd (kb_0 q) h5
            refine kg_aload_n cx dX2_turnHand_53 rfl ?_
            refine kg_get (ci := 2) cx 1 1 kfs_X2 rfl (by decide) rfl rfl kf_X2_18 dX2_turnHand_54 ?_
            refine kg_iload_n cx dX2_turnHand_57 rfl ?_
            refine kg_aaldN cx 4 2 h2 rfl rfl (rfl) (hlt) (by omega) (k_if hlt _) dX2_turnHand_58 ?_
            refine kg_getN (ci := 0) cx (44 + h2) 4 kfs_X0 rfl (by decide) (kw_at_o hlt) rfl (kfn_X2_38 cx.2.2.2.2.2.2.2.2) dX2_turnHand_59 ?_
            refine kg_if_ne cx 67 dX2_turnHand_62 (by decide) (fun h6 => ?_) (fun h6 => ?_)
            · refine kg_aload_n cx dX2_turnHand_67 rfl ?_
              refine kg_get (ci := 2) cx 1 1 kfs_X2 rfl (by decide) rfl rfl kf_X2_18 dX2_turnHand_68 ?_
              refine kg_iload_n cx dX2_turnHand_71 rfl ?_
              refine kg_aaldN cx 4 2 h2 rfl rfl (rfl) (hlt) (by omega) (k_if hlt _) dX2_turnHand_72 ?_
              refine kg_iconst (v := 0) cx dX2_turnHand_73 (by decide) ?_
              refine kg_putN (ci := 0) (ty := .boolean) cx (44 + h2) 4 kfs_X0 tyX0 tyX0_ok nmX0 rfl (by decide) (kw_at_o hlt) (Nat.le_of_ble_eq_true rfl) (kfn_X2_38 cx.2.2.2.2.2.2.2.2) rfl (by decide +kernel) rfl rfl (ks_marked hlt _) dX2_turnHand_74 ?_
              refine kg_iinc (v := nI (i + 1)) cx dX2_turnHand_77 rfl (nI_1 i) (by decide) ?_
              refine kg_goto cx 2 dX2_turnHand_80 (by decide) ?_
              refine kg_lo (lo9 := [some (.ref (ad 1 0)), some (.int fl), some (.int (nI (i + 1))), none]) (fun j x9 hx => ?_) ?_
              · match j, hx with
                | 0, hx => exact hx
                | 1, hx => exact hx
                | 2, hx => exact hx
                | 3, hx => cases hx
                | j + 4, hx => cases hx
              · refine ih (i + 1) (ku (ku v 6 0 0 (nI 0)) 4 h2 0 0) 0 (by omega) (by omega) hlt3 ((ku_F (by decide)).trans (ku_s _ _ _ _ _)) ?_
                rw [he, kTurn_s, if_pos hm, if_neg (fun q => h6 ((ku_F (by decide)).trans q)), e3]
            · refine kg_iload_n cx dX2_turnHand_65 rfl ?_
              have h6 : v 4 h2 0 = 0 := (ku_F (by decide)).symm.trans h6
              exact kg_ireturn cx hr (rfl) _ rfl (⟨by rw [he, kTurn_s, if_pos hm, if_pos h6]; rfl, by rw [he, kTurn_s, if_pos hm, if_pos h6, e3]⟩) dX2_turnHand_66
        · have q4 : h2 + 1 < n := by
            rcases Nat.lt_or_ge (h2 + 1) n with q | q
            · exact q
            · exact absurd (nI_le q (by omega)) h4
          refine kg_iload_n cx dX2_turnHand_30 rfl ?_
          refine kg_iconst (v := 1) cx dX2_turnHand_31 (by decide) ?_
          refine kg_iadd cx dX2_turnHand_32 ?_
          refine kg_top (nI (h2 + 1)) (nI_1 h2) ?_
          refine kg_goto cx 37 dX2_turnHand_33 (by decide) ?_
          have e3 : (if h2 + 1 < n then h2 + 1 else 0) = (h2 + 1) := if_pos q4
          have hlt3 : (h2 + 1) < n := by omega
          refine kg_put (ci := 2) (ty := .int) cx 1 2 kfs_X2 tyX2 tyX2_ok nmX2 rfl (by decide) rfl (Nat.le_of_ble_eq_true rfl) kf_X2_45 rfl (by decide +kernel) rfl rfl (ks_hand _) dX2_turnHand_37 ?_
          refine kg_aload_n cx dX2_turnHand_40 rfl ?_
          refine kg_get (ci := 2) cx 1 1 kfs_X2 rfl (by decide) rfl rfl kf_X2_18 dX2_turnHand_41 ?_
          refine kg_iload_n cx dX2_turnHand_44 rfl ?_
          refine kg_aaldN cx 4 2 h2 rfl rfl (rfl) (hlt) (by omega) (k_if hlt _) dX2_turnHand_45 ?_
          refine kg_iload_n cx dX2_turnHand_46 rfl ?_
          refine kg_callVN (ci := 0) (na := 1) cx (c_X0_mayBeTaken l D c ad n (ku v 6 0 0 (nI (h2 + 1))) h2 fl hlt) (44 + h2) rfl (kw_at_o hlt) kcd_X0_mayBeTaken (kmn_X2_48 cx.2.2.2.2.2.2.2.2) kin_X0 kim_X0_mayBeTaken ksl_X0_mayBeTaken (by decide +kernel) rfl (by decide) (by decide) rfl (Nat.le_of_ble_eq_true rfl) dX2_turnHand_47 (fun _ => kw_adr _ _) (fun v9 u9 h9 => ?_)
          obtain ⟨rfl, h9⟩ := h9
          subst u9
          refine kg_if_eq cx 77 dX2_turnHand_50 (by decide) (fun h5 => ?_) (fun h5 => ?_)
          · refine kg_iinc (v := nI (i + 1)) cx dX2_turnHand_77 rfl (nI_1 i) (by decide) ?_
            refine kg_goto cx 2 dX2_turnHand_80 (by decide) ?_
            refine kg_lo (lo9 := [some (.ref (ad 1 0)), some (.int fl), some (.int (nI (i + 1))), none]) (fun j x9 hx => ?_) ?_
            · match j, hx with
              | 0, hx => exact hx
              | 1, hx => exact hx
              | 2, hx => exact hx
              | 3, hx => cases hx
              | j + 4, hx => cases hx
            · refine ih (i + 1) (ku v 6 0 0 (nI (h2 + 1))) (h2 + 1) (by omega) (by omega) hlt3 (ku_s _ _ _ _ _) ?_
              rw [he, kTurn_s, if_neg (fun q => absurd ((kb_1 (kMay_6.mpr q)).symm.trans h5) (by decide)), e3]
          · have hm : kMay v h2 fl := by
              by_cases q : kMay (ku v 6 0 0 (nI (h2 + 1))) h2 fl
              · exact kMay_6.mp q
              · exact absurd (kb_0 q) h5
            refine kg_aload_n cx dX2_turnHand_53 rfl ?_
            refine kg_get (ci := 2) cx 1 1 kfs_X2 rfl (by decide) rfl rfl kf_X2_18 dX2_turnHand_54 ?_
            refine kg_iload_n cx dX2_turnHand_57 rfl ?_
            refine kg_aaldN cx 4 2 h2 rfl rfl (rfl) (hlt) (by omega) (k_if hlt _) dX2_turnHand_58 ?_
            refine kg_getN (ci := 0) cx (44 + h2) 4 kfs_X0 rfl (by decide) (kw_at_o hlt) rfl (kfn_X2_38 cx.2.2.2.2.2.2.2.2) dX2_turnHand_59 ?_
            refine kg_if_ne cx 67 dX2_turnHand_62 (by decide) (fun h6 => ?_) (fun h6 => ?_)
            · refine kg_aload_n cx dX2_turnHand_67 rfl ?_
              refine kg_get (ci := 2) cx 1 1 kfs_X2 rfl (by decide) rfl rfl kf_X2_18 dX2_turnHand_68 ?_
              refine kg_iload_n cx dX2_turnHand_71 rfl ?_
              refine kg_aaldN cx 4 2 h2 rfl rfl (rfl) (hlt) (by omega) (k_if hlt _) dX2_turnHand_72 ?_
              refine kg_iconst (v := 0) cx dX2_turnHand_73 (by decide) ?_
              refine kg_putN (ci := 0) (ty := .boolean) cx (44 + h2) 4 kfs_X0 tyX0 tyX0_ok nmX0 rfl (by decide) (kw_at_o hlt) (Nat.le_of_ble_eq_true rfl) (kfn_X2_38 cx.2.2.2.2.2.2.2.2) rfl (by decide +kernel) rfl rfl (ks_marked hlt _) dX2_turnHand_74 ?_
              refine kg_iinc (v := nI (i + 1)) cx dX2_turnHand_77 rfl (nI_1 i) (by decide) ?_
              refine kg_goto cx 2 dX2_turnHand_80 (by decide) ?_
              refine kg_lo (lo9 := [some (.ref (ad 1 0)), some (.int fl), some (.int (nI (i + 1))), none]) (fun j x9 hx => ?_) ?_
              · match j, hx with
                | 0, hx => exact hx
                | 1, hx => exact hx
                | 2, hx => exact hx
                | 3, hx => cases hx
                | j + 4, hx => cases hx
              · refine ih (i + 1) (ku (ku v 6 0 0 (nI (h2 + 1))) 4 h2 0 0) (h2 + 1) (by omega) (by omega) hlt3 ((ku_F (by decide)).trans (ku_s _ _ _ _ _)) ?_
                rw [he, kTurn_s, if_pos hm, if_neg (fun q => h6 ((ku_F (by decide)).trans q)), e3]
            · refine kg_iload_n cx dX2_turnHand_65 rfl ?_
              have h6 : v 4 h2 0 = 0 := (ku_F (by decide)).symm.trans h6
              exact kg_ireturn cx hr (rfl) _ rfl (⟨by rw [he, kTurn_s, if_pos hm, if_pos h6]; rfl, by rw [he, kTurn_s, if_pos hm, if_pos h6, e3]⟩) dX2_turnHand_66
  exact loop (2 * n) 0 u h rfl (Nat.zero_le _) hh hH rfl
