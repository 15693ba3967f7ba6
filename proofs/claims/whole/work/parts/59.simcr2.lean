section KCE
/-- the ENDs, alike -/
theorem kEnds_E {uA W : kS} {fl : Nat} {u v : kS} {y : Nat} (h : kCI uA W fl u v y) (ha : ∀ t, t < 8 → (v 16 t 0 ≠ 0 ↔ lg_ov (u 9) t y < lg_lu (u 9) t y)) :
    ∀ t, t ≤ 8 → (kEnR v y t).2 = (kEnds u y t).2 ∧ kCI uA W fl (kEnds u y t).1 (kEnR v y t).1 (kEnds u y t).2 ∧ (∀ j, j < t → (kEnR v y t).1 16 j 0 = 0 ∧ (kEnR v y t).1 17 j 0 = 0 ∧ ¬ lg_ov ((kEnds u y t).1 9) j (kEnds u y t).2 < lg_lu ((kEnds u y t).1 9) j (kEnds u y t).2) ∧ (∀ j, t ≤ j → j < 8 → ((kEnR v y t).1 16 j 0 ≠ 0 ↔ lg_ov ((kEnds u y t).1 9) j (kEnds u y t).2 < lg_lu ((kEnds u y t).1 9) j (kEnds u y t).2)) ∧ (kEnR v y t).1 19 0 0 = v 19 0 0 ∧ (kEnds u y t).1 19 0 0 = u 19 0 0
  | 0, _ => ⟨rfl, h, fun j hj => by omega, fun j _ hj => ha j hj, rfl, rfl⟩
  | t + 1, ht => by
    obtain ⟨i1, i2, i3, i4, i5, i6⟩ := kEnds_E h ha t (by omega)
    rw [kEnds_s, kEnR_s]
    generalize kEnds u y t = P1 at i1 i2 i3 i4 i6 ⊢
    generalize kEnR v y t = P2 at i1 i2 i3 i4 i5 ⊢
    obtain ⟨U, z2⟩ := P1
    obtain ⟨V, z⟩ := P2
    dsimp only at i1 i2 i3 i4 i5 i6 ⊢
    subst i1
    have hL := i2.2.1
    have hz := kIL_z hL
    have hC := hL.2.2.2.2.1.1 t (by omega)
    have hov := lg_ov_le (U 9) t z
    have hlu := lg_lu_le (U 9) t z
    have hiff : U 12 t 0 < U 11 t 0 ↔ lg_ov (U 9) t z < lg_lu (U 9) t z := by
      rw [hC.1, hC.2.1]
      exact nI_ltI (by omega) (by omega)
    have hX16 : kXx 16 t 0 := Or.inl ⟨Or.inl rfl, by omega, rfl⟩
    have hX17 : kXx 17 t 0 := Or.inl ⟨Or.inr rfl, by omega, rfl⟩
    by_cases c : lg_ov (U 9) t z < lg_lu (U 9) t z
    · have cR := (i4 t (Nat.le_refl _) (by omega)).mpr c
      rw [if_pos (hiff.mpr c), if_neg cR]
      dsimp only
      have hne : nI 3 ≠ 1 := by decide
      have hR0 := kAR_rec (kEX_mx i2.1) (z := z) (t := t) hne
      have hR : kAR V (kRec V z (nI 3) (nI t)) z (fun b => kApp U (z + 1) (nI 3) (nI t) (-1) (-1) (-1) (-1) (-1) 9 (z + 1) b) (nI 3) 0 := by
        have n9 : ∀ a b, kMx U V 9 a b = V 9 a b := fun a b => kMx_o (fun q => by rcases q with q | q <;> omega)
        refine ⟨fun b => ?_, by simp [kRec, kApp, ku], fun F a b c1 c2 c3 => ?_, by simp [kRec, kApp, ku], fun j hj => ?_⟩
        · rw [← hR0.1 b]
          unfold kRec kApp ku
          simp only [n9]
        · unfold kRec kApp ku
          rw [if_neg (fun q => c3 q.1), if_neg (fun q => c1 ⟨q.1, q.2.1⟩), if_neg (fun q => c1 ⟨q.1, q.2.1⟩), if_neg (fun q => c1 ⟨q.1, q.2.1⟩), if_neg (fun q => c1 ⟨q.1, q.2.1⟩), if_neg (fun q => c1 ⟨q.1, q.2.1⟩), if_neg (fun q => c1 ⟨q.1, q.2.1⟩), if_neg (fun q => c1 ⟨q.1, q.2.1⟩), if_neg c2]
        · rw [if_neg (fun q => hne q.1)]
          simp [kRec, kApp, ku, hj]
      have hr := lg_r_fin (u := U) (z := z) (t := t) (k2 := -1) (k3 := -1) (k4 := -1) (k5 := -1) (k6 := -1) (by omega) (j := 3) (Or.inr rfl)
      have hVn := lg_V_app hL.2.2.2.1 hr
      have ek : lg_k (kApp U (z + 1) (nI 3) (nI t) (-1) (-1) (-1) (-1) (-1) 9) (z + 1) = 3 := by unfold lg_k; rw [kApp_0]; rfl
      have et : lg_t (kApp U (z + 1) (nI 3) (nI t) (-1) (-1) (-1) (-1) (-1) 9) (z + 1) = t := by unfold lg_t; rw [kApp_1]; exact kNat_n (by omega)
      have etot := lg_tot_fin hVn (by rw [ek]; omega)
      have eu : lg_u (kApp U (z + 1) (nI 3) (nI t) (-1) (-1) (-1) (-1) (-1) 9) z t = 1 := by
        unfold lg_u
        rw [lg_ov_app, lg_lu_app, if_pos c]
      rw [et, eu, lg_tot_app] at etot
      have hT := hL.2.2.2.2.2.2 z (Nat.le_refl _)
      have hA := kCI_app i2 (show t < 8 by omega) hR (fun q => absurd q hne) hr (by omega)
      have e9 : kFol (kApp U (z + 1) (nI 3) (nI t) (-1) (-1) (-1) (-1) (-1)) (z + 1) t 0 9 = kApp U (z + 1) (nI 3) (nI t) (-1) (-1) (-1) (-1) (-1) 9 := kFol_9
      have hother : ∀ j, j ≠ t → lg_ov (kApp U (z + 1) (nI 3) (nI t) (-1) (-1) (-1) (-1) (-1) 9) j (z + 1) = lg_ov (U 9) j z ∧ lg_lu (kApp U (z + 1) (nI 3) (nI t) (-1) (-1) (-1) (-1) (-1) 9) j (z + 1) = lg_lu (U 9) j z := fun j hj => by
        rw [lg_ov_s, lg_lu_s, et, if_neg (fun q => hj q.1.symm), if_neg (fun q => hj q.1.symm), lg_ov_app, lg_lu_app]
        exact ⟨rfl, rfl⟩
      have v16 : ∀ F j, F = 16 ∨ F = 17 ∨ F = 19 → kRec V z (nI 3) (nI t) F j 0 = V F j 0 := fun F j hF => hR.2.2.1 F j 0 (by omega) (by omega) (by omega)
      refine ⟨rfl, kCI_r (kCI_r hA hX16) hX17, fun j hj => ?_, fun j h1 h2 => ?_, ?_, ?_⟩
      · by_cases e : j = t
        · subst e
          refine ⟨by rw [ku_F (by decide), ku_s], by rw [ku_s], ?_⟩
          rw [e9, lg_ov_s, et, ek, if_pos ⟨rfl, by decide⟩]
          have := lg_lu_le (kApp U (z + 1) (nI 3) (nI j) (-1) (-1) (-1) (-1) (-1) 9) j (z + 1)
          omega
        · have h9 := i3 j (by omega)
          refine ⟨by rw [ku_F (by decide), ku_i e, v16 16 j (by decide)]; exact h9.1, by rw [ku_i e, ku_F (by decide), v16 17 j (by decide)]; exact h9.2.1, ?_⟩
          rw [e9, (hother j e).1, (hother j e).2]
          exact h9.2.2
      · have e : j ≠ t := by omega
        rw [ku_F (by decide), ku_i e, v16 16 j (by decide), e9, (hother j e).1, (hother j e).2]
        exact i4 j (by omega) h2
      · rw [ku_F (by decide), ku_F (by decide), v16 19 0 (by decide)]; exact i5
      · rw [kFol_F ⟨by decide, by decide, by decide, by decide⟩, kApp_F (by decide) (by decide)]; exact i6
    · have cR : V 16 t 0 = 0 := by
        by_cases q : V 16 t 0 = 0
        · exact q
        · exact absurd ((i4 t (Nat.le_refl _) (by omega)).mp q) c
      rw [if_neg (fun q => c (hiff.mp q)), if_pos cR]
      dsimp only
      refine ⟨rfl, kCI_r (kCI_r i2 hX16) hX17, fun j hj => ?_, fun j h1 h2 => ?_, ?_, i6⟩
      · by_cases e : j = t
        · subst e
          exact ⟨by rw [ku_F (by decide), ku_s], by rw [ku_s], c⟩
        · have h9 := i3 j (by omega)
          exact ⟨by rw [ku_F (by decide), ku_i e]; exact h9.1, by rw [ku_i e, ku_F (by decide)]; exact h9.2.1, h9.2.2⟩
      · have e : j ≠ t := by omega
        rw [ku_F (by decide), ku_i e]
        exact i4 j (by omega) h2
      · rw [ku_F (by decide), ku_F (by decide)]; exact i5
/-- .. and there is room for each -/
theorem kEnds_ok {uA W : kS} {fl : Nat} {u v : kS} {y : Nat} (h : kCI uA W fl u v y) (ha : ∀ t, t < 8 → (v 16 t 0 ≠ 0 ↔ lg_ov (u 9) t y < lg_lu (u 9) t y)) (t : Nat) (ht : t < 8) : (kEnds u y t).2 < 400 := by
  have := kIL_z (kEnds_E h ha t (by omega)).2.1.2.1
  omega
/-- the class' fold of its log, from the first record -/
theorem kFols_C {u : kS} {fl : Nat} {T Wd : Nat → Nat} (hV : lg_V (u 9) fl) (hT : ∀ i, 1 ≤ i → i ≤ fl → T i = lg_t (u 9) i) (hW : ∀ i, 1 ≤ i → i ≤ fl → lg_k (u 9) i = 1 → Wd i = lg_w (u 9) i) : ∀ k, k ≤ fl → lg_C (kFols (kCut u fl) T Wd k) k ∧ kFols (kCut u fl) T Wd k 9 = u 9
  | 0, _ => by
    have e9 : kFols (kCut u fl) T Wd 0 9 = u 9 := by
      funext a b
      exact kCut_F (by decide)
    refine ⟨⟨fun t ht => ?_, fun i a b => by omega⟩, e9⟩
    show kCut u fl 11 t 0 = _ ∧ kCut u fl 12 t 0 = _ ∧ kCut u fl 13 t 0 = _
    refine ⟨?_, ?_, ?_⟩ <;> (simp [kCut, kfl, ht]; rfl)
  | k + 1, hk => by
    obtain ⟨h1, h2⟩ := kFols_C hV hT hW k (by omega)
    refine ⟨?_, by show kFol _ _ _ _ 9 = _; rw [kFol_9]; exact h2⟩
    show lg_C (kFol _ _ _ _) _
    have := lg_C_fol (w := Wd (k + 1)) h1 (by rw [h2]; exact hV.le hk) (fun c => by rw [h2] at c ⊢; exact hW (k + 1) (by omega) hk c)
    rw [h2] at this
    rw [hT (k + 1) (by omega) hk]
    exact this
theorem lg_ud_mono {r : kRw} {i y : Nat} : ∀ {z : Nat}, y ≤ z → lg_ud r i y = true → lg_ud r i z = true
  | 0, h, e => by rw [show y = 0 by omega] at e; exact e
  | z + 1, h, e => by
    by_cases q : y = z + 1
    · rw [← q]; exact e
    · rw [lg_ud_s, lg_ud_mono (z := z) (by omega) e, Bool.or_true]
/-- the reference's records that are lost -/
theorem kLose_22 {w : kS} {fl z i : Nat} (hV : lg_V (w 9) z) : ∀ k, fl + k ≤ z → i ≤ fl → kLose w fl k 22 i 0 = if lg_ud (w 9) i (fl + k) = true ∧ lg_ud (w 9) i fl = false then 0 else w 22 i 0
  | 0, h1, h2 => by
    rw [if_neg]
    · rfl
    · rintro ⟨a, b⟩
      rw [Nat.add_zero] at a
      rw [a] at b
      cases b
  | k + 1, h1, h2 => by
    have ih := kLose_22 hV k (by omega) h2
    have hr := hV (fl + k + 1) (by omega) (by omega)
    have hud : lg_ud (w 9) i (fl + (k + 1)) = ((lg_k (w 9) (fl + k + 1) == 1 && lg_w (w 9) (fl + k + 1) == i) || lg_ud (w 9) i (fl + k)) := lg_ud_s
    unfold kLose
    have hk1 : w 9 (fl + k + 1) 0 = 1 ↔ lg_k (w 9) (fl + k + 1) = 1 := lg_k_eq (k := 1) hr (by decide)
    by_cases c : lg_k (w 9) (fl + k + 1) = 1
    · rw [if_pos (hk1.mpr c)]
      have e1 : (lg_k (w 9) (fl + k + 1) == 1) = true := beq_iff_eq.mpr c
      rw [e1, Bool.true_and] at hud
      by_cases c2 : lg_w (w 9) (fl + k + 1) = i
      · have e2 : (lg_w (w 9) (fl + k + 1) == i) = true := beq_iff_eq.mpr c2
        rw [e2, Bool.true_or] at hud
        have h9 := (hr.2.2.2.2.2 c).2.2.2
        rw [c2, lg_o_iff, show fl + k + 1 - 1 = fl + k by omega] at h9
        have h8 : lg_ud (w 9) i fl = false := by
          by_cases q : lg_ud (w 9) i fl = true
          · have := lg_ud_mono (z := fl + k) (by omega) q
            rw [h9.2.2.2] at this
            cases this
          · simpa using q
        rw [if_pos ⟨hud, h8⟩]
        have : kNat (w 9 (fl + k + 1) 6) = i := c2
        rw [this, ku_s]
      · have e2 : (lg_w (w 9) (fl + k + 1) == i) = false := beq_eq_false_iff_ne.mpr c2
        rw [e2, Bool.false_or] at hud
        rw [hud, ku_i (Ne.symm c2)]
        exact ih
    · rw [if_neg (fun q => c (hk1.mp q))]
      have e1 : (lg_k (w 9) (fl + k + 1) == 1) = false := beq_eq_false_iff_ne.mpr c
      rw [e1, Bool.false_and, Bool.false_or] at hud
      rw [hud]
      exact ih
theorem kLose_D {w : kS} {fl z : Nat} (hV : lg_V (w 9) z) (hD : lg_D w z) (hfl : fl ≤ z) : ∀ i, 1 ≤ i → i ≤ fl → kLose w fl (z - fl) 22 i 0 = if lg_ud (w 9) i fl = true then 1 else 0 := by
  intro i h1 h2
  rw [kLose_22 hV (z - fl) (by omega) h2, show fl + (z - fl) = z by omega, hD i h1 (by omega)]
  by_cases c : lg_ud (w 9) i fl = true
  · rw [c, lg_ud_mono hfl c]
    simp
  · have c' : lg_ud (w 9) i fl = false := by simpa using c
    rw [c']
    by_cases c2 : lg_ud (w 9) i z = true
    · rw [c2]; simp
    · have c2' : lg_ud (w 9) i z = false := by simpa using c2
      rw [c2']; simp
theorem kClr_at {u : kS} {F a b : Nat} : ∀ k, kClr u k F a b = if a < k then (if F = 1 ∧ b = 0 then -1 else if (F = 2 ∨ F = 3 ∨ F = 4) ∧ b = 0 then 0 else if F = 5 ∧ b < 9 then 0 else u F a b) else u F a b
  | 0 => by simp [kClr]
  | k + 1 => by
    show kEmp (kClr u k) k F a b = _
    unfold kEmp
    by_cases e : a = k
    · subst e
      have ih : kClr u a F a b = u F a b := by rw [kClr_at a, if_neg (Nat.lt_irrefl _)]
      have hlt : a < a + 1 := by omega
      rw [if_pos hlt]
      unfold ku kfr
      by_cases f4 : F = 4 ∧ b = 0
      · obtain ⟨rfl, rfl⟩ := f4; simp
      · by_cases f3 : F = 3 ∧ b = 0
        · obtain ⟨rfl, rfl⟩ := f3; simp
        · by_cases f2 : F = 2 ∧ b = 0
          · obtain ⟨rfl, rfl⟩ := f2; simp
          · by_cases f1 : F = 1 ∧ b = 0
            · obtain ⟨rfl, rfl⟩ := f1; simp
            · by_cases f5 : F = 5 ∧ b < 9
              · obtain ⟨rfl, f6⟩ := f5; simp [f6]
              · have g : ¬ ((F = 2 ∨ F = 3 ∨ F = 4) ∧ b = 0) := fun q => by
                  rcases q.1 with h | h | h
                  · exact f2 ⟨h, q.2⟩
                  · exact f3 ⟨h, q.2⟩
                  · exact f4 ⟨h, q.2⟩
                rw [if_neg (fun q => f4 ⟨q.1, q.2.2⟩), if_neg (fun q => f3 ⟨q.1, q.2.2⟩), if_neg (fun q => f2 ⟨q.1, q.2.2⟩), if_neg (fun q => f1 ⟨q.1, q.2.2⟩), if_neg (fun q => f5 ⟨q.1, q.2.2⟩), if_neg f1, if_neg g, if_neg f5]
                exact ih
    · have ih := kClr_at (u := u) (F := F) (a := a) (b := b) k
      rw [ku_i e, ku_i e, ku_i e, ku_i e]
      unfold kfr
      rw [if_neg (fun q => e q.2.1), ih]
      by_cases h : a < k
      · rw [if_pos h, if_pos (show a < k + 1 by omega)]
      · rw [if_neg h, if_neg (show ¬ a < k + 1 by omega)]
theorem kClR_at {u : kS} {F a b : Nat} : ∀ k, kClR u k F a b = if a < k then (if F = 1 ∧ b = 0 then -1 else if (F = 2 ∨ F = 3 ∨ F = 4) ∧ b = 0 then 0 else if F = 5 ∧ b = 8 then 0 else u F a b) else u F a b
  | 0 => by simp [kClR]
  | k + 1 => by
    show kEmR (kClR u k) k F a b = _
    unfold kEmR
    by_cases e : a = k
    · subst e
      have ih : kClR u a F a b = u F a b := by rw [kClR_at a, if_neg (Nat.lt_irrefl _)]
      have hlt : a < a + 1 := by omega
      rw [if_pos hlt]
      unfold ku
      by_cases f4 : F = 4 ∧ b = 0
      · obtain ⟨rfl, rfl⟩ := f4; simp
      · by_cases f3 : F = 3 ∧ b = 0
        · obtain ⟨rfl, rfl⟩ := f3; simp
        · by_cases f2 : F = 2 ∧ b = 0
          · obtain ⟨rfl, rfl⟩ := f2; simp
          · by_cases f1 : F = 1 ∧ b = 0
            · obtain ⟨rfl, rfl⟩ := f1; simp
            · by_cases f5 : F = 5 ∧ b = 8
              · obtain ⟨rfl, rfl⟩ := f5; simp
              · have g : ¬ ((F = 2 ∨ F = 3 ∨ F = 4) ∧ b = 0) := fun q => by
                  rcases q.1 with h | h | h
                  · exact f2 ⟨h, q.2⟩
                  · exact f3 ⟨h, q.2⟩
                  · exact f4 ⟨h, q.2⟩
                rw [if_neg (fun q => f5 ⟨q.1, q.2.2⟩), if_neg (fun q => f4 ⟨q.1, q.2.2⟩), if_neg (fun q => f3 ⟨q.1, q.2.2⟩), if_neg (fun q => f2 ⟨q.1, q.2.2⟩), if_neg (fun q => f1 ⟨q.1, q.2.2⟩), if_neg f1, if_neg g, if_neg f5]
                exact ih
    · have ih := kClR_at (u := u) (F := F) (a := a) (b := b) k
      rw [ku_i e, ku_i e, ku_i e, ku_i e, ku_i e, ih]
      by_cases h : a < k
      · rw [if_pos h, if_pos (show a < k + 1 by omega)]
      · rw [if_neg h, if_neg (show ¬ a < k + 1 by omega)]
/-- the redoing, alike -/
theorem kRedo_E {u v : kS} {fl : Nat} {Pg Nb : Nat → Nat} (h9 : v 9 = u 9) (h0 : ∀ a b, v 0 a b = u 0 a b) (hV : lg_V (u 9) fl) : ∀ k, k ≤ fl → ∀ a b, kRedoR v Pg Nb k 0 a b = kRedo u Pg Nb k 0 a b
  | 0, _ => h0
  | k + 1, hk => by
    have ih := kRedo_E (Pg := Pg) (Nb := Nb) h9 h0 hV k (by omega)
    have hr := hV (k + 1) (by omega) hk
    have e1 : kRedoR v Pg Nb k 9 = u 9 := by funext a b; rw [kRedoR_F (by decide), h9]
    have e2 : kRedo u Pg Nb k 9 = u 9 := by funext a b; rw [kRedo_F (by decide)]
    have hiff : u 9 (k + 1) 0 < nI 2 ↔ (u 9 (k + 1) 0 = 0 ∨ u 9 (k + 1) 0 = 1) := by
      rw [show ((0 : Int32) = nI 0) from rfl, show ((1 : Int32) = nI 1) from rfl, lg_k_eq hr (by decide), lg_k_eq hr (by decide), hr.1, nI_2k hr.2.1]
      omega
    intro a b
    unfold kRedoR kRedo
    rw [e1, e2, ih]
    by_cases c : (u 9 (k + 1) 0 = 0 ∨ u 9 (k + 1) 0 = 1) ∧ kRedo u Pg Nb k 0 (Pg (k + 1)) 8 < nI (k + 1)
    · rw [if_pos ⟨hiff.mpr c.1, c.2⟩, if_pos c]
      unfold kPut ku
      rw [e1, e2, ih]
    · rw [if_neg (fun q => c ⟨hiff.mp q.1, q.2⟩), if_neg c]
      exact ih a b
end KCE
