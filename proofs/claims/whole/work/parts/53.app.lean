section KA
theorem kE_fol {u v : kS} {i t w : Nat} (h : kE u v) : kE (kFol u i t w) v := by
  have n10 : ¬ kSh 10 0 := nsh_c (by decide) (by decide)
  have n11 : ¬ kSh 11 0 := nsh_c (by decide) (by decide)
  have n12 : ¬ kSh 12 0 := nsh_c (by decide) (by decide)
  have n13 : ¬ kSh 13 0 := nsh_c (by decide) (by decide)
  unfold kFol
  split
  · exact kE_l (kE_l (kE_l h n10) n11) n13
  · split
    · exact kE_l (kE_l (kE_l h n10) n10) n13
    · exact kE_l (kE_l (kE_l h n10) n12) n13
/-- the reference has told a record more: V behind v; W what of it is undone now -/
def kAR (v V : kS) (z : Nat) (R : Nat → Int32) (k0 : Int32) (w : Nat) : Prop := (∀ b, V 9 (z + 1) b = R b) ∧ V 14 0 0 = nI (z + 1) ∧ (∀ F a b, ¬ (F = 9 ∧ a = z + 1) → ¬ (F = 14 ∧ a = 0 ∧ b = 0) → F ≠ 22 → V F a b = v F a b) ∧ V 22 (z + 1) 0 = 0 ∧ ∀ i, i ≠ z + 1 → V 22 i 0 = if k0 = 1 ∧ i = w then 1 else v 22 i 0
theorem kApp_row {u : kS} {z i : Nat} {k0 k1 k2 k3 k4 k5 k6 : Int32} (h : i ≠ z + 1) : kApp u (z + 1) k0 k1 k2 k3 k4 k5 k6 9 i = u 9 i := by
  funext b
  exact kApp_9 h
theorem kApp_0 {u : kS} {i : Nat} {k0 k1 k2 k3 k4 k5 k6 : Int32} : kApp u i k0 k1 k2 k3 k4 k5 k6 9 i 0 = k0 := by simp [kApp, ku]
theorem kApp_1 {u : kS} {i : Nat} {k0 k1 k2 k3 k4 k5 k6 : Int32} : kApp u i k0 k1 k2 k3 k4 k5 k6 9 i 1 = k1 := by simp [kApp, ku]
theorem kApp_2 {u : kS} {i : Nat} {k0 k1 k2 k3 k4 k5 k6 : Int32} : kApp u i k0 k1 k2 k3 k4 k5 k6 9 i 2 = k2 := by simp [kApp, ku]
theorem kApp_3 {u : kS} {i : Nat} {k0 k1 k2 k3 k4 k5 k6 : Int32} : kApp u i k0 k1 k2 k3 k4 k5 k6 9 i 3 = k3 := by simp [kApp, ku]
theorem kApp_6 {u : kS} {i : Nat} {k0 k1 k2 k3 k4 k5 k6 : Int32} : kApp u i k0 k1 k2 k3 k4 k5 k6 9 i 6 = k6 := by simp [kApp, ku]
theorem kAp {u v V : kS} {z fl t w : Nat} {k0 k2 k3 k4 k5 k6 : Int32} (hE : kE u v) (hL : kIL u v z fl) (ht : t < 8) (hV : kAR v V z (fun b => kApp u (z + 1) k0 (nI t) k2 k3 k4 k5 k6 9 (z + 1) b) k0 w) (hw : k0 = 1 → k6 = nI w ∧ w ≤ 400)
    (hr : lg_r (kApp u (z + 1) k0 (nI t) k2 k3 k4 k5 k6 9) (z + 1)) (htot : lg_tot (kApp u (z + 1) k0 (nI t) k2 k3 k4 k5 k6 9) (z + 1) ≤ 399) :
    kE (kFol (kApp u (z + 1) k0 (nI t) k2 k3 k4 k5 k6) (z + 1) t w) V ∧ kIL (kFol (kApp u (z + 1) k0 (nI t) k2 k3 k4 k5 k6) (z + 1) t w) V (z + 1) fl := by
  obtain ⟨v9, v14, vo, vz, v22⟩ := hV
  obtain ⟨l14, l15, l0, lV, lC, lD, lT⟩ := hL
  have hsame : ∀ i, 1 ≤ i → i ≤ z → kApp u (z + 1) k0 (nI t) k2 k3 k4 k5 k6 9 i = u 9 i := fun i a b => kApp_row (by omega)
  have hVn : lg_V (kApp u (z + 1) k0 (nI t) k2 k3 k4 k5 k6 9) (z + 1) := fun i a b => by
    by_cases e : i = z + 1
    · subst e; exact hr
    · exact lg_V_eq hsame lV i a (by omega)
  have hE1 : kE (kApp u (z + 1) k0 (nI t) k2 k3 k4 k5 k6) V := by
    intro F a b hs
    by_cases c9 : F = 9 ∧ a = z + 1
    · obtain ⟨rfl, rfl⟩ := c9
      exact v9 b
    · by_cases c14 : F = 14 ∧ a = 0 ∧ b = 0
      · obtain ⟨rfl, rfl, rfl⟩ := c14
        rw [v14, kApp_14]
      · have c22 : F ≠ 22 := by have := hs.1; omega
        rw [vo F a b c9 c14 c22, hE F a b hs]
        by_cases e9 : F = 9
        · subst e9
          rw [kApp_9 (fun q => c9 ⟨rfl, q⟩)]
        · by_cases e14 : F = 14
          · subst e14
            have : ¬ (a = 0 ∧ b = 0) := fun q => c14 ⟨rfl, q⟩
            simp [kApp, ku, this]
          · rw [kApp_F e9 e14]
  have e9 := kE_9 hE1
  have hkt : lg_t (kApp u (z + 1) k0 (nI t) k2 k3 k4 k5 k6 9) (z + 1) = t := by
    unfold lg_t
    rw [kApp_1]
    exact kNat_n (by omega)
  have hk1 : lg_k (kApp u (z + 1) k0 (nI t) k2 k3 k4 k5 k6 9) (z + 1) = 1 → k0 = 1 := fun h => by
    have := hr.1
    rw [h, kApp_0] at this
    exact this
  have hk1' : k0 = 1 → lg_k (kApp u (z + 1) k0 (nI t) k2 k3 k4 k5 k6 9) (z + 1) = 1 := fun h => by
    unfold lg_k
    rw [kApp_0, h]
    rfl
  have hww : k0 = 1 → lg_w (kApp u (z + 1) k0 (nI t) k2 k3 k4 k5 k6 9) (z + 1) = w := fun h => by
    obtain ⟨g1, g2⟩ := hw h
    unfold lg_w
    rw [kApp_6, g1]
    exact kNat_n (by omega)
  refine ⟨kE_fol hE1, ?_⟩
  refine ⟨?_, ?_, by omega, ?_, ?_, ?_, ?_⟩
  · rw [kFol_F (by decide), kApp_14]
  · rw [kFol_F (by decide), kApp_F (by decide) (by decide)]; exact l15
  · rw [kFol_9]; exact hVn
  · have hC9 : lg_C (kApp u (z + 1) k0 (nI t) k2 k3 k4 k5 k6) z := lg_C_eq hsame (by funext a b; exact kApp_F (by decide) (by decide)) (by funext a b; exact kApp_F (by decide) (by decide)) (by funext a b; exact kApp_F (by decide) (by decide)) (by funext a b; exact kApp_F (by decide) (by decide)) lC
    have := lg_C_fol (w := w) hC9 hVn (fun h => (hww (hk1 h)).symm)
    rw [hkt] at this
    exact this
  · refine lg_D_rec lD (fun i a b => ?_) (by rw [e9]; exact hVn) (fun i a b => ?_) vz
    · rw [e9, hsame i a b, kE_9 hE]
    · rw [v22 i (by omega), e9]
      by_cases c : k0 = 1
      · have c1 := hk1' c
        rw [hww c, c1]
        simp [c]
      · have : ¬ lg_k (kApp u (z + 1) k0 (nI t) k2 k3 k4 k5 k6 9) (z + 1) = 1 := fun h => c (hk1 h)
        simp [c, this]
  · rw [kFol_9]
    intro k hk
    by_cases e : k = z + 1
    · subst e; exact htot
    · rw [lg_tot_eq (fun i a b => hsame i a (by omega))]
      exact lT k (by omega)
theorem kct_s (f : Nat → Int32) : ∀ k, kct f k = lg_s (fun t => if f t = 0 then 0 else 1) k
  | 0 => rfl
  | k + 1 => by
    unfold kct lg_s
    rw [kct_s f k]
    split <;> simp
theorem lg_u_act {r : kRw} {z : Nat} {f : Nat → Int32} (h : ∀ t, t < 8 → lg_ov r t z < lg_lu r t z → f t ≠ 0) : lg_s (lg_u r z) 8 ≤ kct f 8 := by
  rw [kct_s]
  refine lg_s_le 8 (fun t ht => ?_)
  unfold lg_u
  split
  · rename_i h9
    rw [if_neg (h t ht h9)]
    omega
  · omega
theorem lg_u_act1 {r : kRw} {z t0 : Nat} {f : Nat → Int32} (h : ∀ t, t < 8 → lg_ov r t z < lg_lu r t z → f t ≠ 0) (ht : t0 < 8) (h0 : f t0 ≠ 0) (h1 : ¬ lg_ov r t0 z < lg_lu r t0 z) : lg_s (lg_u r z) 8 + 1 ≤ kct f 8 := by
  have e := lg_s_at (f := lg_u r z) (g := fun t => if t = t0 then 1 else lg_u r z t) (t0 := t0) 8 ht (fun t _ b => by rw [if_neg b])
  have e1 : lg_u r z t0 = 0 := if_neg h1
  rw [if_pos rfl, e1] at e
  rw [kct_s]
  have := lg_s_le (f := fun t => if t = t0 then 1 else lg_u r z t) (g := fun t => if f t = 0 then 0 else 1) 8 (fun t ht => by
    by_cases q : t = t0
    · subst q
      rw [if_pos rfl, if_neg h0]
      exact Nat.le_refl _
    · rw [if_neg q]
      unfold lg_u
      split
      · rename_i h9
        rw [if_neg (h t ht h9)]
        exact Nat.le_refl _
      · omega)
  omega
/-- an UPDATE is as a record must be -/
theorem lg_r_upd {u : kS} {z t q k : Nat} {k4 k5 k6 : Int32} (ht : t < 8) (hq : q < 32) (hk : k < 8) : lg_r (kApp u (z + 1) 0 (nI t) (nI q) (nI k) k4 k5 k6 9) (z + 1) := by
  unfold lg_r lg_k lg_t lg_w
  rw [kApp_0, kApp_1, kApp_2, kApp_3, kApp_6, kNat_n (show t < 2 ^ 31 by omega)]
  exact ⟨by decide, by decide, rfl, ht, fun _ => ⟨q, k, hq, rfl, hk, rfl⟩, fun h => absurd h (by decide)⟩
theorem lg_r_fin {u : kS} {z t j : Nat} {k2 k3 k4 k5 k6 : Int32} (ht : t < 8) (hj : j = 2 ∨ j = 3) : lg_r (kApp u (z + 1) (nI j) (nI t) k2 k3 k4 k5 k6 9) (z + 1) := by
  unfold lg_r lg_k lg_t lg_w
  rw [kApp_0, kApp_1, kApp_2, kApp_3, kApp_6, kNat_n (show t < 2 ^ 31 by omega), kNat_n (show j < 2 ^ 31 by omega)]
  exact ⟨rfl, by omega, rfl, ht, fun h => by omega, fun h => by omega⟩
theorem lg_r_undo {u : kS} {z t i q k : Nat} {k4 k5 : Int32} (hi : 1 ≤ i) (hiz : i ≤ z) (hz : z ≤ 400) (ht : t < 8) (hq : q < 32) (hk : k < 8) (ho : lg_o (u 9) t z i = true) : lg_r (kApp u (z + 1) 1 (nI t) (nI q) (nI k) k4 k5 (nI i) 9) (z + 1) := by
  unfold lg_r
  have e0 : lg_k (kApp u (z + 1) 1 (nI t) (nI q) (nI k) k4 k5 (nI i) 9) (z + 1) = 1 := by unfold lg_k; rw [kApp_0]; rfl
  have e1 : lg_t (kApp u (z + 1) 1 (nI t) (nI q) (nI k) k4 k5 (nI i) 9) (z + 1) = t := by unfold lg_t; rw [kApp_1]; exact kNat_n (by omega)
  have e6 : lg_w (kApp u (z + 1) 1 (nI t) (nI q) (nI k) k4 k5 (nI i) 9) (z + 1) = i := by unfold lg_w; rw [kApp_6]; exact kNat_n (by omega)
  rw [e0, e1, e6, kApp_0, kApp_1, kApp_2, kApp_3, kApp_6]
  refine ⟨rfl, by decide, rfl, ht, fun _ => ⟨q, k, hq, rfl, hk, rfl⟩, fun _ => ⟨rfl, hi, by omega, ?_⟩⟩
  rw [show z + 1 - 1 = z by omega, lg_o_eq (fun j a b => kApp_row (by omega)) hi hiz]
  exact ho
theorem lg_V_app {u : kS} {z : Nat} {k0 k1 k2 k3 k4 k5 k6 : Int32} (hV : lg_V (u 9) z) (hr : lg_r (kApp u (z + 1) k0 k1 k2 k3 k4 k5 k6 9) (z + 1)) : lg_V (kApp u (z + 1) k0 k1 k2 k3 k4 k5 k6 9) (z + 1) := fun i a b => by
  by_cases e : i = z + 1
  · subst e; exact hr
  · exact lg_V_eq (fun j c d => kApp_row (by omega)) hV i a (by omega)
theorem lg_n_app {u : kS} {z t : Nat} {k0 k1 k2 k3 k4 k5 k6 : Int32} : lg_n (kApp u (z + 1) k0 k1 k2 k3 k4 k5 k6 9) t z = lg_n (u 9) t z := lg_n_eq (fun j c d => kApp_row (by omega))
theorem lg_tot_app {u : kS} {z : Nat} {k0 k1 k2 k3 k4 k5 k6 : Int32} : lg_tot (kApp u (z + 1) k0 k1 k2 k3 k4 k5 k6 9) z = lg_tot (u 9) z := lg_tot_eq (fun j c d => kApp_row (by omega))
theorem lg_ov_app {u : kS} {z t : Nat} {k0 k1 k2 k3 k4 k5 k6 : Int32} : lg_ov (kApp u (z + 1) k0 k1 k2 k3 k4 k5 k6 9) t z = lg_ov (u 9) t z := lg_ov_eq (fun j c d => kApp_row (by omega))
theorem lg_lu_app {u : kS} {z t : Nat} {k0 k1 k2 k3 k4 k5 k6 : Int32} : lg_lu (kApp u (z + 1) k0 k1 k2 k3 k4 k5 k6 9) t z = lg_lu (u 9) t z := lg_lu_eq (fun j c d => kApp_row (by omega))
end KA
