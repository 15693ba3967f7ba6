section LG
/-- the log's records as numbers: kind, transaction, page, number, what an UNDO undoes -/
abbrev kRw : Type := Nat → Nat → Int32
abbrev lg_k (r : kRw) (i : Nat) : Nat := kNat (r i 0)
abbrev lg_t (r : kRw) (i : Nat) : Nat := kNat (r i 1)
abbrev lg_w (r : kRw) (i : Nat) : Nat := kNat (r i 6)
/-- the last COMMIT or END of t among the first z records -/
def lg_ov (r : kRw) (t : Nat) : Nat → Nat
  | 0 => 0
  | z + 1 => if lg_t r (z + 1) = t ∧ 2 ≤ lg_k r (z + 1) then z + 1 else lg_ov r t z
/-- its last UPDATE -/
def lg_lu (r : kRw) (t : Nat) : Nat → Nat
  | 0 => 0
  | z + 1 => if lg_t r (z + 1) = t ∧ lg_k r (z + 1) = 0 then z + 1 else lg_lu r t z
/-- whether an UNDO of i is among the first z -/
def lg_ud (r : kRw) (i : Nat) : Nat → Bool
  | 0 => false
  | z + 1 => (lg_k r (z + 1) == 1 && lg_w r (z + 1) == i) || lg_ud r i z
/-- i is an UPDATE of t that would be undone -/
def lg_o (r : kRw) (t z i : Nat) : Bool := lg_t r i == t && lg_k r i == 0 && decide (lg_ov r t z < i) && !lg_ud r i z
def lg_c (P : Nat → Bool) : Nat → Nat
  | 0 => 0
  | z + 1 => lg_c P z + (if P (z + 1) = true then 1 else 0)
/-- how many of them -/
def lg_n (r : kRw) (t z : Nat) : Nat := lg_c (lg_o r t z) z
theorem lg_o_iff {r : kRw} {t z i : Nat} : lg_o r t z i = true ↔ lg_t r i = t ∧ lg_k r i = 0 ∧ lg_ov r t z < i ∧ lg_ud r i z = false := by
  unfold lg_o
  simp only [Bool.and_eq_true, beq_iff_eq, decide_eq_true_eq, Bool.not_eq_true', and_assoc]
/-- a record as it must be -/
def lg_r (r : kRw) (i : Nat) : Prop := r i 0 = nI (lg_k r i) ∧ lg_k r i < 4 ∧ r i 1 = nI (lg_t r i) ∧ lg_t r i < 8 ∧
  (lg_k r i < 2 → ∃ q k, q < 32 ∧ r i 2 = nI q ∧ k < 8 ∧ r i 3 = nI k) ∧
  (lg_k r i = 1 → r i 6 = nI (lg_w r i) ∧ 1 ≤ lg_w r i ∧ lg_w r i < i ∧ lg_o r (lg_t r i) (i - 1) (lg_w r i) = true)
def lg_V (r : kRw) (z : Nat) : Prop := ∀ i, 1 ≤ i → i ≤ z → lg_r r i
theorem lg_V.le {r : kRw} {z y : Nat} (h : lg_V r z) (hy : y ≤ z) : lg_V r y := fun i a b => h i a (by omega)
theorem lg_c_congr {P Q : Nat → Bool} : ∀ z, (∀ i, 1 ≤ i → i ≤ z → P i = Q i) → lg_c P z = lg_c Q z
  | 0, _ => rfl
  | z + 1, h => by
    unfold lg_c
    rw [lg_c_congr z (fun i a b => h i a (by omega)), h (z + 1) (by omega) (by omega)]
theorem lg_c_0 {P : Nat → Bool} : ∀ z, (∀ i, 1 ≤ i → i ≤ z → P i = false) → lg_c P z = 0
  | 0, _ => rfl
  | z + 1, h => by
    unfold lg_c
    rw [lg_c_0 z (fun i a b => h i a (by omega)), h (z + 1) (by omega) (by omega)]
    rfl
theorem lg_c_flip {P Q : Nat → Bool} {w : Nat} (hP : P w = true) (hQ : Q w = false) : ∀ z, w ≤ z → 1 ≤ w → (∀ i, 1 ≤ i → i ≤ z → i ≠ w → P i = Q i) → lg_c P z = lg_c Q z + 1
  | 0, h1, h2, _ => by omega
  | z + 1, h1, h2, h => by
    unfold lg_c
    by_cases e : w = z + 1
    · subst e
      rw [lg_c_congr (P := P) (Q := Q) z (fun i a b => h i a (by omega) (by omega)), hP, hQ]
      simp
    · rw [lg_c_flip hP hQ z (by omega) h2 (fun i a b c => h i a (by omega) c), h (z + 1) (by omega) (by omega) (Ne.symm e)]
      omega
theorem lg_c_le {P : Nat → Bool} : ∀ z, lg_c P z ≤ z
  | 0 => Nat.le_refl _
  | z + 1 => by
    have := lg_c_le (P := P) z
    unfold lg_c
    split <;> omega
theorem lg_c_pos {P : Nat → Bool} : ∀ z, 0 < lg_c P z → ∃ i, 1 ≤ i ∧ i ≤ z ∧ P i = true
  | 0, h => by cases h
  | z + 1, h => by
    unfold lg_c at h
    by_cases e : P (z + 1) = true
    · exact ⟨z + 1, by omega, by omega, e⟩
    · rw [if_neg e] at h
      obtain ⟨i, a, b, c⟩ := lg_c_pos z h
      exact ⟨i, a, by omega, c⟩
theorem lg_ov_le (r : kRw) (t : Nat) : ∀ z, lg_ov r t z ≤ z
  | 0 => Nat.le_refl _
  | z + 1 => by
    have := lg_ov_le r t z
    unfold lg_ov
    split <;> omega
theorem lg_lu_le (r : kRw) (t : Nat) : ∀ z, lg_lu r t z ≤ z
  | 0 => Nat.le_refl _
  | z + 1 => by
    have := lg_lu_le r t z
    unfold lg_lu
    split <;> omega
/-- a record of t that ends t isn't behind lg_ov -/
theorem lg_ov_ge {r : kRw} {t : Nat} : ∀ {z i : Nat}, 1 ≤ i → i ≤ z → lg_t r i = t → 2 ≤ lg_k r i → i ≤ lg_ov r t z
  | 0, i, h1, h2, _, _ => by omega
  | z + 1, i, h1, h2, h3, h4 => by
    unfold lg_ov
    split
    · exact h2
    · rename_i h
      have : i ≠ z + 1 := fun e => h (by rw [← e]; exact ⟨h3, h4⟩)
      exact lg_ov_ge h1 (by omega) h3 h4
theorem lg_ov_is {r : kRw} {t : Nat} : ∀ {z : Nat}, lg_ov r t z ≠ 0 → lg_t r (lg_ov r t z) = t ∧ 2 ≤ lg_k r (lg_ov r t z)
  | 0, h => absurd rfl h
  | z + 1, h => by
    unfold lg_ov at h ⊢
    split
    · rename_i h9; exact h9
    · rename_i h9; rw [if_neg h9] at h; exact lg_ov_is h
theorem lg_lu_ge {r : kRw} {t : Nat} : ∀ {z i : Nat}, 1 ≤ i → i ≤ z → lg_t r i = t → lg_k r i = 0 → i ≤ lg_lu r t z
  | 0, i, h1, h2, _, _ => by omega
  | z + 1, i, h1, h2, h3, h4 => by
    unfold lg_lu
    split
    · exact h2
    · rename_i h
      have : i ≠ z + 1 := fun e => h (by rw [← e]; exact ⟨h3, h4⟩)
      exact lg_lu_ge h1 (by omega) h3 h4
theorem lg_ud_far {r : kRw} {i : Nat} : ∀ {z : Nat}, lg_V r z → z ≤ i → lg_ud r i z = false
  | 0, _, _ => rfl
  | z + 1, h, hi => by
    unfold lg_ud
    rw [lg_ud_far (h.le (by omega)) (by omega)]
    by_cases e : lg_k r (z + 1) = 1
    · have := ((h (z + 1) (by omega) (by omega)).2.2.2.2.2 e).2.2.1
      have e2 : ¬ lg_w r (z + 1) = i := by omega
      simp [e2]
    · simp [e]
/-- agreement on the first z records -/
theorem lg_ov_eq {r r9 : kRw} {t : Nat} : ∀ {z : Nat}, (∀ i, 1 ≤ i → i ≤ z → r9 i = r i) → lg_ov r9 t z = lg_ov r t z
  | 0, _ => rfl
  | z + 1, h => by
    unfold lg_ov lg_t lg_k
    rw [lg_ov_eq (fun i a b => h i a (by omega)), h (z + 1) (by omega) (by omega)]
theorem lg_lu_eq {r r9 : kRw} {t : Nat} : ∀ {z : Nat}, (∀ i, 1 ≤ i → i ≤ z → r9 i = r i) → lg_lu r9 t z = lg_lu r t z
  | 0, _ => rfl
  | z + 1, h => by
    unfold lg_lu lg_t lg_k
    rw [lg_lu_eq (fun i a b => h i a (by omega)), h (z + 1) (by omega) (by omega)]
theorem lg_ud_eq {r r9 : kRw} {i : Nat} : ∀ {z : Nat}, (∀ i, 1 ≤ i → i ≤ z → r9 i = r i) → lg_ud r9 i z = lg_ud r i z
  | 0, _ => rfl
  | z + 1, h => by
    unfold lg_ud lg_w lg_k
    rw [lg_ud_eq (fun i a b => h i a (by omega)), h (z + 1) (by omega) (by omega)]
theorem lg_o_eq {r r9 : kRw} {t z i : Nat} (h : ∀ i, 1 ≤ i → i ≤ z → r9 i = r i) (h1 : 1 ≤ i) (h2 : i ≤ z) : lg_o r9 t z i = lg_o r t z i := by
  unfold lg_o lg_t lg_k
  rw [lg_ov_eq h, lg_ud_eq h, h i h1 h2]
theorem lg_n_eq {r r9 : kRw} {t z : Nat} (h : ∀ i, 1 ≤ i → i ≤ z → r9 i = r i) : lg_n r9 t z = lg_n r t z := lg_c_congr z (fun _ a b => lg_o_eq h a b)
theorem lg_V_eq {r r9 : kRw} {z : Nat} (h : ∀ i, 1 ≤ i → i ≤ z → r9 i = r i) (hV : lg_V r z) : lg_V r9 z := by
  intro i a b
  have h9 := hV i a b
  unfold lg_r lg_k lg_t lg_w at h9 ⊢
  rw [h i a b]
  refine ⟨h9.1, h9.2.1, h9.2.2.1, h9.2.2.2.1, h9.2.2.2.2.1, fun e => ?_⟩
  obtain ⟨g1, g2, g3, g4⟩ := h9.2.2.2.2.2 e
  exact ⟨g1, g2, g3, (lg_o_eq (fun j c d => h j c (by omega)) g2 (by omega)).trans g4⟩
/-- one record more -/
theorem lg_ud_s {r : kRw} {i z : Nat} : lg_ud r i (z + 1) = ((lg_k r (z + 1) == 1 && lg_w r (z + 1) == i) || lg_ud r i z) := rfl
theorem lg_n_other {r : kRw} {t z : Nat} (hV : lg_V r (z + 1)) (ht : lg_t r (z + 1) ≠ t) : lg_n r t (z + 1) = lg_n r t z := by
  have e0 : lg_ov r t (z + 1) = lg_ov r t z := if_neg (fun h => ht h.1)
  have eP : ∀ i, 1 ≤ i → i ≤ z → lg_o r t (z + 1) i = lg_o r t z i := by
    intro i a b
    unfold lg_o
    rw [e0, lg_ud_s]
    by_cases h1 : lg_k r (z + 1) = 1 ∧ lg_w r (z + 1) = i
    · have h9 := ((hV (z + 1) (by omega) (by omega)).2.2.2.2.2 h1.1).2.2.2
      rw [h1.2, lg_o_iff] at h9
      have : (lg_t r i == t) = false := beq_eq_false_iff_ne.mpr (fun q => ht (h9.1.symm.trans q))
      rw [this]
      rfl
    · have : (lg_k r (z + 1) == 1 && lg_w r (z + 1) == i) = false := by
        simp only [Bool.and_eq_false_iff, beq_eq_false_iff_ne]
        by_cases q : lg_k r (z + 1) = 1
        · exact Or.inr (fun q2 => h1 ⟨q, q2⟩)
        · exact Or.inl q
      rw [this, Bool.false_or]
  have eL : lg_o r t (z + 1) (z + 1) = false := by
    unfold lg_o
    simp [ht]
  show lg_c _ z + _ = _
  rw [eL, lg_c_congr z eP]
  rfl
theorem lg_n_upd {r : kRw} {t z : Nat} (hV : lg_V r (z + 1)) (ht : lg_t r (z + 1) = t) (hk : lg_k r (z + 1) = 0) : lg_n r t (z + 1) = lg_n r t z + 1 := by
  have e0 : lg_ov r t (z + 1) = lg_ov r t z := if_neg (fun h => by have := h.2; omega)
  have eU : ∀ i, lg_ud r i (z + 1) = lg_ud r i z := fun i => by
    rw [lg_ud_s]
    simp [hk]
  have eP : ∀ i, 1 ≤ i → i ≤ z → lg_o r t (z + 1) i = lg_o r t z i := fun i _ _ => by
    unfold lg_o
    rw [e0, eU]
  have eL : lg_o r t (z + 1) (z + 1) = true := by
    rw [lg_o_iff]
    refine ⟨ht, hk, ?_, ?_⟩
    · rw [e0]
      have := lg_ov_le r t z
      omega
    · rw [eU]
      exact lg_ud_far (hV.le (by omega)) (by omega)
  show lg_c _ z + _ = _
  rw [eL, lg_c_congr z eP]
  rfl
theorem lg_n_undo {r : kRw} {t z : Nat} (hV : lg_V r (z + 1)) (ht : lg_t r (z + 1) = t) (hk : lg_k r (z + 1) = 1) : lg_n r t (z + 1) + 1 = lg_n r t z := by
  have e0 : lg_ov r t (z + 1) = lg_ov r t z := if_neg (fun h => by have := h.2; omega)
  obtain ⟨-, w1, w2, w3⟩ := (hV (z + 1) (by omega) (by omega)).2.2.2.2.2 hk
  rw [ht, show z + 1 - 1 = z by omega] at w3
  have eL : lg_o r t (z + 1) (z + 1) = false := by
    unfold lg_o
    simp [hk]
  show lg_c _ z + _ + 1 = _
  rw [eL]
  symm
  refine lg_c_flip w3 ?_ z (by omega) w1 (fun i a b c => ?_)
  · unfold lg_o
    rw [lg_ud_s]
    simp [hk]
  · unfold lg_o
    rw [e0, lg_ud_s]
    have : (lg_w r (z + 1) == i) = false := beq_eq_false_iff_ne.mpr (Ne.symm c)
    rw [this, Bool.and_false, Bool.false_or]
theorem lg_n_fin {r : kRw} {t z : Nat} (ht : lg_t r (z + 1) = t) (hk : 2 ≤ lg_k r (z + 1)) : lg_n r t (z + 1) = 0 := by
  have e0 : lg_ov r t (z + 1) = z + 1 := if_pos ⟨ht, hk⟩
  refine lg_c_0 (z + 1) (fun i a b => ?_)
  unfold lg_o
  rw [e0]
  have : ¬ z + 1 < i := by omega
  simp [this]
/-- an open UPDATE makes t unended -/
theorem lg_o_un {r : kRw} {t z i : Nat} (h1 : 1 ≤ i) (h2 : i ≤ z) (h : lg_o r t z i = true) : lg_ov r t z < lg_lu r t z := by
  rw [lg_o_iff] at h
  exact Nat.lt_of_lt_of_le h.2.2.1 (lg_lu_ge h1 h2 h.1 h.2.1)
theorem lg_n_un {r : kRw} {t z : Nat} (h : 0 < lg_n r t z) : lg_ov r t z < lg_lu r t z := by
  obtain ⟨i, a, b, c⟩ := lg_c_pos z h
  exact lg_o_un a b c
/-- sums over the eight transactions -/
def lg_s (f : Nat → Nat) : Nat → Nat
  | 0 => 0
  | k + 1 => lg_s f k + f k
theorem lg_s_congr {f g : Nat → Nat} : ∀ k, (∀ t, t < k → f t = g t) → lg_s f k = lg_s g k
  | 0, _ => rfl
  | k + 1, h => by
    unfold lg_s
    rw [lg_s_congr k (fun t a => h t (by omega)), h k (by omega)]
theorem lg_s_at {f g : Nat → Nat} {t0 : Nat} : ∀ k, t0 < k → (∀ t, t < k → t ≠ t0 → f t = g t) → lg_s f k + g t0 = lg_s g k + f t0
  | 0, h, _ => by omega
  | k + 1, h0, h => by
    unfold lg_s
    by_cases e : t0 = k
    · subst e
      rw [lg_s_congr t0 (fun t a => h t (by omega) (by omega))]
      omega
    · have := lg_s_at k (by omega) (fun t a b => h t (by omega) b)
      rw [h k (by omega) (Ne.symm e)]
      omega
theorem lg_s_le {f g : Nat → Nat} : ∀ k, (∀ t, t < k → f t ≤ g t) → lg_s f k ≤ lg_s g k
  | 0, _ => Nat.le_refl _
  | k + 1, h => by
    have := lg_s_le k (fun t a => h t (by omega))
    have := h k (by omega)
    unfold lg_s
    omega
theorem lg_s_get {f : Nat → Nat} : ∀ {k t : Nat}, t < k → f t ≤ lg_s f k
  | 0, _, h => by omega
  | k + 1, t, h => by
    unfold lg_s
    by_cases e : t = k
    · subst e; omega
    · have := lg_s_get (f := f) (k := k) (t := t) (by omega)
      omega
/-- unended, 1 or 0 -/
def lg_u (r : kRw) (z t : Nat) : Nat := if lg_ov r t z < lg_lu r t z then 1 else 0
/-- what a crash, when just z records are flushed, makes of them -/
def lg_tot (r : kRw) (z : Nat) : Nat := z + lg_s (fun t => lg_n r t z) 8 + lg_s (lg_u r z) 8
theorem lg_tot_eq {r r9 : kRw} {z : Nat} (h : ∀ i, 1 ≤ i → i ≤ z → r9 i = r i) : lg_tot r9 z = lg_tot r z := by
  have e1 : lg_s (fun t => lg_n r9 t z) 8 = lg_s (fun t => lg_n r t z) 8 := lg_s_congr 8 (fun t _ => lg_n_eq h)
  have e2 : lg_s (lg_u r9 z) 8 = lg_s (lg_u r z) 8 := lg_s_congr 8 (fun t _ => by
    unfold lg_u
    rw [lg_ov_eq h, lg_lu_eq h])
  unfold lg_tot
  rw [e1, e2]
/-- an UNDO more: the same in all -/
theorem lg_tot_undo {r : kRw} {z : Nat} (hV : lg_V r (z + 1)) (hk : lg_k r (z + 1) = 1) : lg_tot r (z + 1) = lg_tot r z := by
  have h0 := hV (z + 1) (by omega) (by omega)
  have e1 := lg_n_undo hV rfl hk
  have e2 := lg_s_at (f := fun t => lg_n r t (z + 1)) (g := fun t => lg_n r t z) (t0 := lg_t r (z + 1)) 8 h0.2.2.2.1 (fun t _ b => lg_n_other hV (Ne.symm b))
  have e3 : lg_s (lg_u r (z + 1)) 8 = lg_s (lg_u r z) 8 := lg_s_congr 8 (fun t _ => by
    unfold lg_u
    rw [show lg_ov r t (z + 1) = lg_ov r t z from if_neg (fun h => by have := h.2; omega), show lg_lu r t (z + 1) = lg_lu r t z from if_neg (fun h => by have := h.2; omega)])
  unfold lg_tot
  rw [e3]
  omega
/-- the last record of an unended one: no more -/
theorem lg_tot_fin {r : kRw} {z : Nat} (hV : lg_V r (z + 1)) (hk : 2 ≤ lg_k r (z + 1)) : lg_tot r (z + 1) + lg_n r (lg_t r (z + 1)) z + lg_u r z (lg_t r (z + 1)) = lg_tot r z + 1 := by
  have h0 := hV (z + 1) (by omega) (by omega)
  have e1 := lg_n_fin (r := r) (z := z) rfl hk
  have e2 := lg_s_at (f := fun t => lg_n r t (z + 1)) (g := fun t => lg_n r t z) (t0 := lg_t r (z + 1)) 8 h0.2.2.2.1 (fun t _ b => lg_n_other hV (Ne.symm b))
  have eo : ∀ t, t ≠ lg_t r (z + 1) → lg_ov r t (z + 1) = lg_ov r t z := fun t h => if_neg (fun q => h q.1.symm)
  have el : ∀ t, lg_lu r t (z + 1) = lg_lu r t z := fun t => if_neg (fun h => by have := h.2; omega)
  have e3 := lg_s_at (f := lg_u r (z + 1)) (g := lg_u r z) (t0 := lg_t r (z + 1)) 8 h0.2.2.2.1 (fun t _ b => by
    unfold lg_u
    rw [eo t b, el t])
  have e4 : lg_u r (z + 1) (lg_t r (z + 1)) = 0 := by
    unfold lg_u
    rw [show lg_ov r (lg_t r (z + 1)) (z + 1) = z + 1 from if_pos ⟨rfl, hk⟩, el, if_neg]
    have := lg_lu_le r (lg_t r (z + 1)) z
    omega
  unfold lg_tot
  omega
/-- an UPDATE more -/
theorem lg_tot_upd {r : kRw} {z : Nat} (hV : lg_V r (z + 1)) (hk : lg_k r (z + 1) = 0) : lg_s (fun t => lg_n r t (z + 1)) 8 = lg_s (fun t => lg_n r t z) 8 + 1 := by
  have h0 := hV (z + 1) (by omega) (by omega)
  have e1 := lg_n_upd hV rfl hk
  have e2 := lg_s_at (f := fun t => lg_n r t (z + 1)) (g := fun t => lg_n r t z) (t0 := lg_t r (z + 1)) 8 h0.2.2.2.1 (fun t _ b => lg_n_other hV (Ne.symm b))
  omega
end LG
