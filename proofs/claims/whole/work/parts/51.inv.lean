section KI
/-- the places that both sides have: all but the class' caches, its rows' numbers, and the reference's own -/
def kSh (F b : Nat) : Prop := F < 20 ∧ (F = 5 → b = 8) ∧ ¬ (10 ≤ F ∧ F ≤ 13)
/-- class (u) and reference (v) hold the same there -/
def kE (u v : kS) : Prop := ∀ F a b, kSh F b → v F a b = u F a b
theorem kE_9 {u v : kS} (h : kE u v) : v 9 = u 9 := by
  funext a b
  exact h 9 a b ⟨by decide, (fun h => by omega), by decide⟩
theorem kE_ku {u v : kS} (h : kE u v) (F i j : Nat) (x : Int32) : kE (ku u F i j x) (ku v F i j x) := by
  intro F9 a b hs
  unfold ku
  split
  · rfl
  · exact h F9 a b hs
theorem kE_l {u v : kS} (h : kE u v) {F i j : Nat} {x : Int32} (hs : ¬ kSh F j) : kE (ku u F i j x) v := by
  intro F9 a b h9
  unfold ku
  split
  · rename_i e
    rw [e.1, e.2.2] at h9
    exact absurd h9 hs
  · exact h F9 a b h9
theorem kE_r {u v : kS} (h : kE u v) {F i j : Nat} {x : Int32} (hs : ¬ kSh F j) : kE u (ku v F i j x) := by
  intro F9 a b h9
  unfold ku
  split
  · rename_i e
    rw [e.1, e.2.2] at h9
    exact absurd h9 hs
  · exact h F9 a b h9
/-- a write of the reference that changes nothing -/
theorem kE_r0 {u v : kS} (h : kE u v) {F i j : Nat} {x : Int32} (hx : kSh F j → u F i j = x) : kE u (ku v F i j x) := by
  intro F9 a b h9
  unfold ku
  split
  · rename_i e
    obtain ⟨e1, e2, e3⟩ := e
    subst e1; subst e2; subst e3
    exact (hx h9).symm
  · exact h F9 a b h9
theorem kE_l0 {u v : kS} (h : kE u v) {F i j : Nat} {x : Int32} (hx : kSh F j → u F i j = x) : kE (ku u F i j x) v := by
  intro F9 a b h9
  unfold ku
  split
  · rename_i e
    obtain ⟨e1, e2, e3⟩ := e
    subst e1; subst e2; subst e3
    exact (h F9 a b h9).trans (hx h9)
  · exact h F9 a b h9
theorem sh_0 (b : Nat) : kSh 0 b := ⟨by decide, (fun h => by omega), by decide⟩
theorem sh_1 (b : Nat) : kSh 1 b := ⟨by decide, (fun h => by omega), by decide⟩
theorem sh_2 (b : Nat) : kSh 2 b := ⟨by decide, (fun h => by omega), by decide⟩
theorem sh_3 (b : Nat) : kSh 3 b := ⟨by decide, (fun h => by omega), by decide⟩
theorem sh_4 (b : Nat) : kSh 4 b := ⟨by decide, (fun h => by omega), by decide⟩
theorem sh_5 : kSh 5 8 := ⟨by decide, (fun _ => rfl), by decide⟩
theorem sh_6 (b : Nat) : kSh 6 b := ⟨by decide, (fun h => by omega), by decide⟩
theorem sh_7 (b : Nat) : kSh 7 b := ⟨by decide, (fun h => by omega), by decide⟩
theorem sh_8 (b : Nat) : kSh 8 b := ⟨by decide, (fun h => by omega), by decide⟩
theorem sh_9 (b : Nat) : kSh 9 b := ⟨by decide, (fun h => by omega), by decide⟩
theorem sh_14 (b : Nat) : kSh 14 b := ⟨by decide, (fun h => by omega), by decide⟩
theorem sh_15 (b : Nat) : kSh 15 b := ⟨by decide, (fun h => by omega), by decide⟩
theorem sh_16 (b : Nat) : kSh 16 b := ⟨by decide, (fun h => by omega), by decide⟩
theorem sh_17 (b : Nat) : kSh 17 b := ⟨by decide, (fun h => by omega), by decide⟩
theorem sh_18 (b : Nat) : kSh 18 b := ⟨by decide, (fun h => by omega), by decide⟩
theorem sh_19 (b : Nat) : kSh 19 b := ⟨by decide, (fun h => by omega), by decide⟩
theorem nsh_5 {b : Nat} (h : b < 8) : ¬ kSh 5 b := fun q => by have := q.2.1 rfl; omega
theorem nsh_20 {F b : Nat} (h : 20 ≤ F) : ¬ kSh F b := fun q => by have := q.1; omega
theorem nsh_c {F b : Nat} (h : 10 ≤ F) (h2 : F ≤ 13) : ¬ kSh F b := fun q => q.2.2 ⟨h, h2⟩
/-- the frames: n of them, no more than N pins at each -/
def kIF (n N : Nat) (u v : kS) : Prop :=
  (∀ f, f < n → (u 1 f 0 = -1 ∧ u 2 f 0 = 0 ∧ u 3 f 0 = 0 ∧ u 4 f 0 = 0 ∧ u 5 f 8 = 0) ∨ ((∃ q, q < 32 ∧ u 1 f 0 = nI q) ∧ ∀ k, k < 8 → v 23 f k = u 5 f k)) ∧
  (∀ f, f < n → ∃ j, j ≤ N ∧ u 2 f 0 = nI j) ∧ (∃ h, h < n ∧ u 6 0 0 = nI h) ∧ v 21 0 0 = nI n ∧
  (∀ f, n ≤ f → u 1 f 0 = -1 ∧ u 2 f 0 = 0 ∧ u 3 f 0 = 0 ∧ u 4 f 0 = 0 ∧ u 5 f 8 = 0)
theorem nI_n1 {q : Nat} (h : q < 2 ^ 31) : nI q ≠ -1 := fun e => by
  have h1 := nI_pos' h
  rw [e] at h1
  exact absurd h1 (by decide)
theorem kIF_kFr {n N : Nat} {u v : kS} (h : kIF n N u v) : kFr u n := by
  refine ⟨h.2.2.1, fun f hf h3 => ?_⟩
  rcases h.1 f hf with h9 | h9
  · exact absurd h9.2.2.1 h3
  · exact h9.1
theorem kIF_neg {n N : Nat} {u v : kS} (h : kIF n N u v) {f : Nat} (hf : f < n) : u 1 f 0 < 0 ↔ u 1 f 0 = -1 := by
  rcases h.1 f hf with h9 | ⟨⟨q, h1, h2⟩, -⟩
  · rw [h9.1]; decide
  · rw [h2]
    exact ⟨fun h => absurd h (nI_pos (by omega)), fun h => absurd h (nI_n1 (by omega))⟩
/-- the caches of the class, by its log -/
def lg_C (u : kS) (z : Nat) : Prop := (∀ t, t < 8 → u 11 t 0 = nI (lg_lu (u 9) t z) ∧ u 12 t 0 = nI (lg_ov (u 9) t z) ∧ u 13 t 0 = nI (lg_n (u 9) t z)) ∧ ∀ i, 1 ≤ i → i ≤ z → u 10 i 0 = if lg_ud (u 9) i z = true then 1 else 0
/-- what of the reference follows from its log -/
def lg_D (v : kS) (z : Nat) : Prop := ∀ i, 1 ≤ i → i ≤ z → v 22 i 0 = if lg_ud (v 9) i z = true then 1 else 0
theorem kFol_9 {u : kS} {i t w : Nat} : kFol u i t w 9 = u 9 := by
  funext a b
  exact kFol_F ⟨by decide, by decide, by decide, by decide⟩
theorem lg_C_eq {u u9 : kS} {z : Nat} (h9 : ∀ i, 1 ≤ i → i ≤ z → u9 9 i = u 9 i) (h10 : u9 10 = u 10) (h11 : u9 11 = u 11) (h12 : u9 12 = u 12) (h13 : u9 13 = u 13) (h : lg_C u z) : lg_C u9 z := by
  refine ⟨fun t ht => ?_, fun i a b => ?_⟩
  · rw [h11, h12, h13, lg_lu_eq h9, lg_ov_eq h9, lg_n_eq h9]
    exact h.1 t ht
  · rw [h10, lg_ud_eq h9]
    exact h.2 i a b
theorem lg_D_eq {u u9 : kS} {z : Nat} (h9 : ∀ i, 1 ≤ i → i ≤ z → u9 9 i = u 9 i) (h22 : u9 22 = u 22) (h : lg_D u z) : lg_D u9 z := by
  intro i a b
  rw [h22, lg_ud_eq h9]
  exact h i a b
/-- Log.follow keeps the caches -/
theorem lg_C_fol {u : kS} {z w : Nat} (hC : lg_C u z) (hV : lg_V (u 9) (z + 1)) (hw : lg_k (u 9) (z + 1) = 1 → w = lg_w (u 9) (z + 1)) : lg_C (kFol u (z + 1) (lg_t (u 9) (z + 1)) w) (z + 1) := by
  have h0 := hV (z + 1) (by omega) (by omega)
  have hk0 := h0.1
  have hV0 := hV.le (show z ≤ z + 1 by omega)
  unfold lg_C
  rw [kFol_9]
  have hud : ∀ i, lg_k (u 9) (z + 1) ≠ 1 → lg_ud (u 9) i (z + 1) = lg_ud (u 9) i z := fun i h => by
    rw [lg_ud_s]
    have : (lg_k (u 9) (z + 1) == 1) = false := beq_eq_false_iff_ne.mpr h
    rw [this]
    rfl
  have hn : ∀ t, t ≠ lg_t (u 9) (z + 1) → lg_n (u 9) t (z + 1) = lg_n (u 9) t z := fun t h => lg_n_other hV (Ne.symm h)
  have ho : ∀ t, t ≠ lg_t (u 9) (z + 1) → lg_ov (u 9) t (z + 1) = lg_ov (u 9) t z := fun t h => if_neg (fun q => h q.1.symm)
  have hl : ∀ t, t ≠ lg_t (u 9) (z + 1) → lg_lu (u 9) t (z + 1) = lg_lu (u 9) t z := fun t h => if_neg (fun q => h q.1.symm)
  by_cases c0 : lg_k (u 9) (z + 1) = 0
  · have e0 : u 9 (z + 1) 0 = 0 := by rw [hk0, c0]; rfl
    have eF : kFol u (z + 1) (lg_t (u 9) (z + 1)) w = ku (ku (ku u 10 (z + 1) 0 0) 11 (lg_t (u 9) (z + 1)) 0 (nI (z + 1))) 13 (lg_t (u 9) (z + 1)) 0 (u 13 (lg_t (u 9) (z + 1)) 0 + 1) := if_pos e0
    rw [eF]
    refine ⟨fun t ht => ?_, fun i a b => ?_⟩
    · obtain ⟨g1, g2, g3⟩ := hC.1 t ht
      by_cases e : t = lg_t (u 9) (z + 1)
      · subst e
        rw [show lg_lu (u 9) (lg_t (u 9) (z + 1)) (z + 1) = z + 1 from if_pos ⟨rfl, c0⟩, show lg_ov (u 9) (lg_t (u 9) (z + 1)) (z + 1) = lg_ov (u 9) (lg_t (u 9) (z + 1)) z from if_neg (fun q => by have := q.2; omega), lg_n_upd hV rfl c0, ← nI_1 (lg_n (u 9) (lg_t (u 9) (z + 1)) z), ← g3, ← g2]
        simp [ku]
      · rw [hl t e, ho t e, hn t e, ← g1, ← g2, ← g3]
        simp [ku, e]
    · rw [hud i (by omega)]
      by_cases e : i = z + 1
      · subst e
        rw [lg_ud_far hV0 (by omega)]
        simp [ku]
      · rw [← hC.2 i a (by omega)]
        simp [ku, e]
  · have e0 : ¬ u 9 (z + 1) 0 = 0 := by
      rw [hk0]
      exact nI_ne0 (by omega) (by have := h0.2.1; omega)
    by_cases c1 : lg_k (u 9) (z + 1) = 1
    · have e1 : u 9 (z + 1) 0 = 1 := by rw [hk0, c1]; rfl
      have hw9 := hw c1
      subst hw9
      obtain ⟨-, w1, w2, w3⟩ := h0.2.2.2.2.2 c1
      have eF : kFol u (z + 1) (lg_t (u 9) (z + 1)) (lg_w (u 9) (z + 1)) = ku (ku (ku u 10 (z + 1) 0 0) 10 (lg_w (u 9) (z + 1)) 0 1) 13 (lg_t (u 9) (z + 1)) 0 (u 13 (lg_t (u 9) (z + 1)) 0 - 1) := by
        unfold kFol
        rw [if_neg e0, if_pos e1]
      rw [eF]
      refine ⟨fun t ht => ?_, fun i a b => ?_⟩
      · obtain ⟨g1, g2, g3⟩ := hC.1 t ht
        by_cases e : t = lg_t (u 9) (z + 1)
        · subst e
          have hn9 := lg_n_undo hV rfl c1
          rw [← hn9] at g3
          rw [show lg_lu (u 9) (lg_t (u 9) (z + 1)) (z + 1) = lg_lu (u 9) (lg_t (u 9) (z + 1)) z from if_neg (fun q => by have := q.2; omega), show lg_ov (u 9) (lg_t (u 9) (z + 1)) (z + 1) = lg_ov (u 9) (lg_t (u 9) (z + 1)) z from if_neg (fun q => by have := q.2; omega), ← g1, ← g2, ← nI_pred, ← g3]
          simp [ku]
        · rw [hl t e, ho t e, hn t e, ← g1, ← g2, ← g3]
          simp [ku, e]
      · rw [lg_ud_s]
        have hk9 : (lg_k (u 9) (z + 1) == 1) = true := beq_iff_eq.mpr c1
        rw [hk9, Bool.true_and]
        by_cases e : i = lg_w (u 9) (z + 1)
        · subst e
          simp [ku]
        · have : (lg_w (u 9) (z + 1) == i) = false := beq_eq_false_iff_ne.mpr (Ne.symm e)
          rw [this, Bool.false_or]
          by_cases e2 : i = z + 1
          · subst e2
            rw [lg_ud_far hV0 (by omega)]
            simp [ku, e]
          · rw [← hC.2 i a (by omega)]
            simp [ku, e, e2]
    · have e1 : ¬ u 9 (z + 1) 0 = 1 := by
        rw [hk0]
        intro q
        exact c1 ((nI_eq (b := 1) (by have := h0.2.1; omega) (by decide)).mp q)
      have eF : kFol u (z + 1) (lg_t (u 9) (z + 1)) w = ku (ku (ku u 10 (z + 1) 0 0) 12 (lg_t (u 9) (z + 1)) 0 (nI (z + 1))) 13 (lg_t (u 9) (z + 1)) 0 0 := by
        unfold kFol
        rw [if_neg e0, if_neg e1]
      rw [eF]
      refine ⟨fun t ht => ?_, fun i a b => ?_⟩
      · obtain ⟨g1, g2, g3⟩ := hC.1 t ht
        by_cases e : t = lg_t (u 9) (z + 1)
        · subst e
          rw [show lg_lu (u 9) (lg_t (u 9) (z + 1)) (z + 1) = lg_lu (u 9) (lg_t (u 9) (z + 1)) z from if_neg (fun q => by have := q.2; omega), show lg_ov (u 9) (lg_t (u 9) (z + 1)) (z + 1) = z + 1 from if_pos ⟨rfl, by omega⟩, lg_n_fin rfl (by omega), ← g1]
          simp [ku]
          rfl
        · rw [hl t e, ho t e, hn t e, ← g1, ← g2, ← g3]
          simp [ku, e]
      · rw [hud i c1]
        by_cases e : i = z + 1
        · subst e
          rw [lg_ud_far hV0 (by omega)]
          simp [ku]
        · rw [← hC.2 i a (by omega)]
          simp [ku, e]
/-- .. and what of the reference follows from a record more -/
theorem lg_D_rec {v v9 : kS} {z : Nat} (hD : lg_D v z) (h9 : ∀ i, 1 ≤ i → i ≤ z → v9 9 i = v 9 i) (hV : lg_V (v9 9) (z + 1))
    (h22 : ∀ i, 1 ≤ i → i ≤ z → v9 22 i 0 = if lg_k (v9 9) (z + 1) = 1 ∧ i = lg_w (v9 9) (z + 1) then 1 else v 22 i 0) (hz : v9 22 (z + 1) 0 = 0) : lg_D v9 (z + 1) := by
  intro i a b
  rw [lg_ud_s]
  by_cases e : i = z + 1
  · subst e
    rw [hz, lg_ud_far (hV.le (by omega)) (by omega)]
    by_cases c1 : lg_k (v9 9) (z + 1) = 1
    · have := ((hV (z + 1) (by omega) (by omega)).2.2.2.2.2 c1).2.2.1
      have e2 : (lg_w (v9 9) (z + 1) == z + 1) = false := beq_eq_false_iff_ne.mpr (by omega)
      rw [e2]
      simp
    · have e2 : (lg_k (v9 9) (z + 1) == 1) = false := beq_eq_false_iff_ne.mpr c1
      rw [e2]
      simp
  · rw [h22 i a (by omega), lg_ud_eq h9, hD i a (by omega)]
    by_cases c1 : lg_k (v9 9) (z + 1) = 1 ∧ i = lg_w (v9 9) (z + 1)
    · rw [if_pos c1]
      have e1 : (lg_k (v9 9) (z + 1) == 1) = true := beq_iff_eq.mpr c1.1
      have e2 : (lg_w (v9 9) (z + 1) == i) = true := beq_iff_eq.mpr c1.2.symm
      rw [e1, e2]
      simp
    · rw [if_neg c1]
      have e1 : (lg_k (v9 9) (z + 1) == 1 && lg_w (v9 9) (z + 1) == i) = false := by
        simp only [Bool.and_eq_false_iff, beq_eq_false_iff_ne]
        by_cases q : lg_k (v9 9) (z + 1) = 1
        · exact Or.inr (fun q2 => c1 ⟨q, q2.symm⟩)
        · exact Or.inl q
      rw [e1, Bool.false_or]
/-- the log: z records, fl of them flushed -/
def kIL (u v : kS) (z fl : Nat) : Prop := u 14 0 0 = nI z ∧ u 15 0 0 = nI fl ∧ fl ≤ z ∧ lg_V (u 9) z ∧ lg_C u z ∧ lg_D v z ∧ ∀ k, k ≤ z → lg_tot (u 9) k ≤ 399
theorem kIL_z {u v : kS} {z fl : Nat} (h : kIL u v z fl) : z ≤ 399 := by
  have h9 := h.2.2.2.2.2.2 z (Nat.le_refl _)
  unfold lg_tot at h9
  omega
/-- who is active -/
def kIA (u : kS) (z : Nat) : Prop := z + lg_s (fun t => lg_n (u 9) t z) 8 + kct (fun t => u 16 t 0) 8 ≤ 399 ∧ (∀ t, t < 8 → lg_ov (u 9) t z < lg_lu (u 9) t z → u 16 t 0 ≠ 0) ∧ ∀ t, t < 8 → u 16 t 0 = 0 → u 17 t 0 = 0
theorem kIL_congr {u v u9 v9 : kS} {z fl : Nat} (h : kIL u v z fl) (hu : ∀ F a b, 9 ≤ F → F ≤ 15 → u9 F a b = u F a b) (h9 : ∀ a b, v9 9 a b = v 9 a b) (h22 : ∀ a b, v9 22 a b = v 22 a b) : kIL u9 v9 z fl := by
  have e9 : u9 9 = u 9 := by funext a b; exact hu 9 a b (by decide) (by decide)
  refine ⟨(hu 14 0 0 (by decide) (by decide)).trans h.1, (hu 15 0 0 (by decide) (by decide)).trans h.2.1, h.2.2.1, by rw [e9]; exact h.2.2.2.1, ?_, ?_, by rw [e9]; exact h.2.2.2.2.2.2⟩
  · exact lg_C_eq (fun i _ _ => by rw [e9]) (by funext a b; exact hu 10 a b (by decide) (by decide)) (by funext a b; exact hu 11 a b (by decide) (by decide)) (by funext a b; exact hu 12 a b (by decide) (by decide)) (by funext a b; exact hu 13 a b (by decide) (by decide)) h.2.2.2.2.1
  · exact lg_D_eq (fun i _ _ => by funext b; exact h9 i b) (by funext a b; exact h22 a b) h.2.2.2.2.2.1
theorem kIA_congr {u u9 : kS} {z : Nat} (h : kIA u z) (h9 : u9 9 = u 9) (h16 : ∀ t, u9 16 t 0 = u 16 t 0) (h17 : ∀ t, u9 17 t 0 = u 17 t 0) : kIA u9 z := by
  unfold kIA
  rw [h9, show (fun t => u9 16 t 0) = (fun t => u 16 t 0) from funext h16]
  refine ⟨h.1, fun t ht h1 => ?_, fun t ht h1 => ?_⟩
  · rw [h16]; exact h.2.1 t ht h1
  · rw [h17]; rw [h16] at h1; exact h.2.2 t ht h1
theorem kIF_congr {n N : Nat} {u v u9 v9 : kS} (h : kIF n N u v) (hu : ∀ F a b, 1 ≤ F → F ≤ 6 → u9 F a b = u F a b) (h21 : v9 21 0 0 = v 21 0 0) (h23 : ∀ a b, v9 23 a b = v 23 a b) : kIF n N u9 v9 := by
  refine ⟨fun f hf => ?_, fun f hf => ?_, ?_, h21.trans h.2.2.2.1, fun f hf => ?_⟩
  · rcases h.1 f hf with h9 | h9
    · refine Or.inl ?_
      rw [hu 1 f 0 (by decide) (by decide), hu 2 f 0 (by decide) (by decide), hu 3 f 0 (by decide) (by decide), hu 4 f 0 (by decide) (by decide), hu 5 f 8 (by decide) (by decide)]
      exact h9
    · refine Or.inr ⟨?_, fun k hk => ?_⟩
      · rw [hu 1 f 0 (by decide) (by decide)]; exact h9.1
      · rw [hu 5 f k (by decide) (by decide), h23]; exact h9.2 k hk
  · rw [hu 2 f 0 (by decide) (by decide)]; exact h.2.1 f hf
  · rw [hu 6 0 0 (by decide) (by decide)]; exact h.2.2.1
  · rw [hu 1 f 0 (by decide) (by decide), hu 2 f 0 (by decide) (by decide), hu 3 f 0 (by decide) (by decide), hu 4 f 0 (by decide) (by decide), hu 5 f 8 (by decide) (by decide)]
    exact h.2.2.2.2 f hf
theorem kIF_N {n N M : Nat} {u v : kS} (h : kIF n N u v) (hM : N ≤ M) : kIF n M u v := ⟨h.1, fun f hf => by obtain ⟨j, a, b⟩ := h.2.1 f hf; exact ⟨j, by omega, b⟩, h.2.2⟩
end KI
