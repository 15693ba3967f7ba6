section KV
theorem nI_2k {k : Nat} (h : k < 4) : nI k < nI 2 ↔ k < 2 := nI_ltI (by omega) (by decide)
theorem lg_t_eq {r : kRw} {i t : Nat} (h : lg_r r i) (ht : t < 8) : r i 1 = nI t ↔ lg_t r i = t := by
  rw [h.2.2.1]
  exact nI_eq (by have := h.2.2.2.1; omega) (by omega)
theorem lg_k_eq {r : kRw} {i k : Nat} (h : lg_r r i) (hk : k < 4) : r i 0 = nI k ↔ lg_k r i = k := by
  rw [h.1]
  exact nI_eq (by have := h.2.1; omega) (by omega)
theorem kFin_iff {w : kS} {i t : Nat} (h : lg_r (w 9) i) (ht : t < 8) : kFin w (nI t) i ↔ lg_t (w 9) i = t ∧ 2 ≤ lg_k (w 9) i := by
  unfold kFin
  rw [lg_t_eq h ht, lg_k_eq h (by decide), lg_k_eq h (by decide)]
  have := h.2.1
  constructor
  · rintro ⟨a, b⟩; exact ⟨a, by omega⟩
  · rintro ⟨a, b⟩; exact ⟨a, by omega⟩
theorem kUpd_iff {w : kS} {i t z : Nat} (h : lg_r (w 9) i) (ht : t < 8) (h1 : 1 ≤ i) (h2 : i ≤ z) (hD : lg_D w z) : kUpd w (nI t) i ↔ lg_t (w 9) i = t ∧ lg_k (w 9) i = 0 ∧ lg_ud (w 9) i z = false := by
  unfold kUpd
  rw [lg_t_eq h ht, show ((0 : Int32) = nI 0) from rfl, lg_k_eq h (by decide), hD i h1 h2]
  constructor
  · rintro ⟨a, b, c⟩
    refine ⟨a, b, ?_⟩
    by_cases e : lg_ud (w 9) i z = true
    · rw [if_pos e] at c; exact absurd c (by decide)
    · simpa using e
  · rintro ⟨a, b, c⟩
    refine ⟨a, b, ?_⟩
    rw [c]; rfl
theorem kUof_n {w : kS} {t z : Nat} (ht : t < 8) (hV : lg_V (w 9) z) (hD : lg_D w z) : ∀ (i d : Nat), i ≤ z → lg_ov (w 9) t i = lg_ov (w 9) t z → kUof w (nI t) i d = d + lg_c (lg_o (w 9) t z) i
  | 0, d, _, _ => rfl
  | i + 1, d, hi, ho => by
    have hr := hV (i + 1) (by omega) hi
    unfold kUof
    by_cases c : kFin w (nI t) (i + 1)
    · rw [if_pos c]
      have e : lg_ov (w 9) t (i + 1) = i + 1 := if_pos ((kFin_iff hr ht).mp c)
      rw [lg_c_0 (i + 1) (fun j a b => ?_)]
      · rfl
      · unfold lg_o
        rw [← ho, e]
        have : ¬ i + 1 < j := by omega
        simp [this]
    · rw [if_neg c]
      have e : lg_ov (w 9) t (i + 1) = lg_ov (w 9) t i := if_neg (fun q => c ((kFin_iff hr ht).mpr q))
      rw [kUof_n ht hV hD i _ (by omega) (by rw [← e]; exact ho)]
      show _ = d + (lg_c _ i + _)
      have hiff : kUpd w (nI t) (i + 1) ↔ lg_o (w 9) t z (i + 1) = true := by
        rw [kUpd_iff hr ht (by omega) hi hD, lg_o_iff]
        have := lg_ov_le (w 9) t i
        rw [e] at ho
        constructor
        · rintro ⟨a, b, d⟩; exact ⟨a, b, by omega, d⟩
        · rintro ⟨a, b, -, d⟩; exact ⟨a, b, d⟩
      by_cases q : kUpd w (nI t) (i + 1)
      · rw [if_pos q, if_pos (hiff.mp q)]; omega
      · rw [if_neg q, if_neg (fun h => q (hiff.mpr h))]; omega
theorem kUof_eq {w : kS} {t z : Nat} (ht : t < 8) (hV : lg_V (w 9) z) (hD : lg_D w z) : kUof w (nI t) z 0 = lg_n (w 9) t z := by
  rw [kUof_n ht hV hD z 0 (Nat.le_refl _) rfl]
  exact Nat.zero_add _
theorem kLast_n {w : kS} {t z : Nat} (ht : t < 8) (hV : lg_V (w 9) z) (hD : lg_D w z) : ∀ (i : Nat), i ≤ z → lg_ov (w 9) t i = lg_ov (w 9) t z → kLast w (nI t) i ≤ i ∧ (kLast w (nI t) i ≠ 0 → lg_o (w 9) t z (kLast w (nI t) i) = true) ∧ ∀ j, kLast w (nI t) i < j → j ≤ i → lg_o (w 9) t z j = false
  | 0, _, _ => ⟨Nat.le_refl _, fun h => absurd rfl h, fun j a b => by omega⟩
  | i + 1, hi, ho => by
    have hr := hV (i + 1) (by omega) hi
    unfold kLast
    by_cases c : kFin w (nI t) (i + 1)
    · rw [if_pos c]
      have e : lg_ov (w 9) t (i + 1) = i + 1 := if_pos ((kFin_iff hr ht).mp c)
      refine ⟨by omega, fun h => absurd rfl h, fun j a b => ?_⟩
      unfold lg_o
      rw [← ho, e]
      have : ¬ i + 1 < j := by omega
      simp [this]
    · rw [if_neg c]
      have e : lg_ov (w 9) t (i + 1) = lg_ov (w 9) t i := if_neg (fun q => c ((kFin_iff hr ht).mpr q))
      have hiff : kUpd w (nI t) (i + 1) ↔ lg_o (w 9) t z (i + 1) = true := by
        rw [kUpd_iff hr ht (by omega) hi hD, lg_o_iff]
        have := lg_ov_le (w 9) t i
        rw [e] at ho
        constructor
        · rintro ⟨a, b, d⟩; exact ⟨a, b, by omega, d⟩
        · rintro ⟨a, b, -, d⟩; exact ⟨a, b, d⟩
      by_cases q : kUpd w (nI t) (i + 1)
      · rw [if_pos q]
        exact ⟨Nat.le_refl _, fun _ => hiff.mp q, fun j a b => by omega⟩
      · rw [if_neg q]
        obtain ⟨g1, g2, g3⟩ := kLast_n ht hV hD i (by omega) (by rw [← e]; exact ho)
        refine ⟨by omega, g2, fun j a b => ?_⟩
        by_cases ej : j = i + 1
        · subst ej
          by_cases hb : lg_o (w 9) t z (i + 1) = true
          · exact absurd (hiff.mpr hb) q
          · simpa using hb
        · exact g3 j a (by omega)
theorem kIso_iff {w : kS} {t : Nat} (ht : t < 8) : ∀ (z : Nat), lg_V (w 9) z → (kIso w (nI t) z ≠ 0 ↔ lg_ov (w 9) t z < lg_lu (w 9) t z)
  | 0, _ => by
    constructor
    · intro h; exact absurd rfl h
    · intro h; exact absurd h (Nat.lt_irrefl _)
  | z + 1, hV => by
    have hr := hV (z + 1) (by omega) (by omega)
    have ih := kIso_iff ht z (hV.le (by omega))
    unfold kIso
    by_cases c : lg_t (w 9) (z + 1) = t
    · rw [if_pos ((lg_t_eq hr ht).mpr c)]
      have hk := hr.2.1
      have e0 := hr.1
      by_cases c0 : lg_k (w 9) (z + 1) = 0
      · rw [show lg_lu (w 9) t (z + 1) = z + 1 from if_pos ⟨c, c0⟩, show lg_ov (w 9) t (z + 1) = lg_ov (w 9) t z from if_neg (fun q => by have := q.2; omega), kb_1 (by rw [e0, c0]; decide)]
        have := lg_ov_le (w 9) t z
        exact ⟨fun _ => by omega, fun _ => by decide⟩
      · by_cases c1 : lg_k (w 9) (z + 1) = 1
        · rw [show lg_lu (w 9) t (z + 1) = lg_lu (w 9) t z from if_neg (fun q => c0 q.2), show lg_ov (w 9) t (z + 1) = lg_ov (w 9) t z from if_neg (fun q => by have := q.2; omega), kb_1 (by rw [e0, c1]; decide)]
          obtain ⟨-, g1, g2, g3⟩ := hr.2.2.2.2.2 c1
          rw [c, show z + 1 - 1 = z by omega] at g3
          exact ⟨fun _ => lg_o_un g1 (by omega) g3, fun _ => by decide⟩
        · rw [show lg_ov (w 9) t (z + 1) = z + 1 from if_pos ⟨c, by omega⟩, kb_0 (by rw [e0, nI_2k hk]; omega)]
          have := lg_lu_le (w 9) t (z + 1)
          exact ⟨fun h => absurd rfl h, fun h => by omega⟩
    · rw [if_neg (fun q => c ((lg_t_eq hr ht).mp q)), show lg_lu (w 9) t (z + 1) = lg_lu (w 9) t z from if_neg (fun q => c q.1), show lg_ov (w 9) t (z + 1) = lg_ov (w 9) t z from if_neg (fun q => c q.1)]
      exact ih
theorem kIsl_iff {w : kS} {i : Nat} (hi : 1 ≤ i) : ∀ (k : Nat), lg_V (w 9) (i + k) → (kIsl w i k ≠ 0 ↔ lg_ov (w 9) (lg_t (w 9) i) (i + k) ≤ i)
  | 0, _ => ⟨fun _ => lg_ov_le _ _ _, fun _ => by show (1 : Int32) ≠ 0; decide⟩
  | k + 1, hV => by
    have hr := hV (i + k + 1) (by omega) (by omega)
    have hr0 := hV i hi (by omega)
    have ih := kIsl_iff hi k (hV.le (by omega))
    have ht := hr0.2.2.2.1
    have e1 : w 9 (i + k + 1) 1 = w 9 i 1 ↔ lg_t (w 9) (i + k + 1) = lg_t (w 9) i := by
      rw [hr0.2.2.1]
      exact lg_t_eq hr ht
    have e2 : w 9 (i + k + 1) 0 < nI 2 ↔ lg_k (w 9) (i + k + 1) < 2 := by
      rw [hr.1]
      exact nI_2k hr.2.1
    unfold kIsl
    show _ ↔ lg_ov _ _ (i + k + 1) ≤ i
    by_cases c : lg_t (w 9) (i + k + 1) = lg_t (w 9) i ∧ 2 ≤ lg_k (w 9) (i + k + 1)
    · rw [show lg_ov (w 9) (lg_t (w 9) i) (i + k + 1) = i + k + 1 from if_pos c, kb_0]
      · exact ⟨fun h => absurd rfl h, fun h => by omega⟩
      · rintro ⟨-, h | h⟩
        · exact h (e1.mpr c.1)
        · have := e2.mp h
          omega
    · rw [show lg_ov (w 9) (lg_t (w 9) i) (i + k + 1) = lg_ov (w 9) (lg_t (w 9) i) (i + k) from if_neg c, ← ih]
      have hc : w 9 (i + k + 1) 1 ≠ w 9 i 1 ∨ w 9 (i + k + 1) 0 < nI 2 := by
        by_cases q : lg_t (w 9) (i + k + 1) = lg_t (w 9) i
        · exact Or.inr (e2.mpr (by
            by_cases q2 : lg_k (w 9) (i + k + 1) < 2
            · exact q2
            · exact absurd ⟨q, by omega⟩ c))
        · exact Or.inl (fun h => q (e1.mp h))
      by_cases q : kIsl w i k ≠ 0
      · rw [kb_1 ⟨q, hc⟩]
        exact ⟨fun _ => q, fun _ => by decide⟩
      · rw [kb_0 (fun h => q h.1)]
        exact ⟨fun h => absurd rfl h, fun h => absurd h q⟩
theorem kNeed_n {w : kS} {z : Nat} (hV : lg_V (w 9) z) (hD : lg_D w z) (hA : ∀ t, t < 8 → lg_ov (w 9) t z < lg_lu (w 9) t z → w 16 t 0 ≠ 0) : ∀ t, t ≤ 8 → kNeed w z t = kct (fun t => w 16 t 0) t + lg_s (fun t => lg_n (w 9) t z) t
  | 0, _ => rfl
  | t + 1, ht => by
    unfold kNeed kct lg_s
    rw [kNeed_n hV hD hA t (by omega), kUof_eq (by omega) hV hD]
    by_cases c : w 16 t 0 = 0
    · have : lg_n (w 9) t z = 0 := by
        by_cases q : lg_n (w 9) t z = 0
        · exact q
        · exact absurd c (hA t (by omega) (lg_n_un (by omega)))
      rw [if_pos c, if_pos c, this]
      omega
    · rw [if_neg c, if_neg c]
      omega
theorem kss_n {f : Nat → Int32} {g : Nat → Nat} {x : Nat} : ∀ k, (∀ t, t < k → f t = nI (g t)) → kss (nI x) f k = nI (x + lg_s g k)
  | 0, _ => rfl
  | k + 1, h => by
    unfold kss lg_s
    rw [kss_n k (fun t a => h t (by omega)), h k (by omega), nI_add]
    congr 1
    omega
theorem lg_s_n (r : kRw) (z : Nat) : ∀ k, lg_s (fun t => lg_n r t z) k ≤ k * z
  | 0 => Nat.zero_le _
  | k + 1 => by
    have h1 := lg_s_n r z k
    have h2 : lg_n r k z ≤ z := lg_c_le z
    unfold lg_s
    rw [Nat.succ_mul]
    omega
theorem kRm_iff {u v : kS} {z fl x : Nat} (hL : kIL u v z fl) (hx : x ≤ 100) : kRm u x ↔ z + x + lg_s (fun t => lg_n (u 9) t z) 8 ≤ 400 := by
  have hz := kIL_z hL
  have h8 := lg_s_n (u 9) z 8
  unfold kRm
  rw [hL.1, nI_add, kss_n (g := fun t => lg_n (u 9) t z) 8 (fun t ht => (hL.2.2.2.2.1.1 t ht).2.2)]
  exact nI_leI (by omega) (by decide)
end KV
