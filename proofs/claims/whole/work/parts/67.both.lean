section KQ
/-- at the start both stand alike -/
theorem kI_0 {n : Nat} (h1 : 1 ≤ n) (h8 : n ≤ 8) : kI n 0 kU0 (kV0 n 8) := by
  refine ⟨⟨h1, h8⟩, fun F a b hs => ?_, ⟨fun f hf => Or.inl ⟨rfl, rfl, rfl, rfl, rfl⟩, fun f hf => ⟨0, Nat.le_refl _, rfl⟩, ⟨0, by omega, rfl⟩, rfl, fun f hf => ⟨rfl, rfl, rfl, rfl, rfl⟩⟩, 0, 0, ⟨rfl, rfl, Nat.le_refl _, fun i a b => by omega, ⟨fun t ht => ⟨rfl, rfl, rfl⟩, fun i a b => by omega⟩, fun i a b => by omega, fun k hk => ?_⟩, ?_, fun t ht h => ?_, fun t ht h => rfl⟩
  · unfold kV0 kU0
    by_cases c : F = 1 ∧ b = 0
    · rw [if_pos c, if_pos ⟨c.1, c.2, by omega⟩]
    · rw [if_neg c, if_neg (fun q => c ⟨q.1, q.2.1⟩), if_neg (fun q => by have := hs.1; omega)]
  · rw [show k = 0 by omega]
    exact Nat.zero_le _
  · exact Nat.zero_le _
  · exact absurd h (Nat.lt_irrefl _)
/-- what the reference's call must come to, where the class' helper answered k5 -/
def kRp (n N : Nat) (u9 : kS) (f9 : Nat → Int64) (k5 : Int32) (b : Option Value) (v9 : kS) : Prop := ∃ b0, b = some (.int b0) ∧ v9 20 0 0 = k5 ∧ (k5 = 0 → f9 0 = b0.toInt64) ∧ kI n (N + 1) u9 v9
def kRz (n N : Nat) (u9 : kS) (f9 : Nat → Int64) (k5 : Int32) (b : Option Value) (v9 : kS) : Prop := ∃ b0, b = some (.int b0) ∧ v9 20 0 0 = k5 ∧ (k5 = 0 → f9 0 = if b0 = 0 then 0 else 1) ∧ kI n (N + 1) u9 v9
theorem kRp_bad {n N : Nat} {u v u9 : kS} {f9 : Nat → Int64} {x : Int32} (hI : kI n N u v) (hu : u9 = u) (hx : x ≠ 0) {b : Option Value} {v9 : kS} (h : b = some (.int 0) ∧ v9 = ku v 20 0 0 x) : kRp n N u9 f9 x b v9 := by
  obtain ⟨rfl, rfl⟩ := h
  subst hu
  exact ⟨0, rfl, ku_s _ _ _ _ _, fun h => absurd h hx, kI_N (kI_20 hI) (by omega)⟩
theorem kRz_bad {n N : Nat} {u v u9 : kS} {f9 : Nat → Int64} {x : Int32} (hI : kI n N u v) (hu : u9 = u) (hx : x ≠ 0) {b : Option Value} {v9 : kS} (h : b = some (.int 0) ∧ v9 = ku v 20 0 0 x) : kRz n N u9 f9 x b v9 := by
  obtain ⟨rfl, rfl⟩ := h
  subst hu
  exact ⟨0, rfl, ku_s _ _ _ _ _, fun h => absurd h hx, kI_N (kI_20 hI) (by omega)⟩
theorem vInt {a b : Int32} (h : some (Value.int a) = some (Value.int b)) : a = b := by
  injection h with h
  injection h
theorem q_fetch (l : Launch) (hl : l.stackTraces = false) (D : va_G) (c : Nat → ClassId) (ad : Nat → Nat → Nat) (rd : Nat → Nat) (n o : Nat) (u v : kS) (f : Nat → Int64) (N : Nat) (hI : kI n N u v) (hN : N ≤ 1000) (x : Int32) : ∃ post, kl l yL_fetch (Cond.codeWith yL_fetch cL_fetch 4 (some .int) [(0, 9, 12, 13)]) 8 148 1 6 D (kty c) (kwo ad c n o u f) [.ref (ad 0 0), .int x, .ref o] (fun q : kS × (Nat → Int64) => kwo ad c n o q.1 q.2) post ∧ ∀ v9 q, post v9 q → ∃ k5, v9 = some (.int k5) ∧ kR l D c rd yX4_fetch (Cond.code yX4_fetch cX4_fetch 3 (some .int)) 3 67 v [.ref (rd 0), .int x] (kRp n N q.1 q.2 k5) := by
  have hF := hI.2.2.1
  have hfr := kIF_kFr hF
  have hh := hfr.h hI.1.2
  refine ⟨_, w_fetch l D c ad n o u f x (c_X3_fetch l hl D c ad n hI.1.2 u x (kNat (u 6 0 0)) (fun f => kNat (u 1 f 0)) hh.1 hh.2 hfr.q) ?_ (fun E h => h.1), ?_⟩
  · rintro v9 u9 ⟨q, -, -, ⟨-, rfl⟩ | ⟨g, u1, -, -, rfl, -⟩⟩
    · exact ⟨_, rfl⟩
    · exact ⟨_, rfl⟩
  · rintro v9 q9 (⟨a, rfl, ⟨q, hq, rfl, hc⟩, hf⟩ | ⟨E, ⟨rfl, hx⟩, hu, rfl⟩)
    · have hI2 := kI_20 (x := 0) hI
      have hE2 := hI2.2.1
      refine ⟨0, rfl, kc_mono (r_fetch_ok l D c rd n v _ rfl hI.1.2 hI2.2.2.1.2.2.2.1 q hq (kNat (u 6 0 0)) hh.1 ((hE2 6 0 0 (sh_6 0)).trans hh.2) (fun g hg h3 => ?_) (fun hm => kTurn_some hh.1 hm)) (fun b v1 hr => ?_)⟩
      · rw [hE2 1 g 0 (sh_1 0)]
        rw [hE2 3 g 0 (sh_3 0)] at h3
        exact hfr.2 g hg h3
      · have hc9 : (kBring u n q (u 15 0 0) (kNat (u 6 0 0)) (fun f => kNat (u 1 f 0)) (-1) q9.1 ∧ a = -2) ∨ (∃ f u1, f < n ∧ kBring u n q (u 15 0 0) (kNat (u 6 0 0)) (fun f => kNat (u 1 f 0)) (nI f) u1 ∧ a = nI f ∧ q9.1 = ku u1 2 f 0 (u1 2 f 0 + 1)) := by
          rcases hc with ⟨h1, h2⟩ | ⟨g, u1, h1, h2, h3, h4⟩
          · exact Or.inl ⟨h1, vInt h2⟩
          · exact Or.inr ⟨g, u1, h1, h2, vInt h3, h4⟩
        rcases hr with ⟨h1, rfl⟩ | ⟨g, u1, h1, h2, rfl, h4⟩
        · obtain ⟨g1, g2, g3⟩ := s_fetch hI2 hq hc9 (Or.inl ⟨h1, rfl⟩)
          exact ⟨_, rfl, g2.trans (ku_s _ _ _ _ _), fun _ => by rw [hf, g1], g3⟩
        · obtain ⟨g1, g2, g3⟩ := s_fetch hI2 hq hc9 (Or.inr ⟨g, u1, h1, h2, rfl, h4⟩)
          exact ⟨_, rfl, g2.trans (ku_s _ _ _ _ _), fun _ => by rw [hf, g1], g3⟩
    · exact ⟨_, rfl, kc_mono (r_fetch_bad l D c rd v x hx) (fun b v1 hr => by rw [kcode_A]; exact kRp_bad hI hu (by decide) hr)⟩
theorem q_release (l : Launch) (hl : l.stackTraces = false) (D : va_G) (c : Nat → ClassId) (ad : Nat → Nat → Nat) (rd : Nat → Nat) (n o : Nat) (u v : kS) (f : Nat → Int64) (N : Nat) (hI : kI n N u v) (hN : N ≤ 1000) (x : Int32) : ∃ post, kl l yL_release (Cond.codeWith yL_release cL_release 4 (some .int) [(0, 9, 12, 13), (0, 9, 15, 18)]) 8 126 2 12 D (kty c) (kwo ad c n o u f) [.ref (ad 0 0), .int x, .ref o] (fun q : kS × (Nat → Int64) => kwo ad c n o q.1 q.2) post ∧ ∀ v9 q, post v9 q → ∃ k5, v9 = some (.int k5) ∧ kR l D c rd yX4_release (Cond.code yX4_release cX4_release 3 (some .int)) 2 44 v [.ref (rd 0), .int x] (kRp n N q.1 q.2 k5) := by
  refine ⟨_, w_release l D c ad n o u f x (c_X3_release l hl D c ad n hI.1.2 u x) ?_ ?_, ?_⟩
  · rintro v9 u9 ⟨g, -, -, rfl, -⟩
    exact ⟨_, rfl⟩
  · rintro E (⟨rfl, -⟩ | ⟨rfl, -⟩)
    · exact Or.inl rfl
    · exact Or.inr rfl
  · rintro v9 q9 (⟨a, rfl, ⟨g, ⟨q, hq, rfl⟩, hp, ha, hu⟩, hf⟩ | ⟨E, ⟨rfl, hx⟩ | ⟨rfl, ⟨q, hq, rfl⟩, hx⟩, hu, rfl⟩)
    · have hI2 := kI_20 (x := 0) hI
      obtain ⟨g1, g2⟩ := s_release hI2 hN hq hp
      refine ⟨0, rfl, kc_mono (r_release_ok l D c rd n v _ rfl hI.1.2 hI.2.2.1.2.2.2.1 q hq g ((kPin_R hI hN).mp hp)) (fun b v1 hr => ?_)⟩
      obtain ⟨rfl, rfl⟩ := hr
      refine ⟨_, rfl, by rw [ku_F (by decide), ku_s], fun _ => by rw [hf, vInt ha, g1], ?_⟩
      rw [hu]
      exact g2
    · exact ⟨_, rfl, kc_mono (r_release_bad l D c rd v x hx) (fun b v1 hr => by rw [kcode_A]; exact kRp_bad hI hu (by decide) hr)⟩
    · exact ⟨_, rfl, kc_mono (r_release_bad2 l D c rd n v hI.1.2 hI.2.2.1.2.2.2.1 q hq (fun ⟨g, h⟩ => hx ⟨g, (kPin_R hI hN).mpr h⟩)) (fun b v1 hr => by rw [kcode_S]; exact kRp_bad hI hu (by decide) hr)⟩
theorem q_get (l : Launch) (hl : l.stackTraces = false) (D : va_G) (c : Nat → ClassId) (ad : Nat → Nat → Nat) (rd : Nat → Nat) (n o : Nat) (u v : kS) (f : Nat → Int64) (N : Nat) (hI : kI n N u v) (hN : N ≤ 1000) (x y : Int32) : ∃ post, kl l yL_get (Cond.codeWith yL_get cL_get 5 (some .int) [(0, 10, 13, 13), (0, 10, 17, 18)]) 8 126 3 18 D (kty c) (kwo ad c n o u f) [.ref (ad 0 0), .int x, .int y, .ref o] (fun q : kS × (Nat → Int64) => kwo ad c n o q.1 q.2) post ∧ ∀ v9 q, post v9 q → ∃ k5, v9 = some (.int k5) ∧ kR l D c rd yX4_get (Cond.code yX4_get cX4_get 4 (some .int)) 2 44 v [.ref (rd 0), .int x, .int y] (kRp n N q.1 q.2 k5) := by
  refine ⟨_, w_get l D c ad n o u f x y (c_X3_get l hl D c ad n hI.1.2 u x y) ?_ ?_, ?_⟩
  · rintro v9 u9 ⟨⟨g, k, -, -, -, -, rfl⟩, -⟩
    exact ⟨_, rfl⟩
  · rintro E (⟨rfl, -⟩ | ⟨rfl, -⟩)
    · exact Or.inl rfl
    · exact Or.inr rfl
  · rintro v9 q9 (⟨a, rfl, ⟨⟨g, k, ⟨q, hq, rfl⟩, hp, hk, rfl, ha⟩, hu⟩, hf⟩ | ⟨E, ⟨rfl, hx⟩ | ⟨rfl, ⟨q, hq, rfl⟩, ⟨k, hk, rfl⟩, hx⟩, hu, rfl⟩)
    · have hI2 := kI_20 (x := 0) hI
      have g1 := s_get hI2 hq hk hp
      refine ⟨0, rfl, kc_mono (r_get_ok l D c rd n v _ rfl hI.1.2 hI.2.2.1.2.2.2.1 q hq k hk g ((kPin_R hI hN).mp hp)) (fun b v1 hr => ?_)⟩
      obtain ⟨rfl, rfl⟩ := hr
      refine ⟨_, rfl, by rw [ku_s], fun _ => by rw [hf, vInt ha, g1], ?_⟩
      rw [hu]
      exact kI_N hI2 (by omega)
    · exact ⟨_, rfl, kc_mono (r_get_bad l D c rd v x y hx) (fun b v1 hr => by rw [kcode_A]; exact kRp_bad hI hu (by decide) hr)⟩
    · exact ⟨_, rfl, kc_mono (r_get_bad2 l D c rd n v hI.1.2 hI.2.2.1.2.2.2.1 q hq k hk (fun ⟨g, h⟩ => hx ⟨g, (kPin_R hI hN).mpr h⟩)) (fun b v1 hr => by rw [kcode_S]; exact kRp_bad hI hu (by decide) hr)⟩
theorem q_flush (l : Launch) (hl : l.stackTraces = false) (D : va_G) (c : Nat → ClassId) (ad : Nat → Nat → Nat) (rd : Nat → Nat) (n o : Nat) (u v : kS) (f : Nat → Int64) (N : Nat) (hI : kI n N u v) (hN : N ≤ 1000) (x : Int32) : ∃ post, kl l yL_flush (Cond.codeWith yL_flush cL_flush 4 (some .int) [(0, 9, 12, 13)]) 7 103 1 6 D (kty c) (kwo ad c n o u f) [.ref (ad 0 0), .int x, .ref o] (fun q : kS × (Nat → Int64) => kwo ad c n o q.1 q.2) post ∧ ∀ v9 q, post v9 q → ∃ k5, v9 = some (.int k5) ∧ kR l D c rd yX4_flush (Cond.code yX4_flush cX4_flush 3 (some .int)) 1 21 v [.ref (rd 0), .int x] (kRp n N q.1 q.2 k5) := by
  refine ⟨_, w_flush l D c ad n o u f x (c_X3_flush l hl D c ad n u x) ?_ (fun E h => h.1), ?_⟩
  · rintro v9 u9 ⟨⟨-, rfl⟩, -⟩
    exact ⟨_, rfl⟩
  · rintro v9 q9 (⟨a, rfl, ⟨⟨hx, ha⟩, hu⟩, hf⟩ | ⟨E, ⟨rfl, hx⟩, hu, rfl⟩)
    · have hI2 := kI_20 (x := 0) hI
      obtain ⟨g1, g2, g3⟩ := s_flush hI2 hx
      refine ⟨0, rfl, kc_mono (r_flush_ok l D c rd v _ rfl x hx) (fun b v1 hr => ?_)⟩
      obtain ⟨rfl, rfl⟩ := hr
      refine ⟨_, rfl, g2.trans (ku_s _ _ _ _ _), fun _ => by rw [hf, vInt ha, g1], ?_⟩
      rw [hu]
      exact g3
    · exact ⟨_, rfl, kc_mono (r_flush_bad l D c rd v x hx) (fun b v1 hr => by rw [kcode_A]; exact kRp_bad hI hu (by decide) hr)⟩
theorem q_clean (l : Launch) (hl : l.stackTraces = false) (D : va_G) (c : Nat → ClassId) (ad : Nat → Nat → Nat) (rd : Nat → Nat) (n o : Nat) (u v : kS) (f : Nat → Int64) (N : Nat) (hI : kI n N u v) (hN : N ≤ 1000) (x : Int32) : ∃ post, kl l yL_clean (Cond.codeWith yL_clean cL_clean 4 (some .int) [(0, 16, 19, 13)]) 8 126 1 6 D (kty c) (kwo ad c n o u f) [.ref (ad 0 0), .int x, .ref o] (fun q : kS × (Nat → Int64) => kwo ad c n o q.1 q.2) post ∧ ∀ v9 q, post v9 q → ∃ k5, v9 = some (.int k5) ∧ kR l D c rd yX4_clean (Cond.code yX4_clean cX4_clean 3 (some .boolean)) 1 22 v [.ref (rd 0), .int x] (kRz n N q.1 q.2 k5) := by
  refine ⟨_, w_clean l D c ad n o u f x (c_X3_clean l hl D c ad n hI.1.2 u x (fun _ _ _ _ _ => trivial)) ?_ (fun E h => h.1), ?_⟩
  · rintro v9 u9 ⟨q, -, -, ⟨g, -, -, -, -, -, rfl, -⟩ | ⟨-, rfl, -⟩⟩
    · exact ⟨_, rfl⟩
    · exact ⟨_, rfl⟩
  · rintro v9 q9 (⟨a, rfl, ⟨q, hq, rfl, hc⟩, hf⟩ | ⟨E, ⟨rfl, hx⟩, hu, rfl⟩)
    · have hI2 := kI_20 (x := 0) hI
      refine ⟨0, rfl, kc_mono (r_clean_ok l D c rd n v _ rfl hI.1.2 hI2.2.2.1.2.2.2.1 q hq) (fun b v1 hr => ?_)⟩
      have hc9 : (∃ f, f < n ∧ u 1 f 0 = nI q ∧ (∀ j, j < f → u 1 j 0 ≠ nI q) ∧ u 3 f 0 ≠ 0 ∧ u 5 f 8 ≤ u 15 0 0 ∧ a = 1 ∧ q9.1 = kBack u f q) ∨ ((∀ f, f < n → u 1 f 0 = nI q → (∀ j, j < f → u 1 j 0 ≠ nI q) → ¬ (u 3 f 0 ≠ 0 ∧ u 5 f 8 ≤ u 15 0 0)) ∧ a = 0 ∧ q9.1 = u) := by
        rcases hc with ⟨g, h1, h2, h3, h4, h5, h6, h7⟩ | ⟨h1, h2, h3⟩
        · exact Or.inl ⟨g, h1, h2, h3, h4, h5, vInt h6, h7⟩
        · exact Or.inr ⟨h1, vInt h2, h3⟩
      rcases hr with ⟨g, h1, h2, h3, h4, h5, rfl, h7⟩ | ⟨h1, rfl, h3⟩
      · obtain ⟨g1, g2, g3⟩ := s_clean hI2 hq hc9 (Or.inl ⟨g, h1, h2, h3, h4, h5, rfl, h7⟩)
        exact ⟨_, rfl, g2.trans (ku_s _ _ _ _ _), fun _ => by rw [hf, ← g1], g3⟩
      · obtain ⟨g1, g2, g3⟩ := s_clean hI2 hq hc9 (Or.inr ⟨h1, rfl, h3⟩)
        exact ⟨_, rfl, g2.trans (ku_s _ _ _ _ _), fun _ => by rw [hf, ← g1], g3⟩
    · exact ⟨_, rfl, kc_mono (r_clean_bad l D c rd v x hx) (fun b v1 hr => by rw [kcode_A]; exact kRz_bad hI hu (by decide) hr)⟩
theorem q_disk (l : Launch) (hl : l.stackTraces = false) (D : va_G) (c : Nat → ClassId) (ad : Nat → Nat → Nat) (rd : Nat → Nat) (n o : Nat) (u v : kS) (f : Nat → Int64) (N : Nat) (hI : kI n N u v) (hN : N ≤ 1000) (x y : Int32) : ∃ post, kl l yL_disk (Cond.codeWith yL_disk cL_disk 5 (some .int) [(0, 10, 13, 13)]) 8 125 2 12 D (kty c) (kwo ad c n o u f) [.ref (ad 0 0), .int x, .int y, .ref o] (fun q : kS × (Nat → Int64) => kwo ad c n o q.1 q.2) post ∧ ∀ v9 q, post v9 q → ∃ k5, v9 = some (.int k5) ∧ kR l D c rd yX4_disk (Cond.code yX4_disk cX4_disk 3 (some .int)) 1 22 v [.ref (rd 0), .int x, .int y] (kRp n N q.1 q.2 k5) := by
  refine ⟨_, w_disk l D c ad n o u f x y (c_X3_disk l hl D c ad n u x y) ?_ (fun E h => h.1), ?_⟩
  · rintro v9 u9 ⟨⟨q, k, -, -, -, -, rfl⟩, -⟩
    exact ⟨_, rfl⟩
  · rintro v9 q9 (⟨a, rfl, ⟨⟨q, k, hq, rfl, hk, rfl, ha⟩, hu⟩, hf⟩ | ⟨E, ⟨rfl, hx⟩, hu, rfl⟩)
    · have hI2 := kI_20 (x := 0) hI
      refine ⟨0, rfl, kc_mono (r_disk_ok l D c rd v _ rfl q hq k hk) (fun b v1 hr => ?_)⟩
      obtain ⟨rfl, rfl⟩ := hr
      refine ⟨_, rfl, by rw [ku_s], fun _ => by rw [hf, vInt ha, hI2.2.1 0 q k (sh_0 k)], ?_⟩
      rw [hu]
      exact kI_N hI2 (by omega)
    · exact ⟨_, rfl, kc_mono (r_disk_bad l D c rd v x y hx) (fun b v1 hr => by rw [kcode_A]; exact kRp_bad hI hu (by decide) hr)⟩
theorem q_frame (l : Launch) (hl : l.stackTraces = false) (D : va_G) (c : Nat → ClassId) (ad : Nat → Nat → Nat) (rd : Nat → Nat) (n o : Nat) (u v : kS) (f : Nat → Int64) (N : Nat) (hI : kI n N u v) (hN : N ≤ 1000) (x y : Int32) : ∃ post, kl l yL_frame (Cond.codeWith yL_frame cL_frame 5 (some .int) [(0, 10, 13, 13)]) 8 126 2 12 D (kty c) (kwo ad c n o u f) [.ref (ad 0 0), .int x, .int y, .ref o] (fun q : kS × (Nat → Int64) => kwo ad c n o q.1 q.2) post ∧ ∀ v9 q, post v9 q → ∃ k5, v9 = some (.int k5) ∧ kR l D c rd yX4_frame (Cond.code yX4_frame cX4_frame 4 (some .int)) 1 22 v [.ref (rd 0), .int x, .int y] (kRp n N q.1 q.2 k5) := by
  refine ⟨_, w_frame l D c ad n o u f x y (c_X3_frame l hl D c ad n hI.1.2 u x y) ?_ (fun E h => h.1), ?_⟩
  · rintro v9 u9 ⟨⟨q, k, -, -, -, -, rfl⟩, -⟩
    exact ⟨_, rfl⟩
  · rintro v9 q9 (⟨a, rfl, ⟨⟨g, j, hg, rfl, hj, rfl, ha⟩, hu⟩, hf⟩ | ⟨E, ⟨rfl, hx⟩, hu, rfl⟩)
    · have hI2 := kI_20 (x := 0) hI
      refine ⟨0, rfl, kc_mono (r_frame_ok l D c rd n v _ rfl hI.1.2 hI.2.2.1.2.2.2.1 g hg j hj) (fun b v1 hr => ?_)⟩
      obtain ⟨rfl, rfl⟩ := hr
      refine ⟨_, rfl, by rw [ku_s], fun _ => by rw [hf, vInt ha, s_frame hI2 hg hj], ?_⟩
      rw [hu]
      exact kI_N hI2 (by omega)
    · exact ⟨_, rfl, kc_mono (r_frame_bad l D c rd n v hI.1.2 hI.2.2.1.2.2.2.1 hI.1.1 x y hx) (fun b v1 hr => by rw [kcode_A]; exact kRp_bad hI hu (by decide) hr)⟩
theorem q_log (l : Launch) (hl : l.stackTraces = false) (D : va_G) (c : Nat → ClassId) (ad : Nat → Nat → Nat) (rd : Nat → Nat) (n o : Nat) (u v : kS) (f : Nat → Int64) (N : Nat) (hI : kI n N u v) (hN : N ≤ 1000) (x y : Int32) : ∃ post, kl l yL_log (Cond.codeWith yL_log cL_log 5 (some .int) [(0, 10, 13, 13)]) 8 125 2 12 D (kty c) (kwo ad c n o u f) [.ref (ad 0 0), .int x, .int y, .ref o] (fun q : kS × (Nat → Int64) => kwo ad c n o q.1 q.2) post ∧ ∀ v9 q, post v9 q → ∃ k5, v9 = some (.int k5) ∧ kR l D c rd yX4_log (Cond.code yX4_log cX4_log 3 (some .int)) 1 22 v [.ref (rd 0), .int x, .int y] (kRp n N q.1 q.2 k5) := by
  obtain ⟨z, fl, hL, hA⟩ := hI.2.2.2
  have hz := kIL_z hL
  have hz9 : v 14 0 0 = nI z := (hI.2.1 14 0 0 (sh_14 0)).trans hL.1
  refine ⟨_, w_log l D c ad n o u f x y (c_X3_log l hl D c ad n u x y z hL.1 (by omega)) ?_ (fun E h => h.1), ?_⟩
  · rintro v9 u9 ⟨⟨q, k, -, -, -, -, -, rfl⟩, -⟩
    exact ⟨_, rfl⟩
  · rintro v9 q9 (⟨a, rfl, ⟨⟨i, k, hi1, hi2, rfl, hk, rfl, ha⟩, hu⟩, hf⟩ | ⟨E, ⟨rfl, hx⟩, hu, rfl⟩)
    · have hI2 := kI_20 (x := 0) hI
      refine ⟨0, rfl, kc_mono (r_log_ok l D c rd v _ rfl z hz9 (by omega) i hi1 hi2 k hk) (fun b v1 hr => ?_)⟩
      obtain ⟨rfl, rfl⟩ := hr
      refine ⟨_, rfl, by rw [ku_s], fun _ => by rw [hf, vInt ha, hI2.2.1 9 i k (sh_9 k)], ?_⟩
      rw [hu]
      exact kI_N hI2 (by omega)
    · exact ⟨_, rfl, kc_mono (r_log_bad l D c rd v x y z hz9 (by omega) hx) (fun b v1 hr => by rw [kcode_A]; exact kRp_bad hI hu (by decide) hr)⟩
theorem q_count (l : Launch) (hl : l.stackTraces = false) (D : va_G) (c : Nat → ClassId) (ad : Nat → Nat → Nat) (rd : Nat → Nat) (n o : Nat) (u v : kS) (f : Nat → Int64) (N : Nat) (hI : kI n N u v) (hN : N ≤ 1000) (x : Int32) : ∃ post, kl l yL_count (Cond.codeWith yL_count cL_count 4 (some .int) [(0, 9, 12, 13)]) 7 103 1 6 D (kty c) (kwo ad c n o u f) [.ref (ad 0 0), .int x, .ref o] (fun q : kS × (Nat → Int64) => kwo ad c n o q.1 q.2) post ∧ ∀ v9 q, post v9 q → ∃ k5, v9 = some (.int k5) ∧ kR l D c rd yX4_count (Cond.code yX4_count cX4_count 4 (some .int)) 1 22 v [.ref (rd 0), .int x] (kRp n N q.1 q.2 k5) := by
  refine ⟨_, w_count l D c ad n o u f x (c_X3_count l hl D c ad n u x) ?_ (fun E h => h.1), ?_⟩
  · rintro v9 u9 ⟨⟨j, -, -, rfl⟩, -⟩
    exact ⟨_, rfl⟩
  · rintro v9 q9 (⟨a, rfl, ⟨⟨j, hj, rfl, ha⟩, hu⟩, hf⟩ | ⟨E, ⟨rfl, hx⟩, hu, rfl⟩)
    · have hI2 := kI_20 (x := 0) hI
      refine ⟨0, rfl, kc_mono (r_count_ok l D c rd v _ rfl j hj) (fun b v1 hr => ?_)⟩
      obtain ⟨rfl, rfl⟩ := hr
      refine ⟨_, rfl, by rw [ku_s], fun _ => by rw [hf, vInt ha, s_count hI2 hj], ?_⟩
      rw [hu]
      exact kI_N hI2 (by omega)
    · exact ⟨_, rfl, kc_mono (r_count_bad l D c rd v x hx) (fun b v1 hr => by rw [kcode_A]; exact kRp_bad hI hu (by decide) hr)⟩
theorem q_set (l : Launch) (hl : l.stackTraces = false) (D : va_G) (c : Nat → ClassId) (ad : Nat → Nat → Nat) (rd : Nat → Nat) (n o : Nat) (u v : kS) (f : Nat → Int64) (N : Nat) (hI : kI n N u v) (hN : N ≤ 1000) (a0 x y val : Int32) : ∃ post, kl l yL_set (Cond.codeWith yL_set cL_set 7 (some .int) [(0, 14, 17, 13), (0, 14, 21, 18)]) 9 150 6 36 D (kty c) (kwo ad c n o u f) [.ref (ad 0 0), .int a0, .int x, .int y, .int val, .ref o] (fun q : kS × (Nat → Int64) => kwo ad c n o q.1 q.2) post ∧ ∀ v9 q, post v9 q → ∃ k5, v9 = some (.int k5) ∧ kR l D c rd yX4_set (Cond.code yX4_set cX4_set 8 (some .int)) 2 45 v [.ref (rd 0), .int a0, .int x, .int y, .int val] (kRp n N q.1 q.2 k5) := by
  obtain ⟨z, fl, hL, hA⟩ := hI.2.2.2
  have hz := kIL_z hL
  have hI2 := kI_20 (x := 0) hI
  have hz9 : ku v 20 0 0 0 14 0 0 = nI z := (hI2.2.1 14 0 0 (sh_14 0)).trans hL.1
  have hk8 := kct_le (fun t => u 16 t 0) 8
  have h16 : ∀ t, v 16 t 0 = u 16 t 0 := fun t => hI.2.1 16 t 0 (sh_16 0)
  have h17 : ∀ t, v 17 t 0 = u 17 t 0 := fun t => hI.2.1 17 t 0 (sh_17 0)
  have hrm : kRm u (3 + kct (fun t => u 16 t 0) 8) ↔ z + 1 + kNeed (ku v 20 0 0 0) z 8 + 1 + 1 ≤ 400 := by
    obtain ⟨z9, fl9, hL9, hA9⟩ := hI2.2.2.2
    have ez : z9 = z := (nI_eq (by have := kIL_z hL9; omega) (by omega)).mp (hL9.1.symm.trans hL.1)
    subst ez
    rw [kRm_iff hL (by omega), kNeed_I hI2.2.1 hL9 hA9]
    omega
  refine ⟨_, w_set l D c ad n o u f a0 x y val (c_X3_set l hl D c ad n hI.1.2 u a0 x y val z hL.1 (fun _ => by omega)) ?_ ?_, ?_⟩
  · rintro v9 u9 ⟨t, q, k, g, -, -, -, -, -, -, -, -, -, ⟨-, rfl, -⟩ | ⟨-, rfl, -⟩⟩
    · exact ⟨_, rfl⟩
    · exact ⟨_, rfl⟩
  · rintro E (⟨rfl, -⟩ | ⟨rfl, -⟩)
    · exact Or.inl rfl
    · exact Or.inr rfl
  · rintro v9 q9 (⟨a, rfl, ⟨t, q, k, g, ht, rfl, hq, rfl, hk, rfl, hb1, hb2, hp, hc⟩, hf⟩ | ⟨E, ⟨rfl, hx⟩ | ⟨rfl, t, ht, rfl, ⟨q, hq, rfl⟩, ⟨k, hk, rfl⟩, hx⟩, hu, rfl⟩)
    · rcases hc with ⟨c1, c2, c3⟩ | ⟨c1, c2, c3⟩
      · refine ⟨0, rfl, kc_mono (r_set_full l D c rd n v _ rfl hI.1.2 hI.2.2.1.2.2.2.1 val t ht q hq k hk z hz9 (by omega) (by rw [h16]; exact hb1) (by rw [h17]; exact hb2) g ((kPin_R hI hN).mp hp) (fun h => c1 (hrm.mpr h))) (fun b v1 hr => ?_)⟩
        obtain ⟨rfl, rfl⟩ := hr
        refine ⟨_, rfl, by rw [ku_s], fun _ => by rw [hf, vInt c2], ?_⟩
        rw [c3]
        exact kI_N hI2 (by omega)
      · obtain ⟨g1, g2⟩ := s_set (x := val) hI2 hL.1 (by omega) ht hq hk hb1 hp c1
        refine ⟨0, rfl, kc_mono (r_set_ok l D c rd n v _ rfl hI.1.2 hI.2.2.1.2.2.2.1 val t ht q hq k hk z hz9 (by omega) (by rw [h16]; exact hb1) (by rw [h17]; exact hb2) g ((kPin_R hI hN).mp hp) (hrm.mp c1)) (fun b v1 hr => ?_)⟩
        obtain ⟨rfl, rfl⟩ := hr
        refine ⟨_, rfl, g1.trans (ku_s _ _ _ _ _), fun _ => by rw [hf, vInt c2], ?_⟩
        rw [c3]
        exact g2
    · exact ⟨_, rfl, kc_mono (r_set_bad l D c rd v a0 x y val hx) (fun b v1 hr => by rw [kcode_A]; exact kRp_bad hI hu (by decide) hr)⟩
    · exact ⟨_, rfl, kc_mono (r_set_bad2 l D c rd n v hI.1.2 hI.2.2.1.2.2.2.1 val t ht q hq k hk (fun h => hx ⟨by rw [← h16]; exact h.1, by rw [← h17]; exact h.2.1, by obtain ⟨g, h9⟩ := h.2.2; exact ⟨g, (kPin_R hI hN).mpr h9⟩⟩)) (fun b v1 hr => by rw [kcode_S]; exact kRp_bad hI hu (by decide) hr)⟩
theorem q_commit (l : Launch) (hl : l.stackTraces = false) (D : va_G) (c : Nat → ClassId) (ad : Nat → Nat → Nat) (rd : Nat → Nat) (n o : Nat) (u v : kS) (f : Nat → Int64) (N : Nat) (hI : kI n N u v) (hN : N ≤ 1000) (a0 : Int32) : ∃ post, kl l yL_commit (Cond.codeWith yL_commit cL_commit 4 (some .int) [(0, 9, 12, 13), (0, 9, 15, 18)]) 9 146 3 18 D (kty c) (kwo ad c n o u f) [.ref (ad 0 0), .int a0, .ref o] (fun q : kS × (Nat → Int64) => kwo ad c n o q.1 q.2) post ∧ ∀ v9 q, post v9 q → ∃ k5, v9 = some (.int k5) ∧ kR l D c rd yX4_commit (Cond.code yX4_commit cX4_commit 2 (some .int)) 1 22 v [.ref (rd 0), .int a0] (kRp n N q.1 q.2 k5) := by
  obtain ⟨z, fl, hL, hA⟩ := hI.2.2.2
  have hz := kIL_z hL
  have hI2 := kI_20 (x := 0) hI
  have hz9 : ku v 20 0 0 0 14 0 0 = nI z := (hI2.2.1 14 0 0 (sh_14 0)).trans hL.1
  have h16 : ∀ t, v 16 t 0 = u 16 t 0 := fun t => hI.2.1 16 t 0 (sh_16 0)
  have h17 : ∀ t, v 17 t 0 = u 17 t 0 := fun t => hI.2.1 17 t 0 (sh_17 0)
  refine ⟨_, w_commit l D c ad n o u f a0 (c_X3_commit l hl D c ad n u a0 z hL.1 (fun _ _ _ => by omega)) ?_ ?_, ?_⟩
  · rintro v9 u9 ⟨t, -, -, -, -, rfl, -⟩
    exact ⟨_, rfl⟩
  · rintro E (⟨rfl, -⟩ | ⟨rfl, -⟩)
    · exact Or.inl rfl
    · exact Or.inr rfl
  · rintro v9 q9 (⟨a, rfl, ⟨t, ht, rfl, hb1, hb2, ha, hu⟩, hf⟩ | ⟨E, ⟨rfl, hx⟩ | ⟨rfl, t, ht, rfl, hx⟩, hu, rfl⟩)
    · obtain ⟨g1, g2⟩ := s_commit hI2 hL.1 (by omega) ht hb1 hb2
      refine ⟨0, rfl, kc_mono (r_commit_ok l D c rd v _ rfl t ht (by rw [h16]; exact hb1) (by rw [h17]; exact hb2) z hz9 (by omega)) (fun b v1 hr => ?_)⟩
      obtain ⟨rfl, rfl⟩ := hr
      refine ⟨_, rfl, g1.trans (ku_s _ _ _ _ _), fun _ => by rw [hf, vInt ha], ?_⟩
      rw [hu]
      exact g2
    · exact ⟨_, rfl, kc_mono (r_commit_bad l D c rd v a0 hx) (fun b v1 hr => by rw [kcode_A]; exact kRp_bad hI hu (by decide) hr)⟩
    · exact ⟨_, rfl, kc_mono (r_commit_bad2 l D c rd v t ht (fun h => hx ⟨by rw [← h16]; exact h.1, by rw [← h17]; exact h.2⟩)) (fun b v1 hr => by rw [kcode_S]; exact kRp_bad hI hu (by decide) hr)⟩
theorem q_abort (l : Launch) (hl : l.stackTraces = false) (D : va_G) (c : Nat → ClassId) (ad : Nat → Nat → Nat) (rd : Nat → Nat) (n o : Nat) (u v : kS) (f : Nat → Int64) (N : Nat) (hI : kI n N u v) (hN : N ≤ 1000) (a0 : Int32) : ∃ post, kl l yL_abort (Cond.codeWith yL_abort cL_abort 4 (some .int) [(0, 9, 12, 13), (0, 9, 15, 18)]) 8 174 2 12 D (kty c) (kwo ad c n o u f) [.ref (ad 0 0), .int a0, .ref o] (fun q : kS × (Nat → Int64) => kwo ad c n o q.1 q.2) post ∧ ∀ v9 q, post v9 q → ∃ k5, v9 = some (.int k5) ∧ kR l D c rd yX4_abort (Cond.code yX4_abort cX4_abort 6 (some .int)) 3 67 v [.ref (rd 0), .int a0] (kRp n N q.1 q.2 k5) := by
  obtain ⟨z, fl, hL, hA⟩ := hI.2.2.2
  have hz := kIL_z hL
  have hI2 := kI_20 (x := 0) hI
  have h16 : ∀ t, v 16 t 0 = u 16 t 0 := fun t => hI.2.1 16 t 0 (sh_16 0)
  refine ⟨_, w_abort l D c ad n o u f a0 (c_X3_abort l hl D c ad n hI.1.2 u a0 z (fun t i w => ∃ w9, kJ n N t i w w9) hL.1 (by omega) (fun t ht _ ha => ⟨kAbI_J hI.1.2 ht, _, (s_abort hI2 (ku_s _ _ _ _ _) ht ha hL.1 (by omega)).1⟩)) ?_ ?_, ?_⟩
  · rintro v9 u9 ⟨t, -, -, -, ⟨-, rfl, -⟩ | ⟨d, -, rfl, -⟩⟩
    · exact ⟨_, rfl⟩
    · exact ⟨_, rfl⟩
  · rintro E (⟨rfl, -⟩ | ⟨rfl, -⟩)
    · exact Or.inl rfl
    · exact Or.inr rfl
  · rintro v9 q9 (⟨a, rfl, ⟨t, ht, rfl, ha, hc⟩, hf⟩ | ⟨E, ⟨rfl, hx⟩ | ⟨rfl, t, ht, rfl, hx⟩, hu, rfl⟩)
    · obtain ⟨-, g2, g3⟩ := s_abort hI2 (ku_s _ _ _ _ _) ht ha hL.1 (by omega)
      refine ⟨0, rfl, kc_mono (r_abort_ok l D c rd n v _ rfl hI.1.2 t ht (by rw [h16]; exact ha) _ (kAbJ_J hI.1.2 ht) z g2) (fun b v1 hr => ?_)⟩
      obtain ⟨e1, e2, e3⟩ := g3 b (some (.int a)) v1 q9.1 hr hc
      exact ⟨a, e1, e2, fun _ => hf, e3⟩
    · exact ⟨_, rfl, kc_mono (r_abort_bad l D c rd v a0 hx) (fun b v1 hr => by rw [kcode_A]; exact kRp_bad hI hu (by decide) hr)⟩
    · exact ⟨_, rfl, kc_mono (r_abort_bad2 l D c rd v t ht (by rw [h16]; exact hx)) (fun b v1 hr => by rw [kcode_S]; exact kRp_bad hI hu (by decide) hr)⟩
theorem q_begin (l : Launch) (D : va_G) (c : Nat → ClassId) (ad : Nat → Nat → Nat) (rd : Nat → Nat) (n : Nat) (u v : kS) (N : Nat) (hI : kI n N u v) : kC l D c ad n yX3_begin (Cond.code yX3_begin cX3_begin 2 (some .int)) 1 23 u [.ref (ad 0 0)] (fun v9 u9 => ∃ r, v9 = some (.int r) ∧ kR l D c rd yX4_begin (Cond.code yX4_begin cX4_begin 2 (some .int)) 2 45 v [.ref (rd 0)] (fun b v1 => b = some (.int r) ∧ kI n (N + 1) u9 v1)) := by
  obtain ⟨z, fl, hL, hA⟩ := hI.2.2.2
  have hz := kIL_z hL
  have hI2 := kI_20 (x := 0) hI
  have hz9 : ku v 20 0 0 0 14 0 0 = nI z := (hI2.2.1 14 0 0 (sh_14 0)).trans hL.1
  refine kc_mono (c_X3_begin l D c ad n u) (fun v9 u9 h => ?_)
  obtain ⟨r, rfl, hb⟩ := h
  refine ⟨r, rfl, kc_mono (r_begin l D c rd v _ rfl z hz9 (by omega)) (fun b v1 hr => ?_)⟩
  obtain ⟨g1, -, g3⟩ := s_begin hI2 hL.1 (by omega) hb hr
  exact ⟨g1, g3⟩
theorem q_crash (l : Launch) (D : va_G) (c : Nat → ClassId) (ad : Nat → Nat → Nat) (rd : Nat → Nat) (n : Nat) (u v : kS) (N : Nat) (hI : kI n N u v) : kC l D c ad n yX3_crash (Cond.code yX3_crash cX3_crash 2 (some .int)) 5 118 u [.ref (ad 0 0)] (fun v9 u9 => ∃ r, v9 = some (.int r) ∧ kR l D c rd yX4_crash (Cond.code yX4_crash cX4_crash 5 (some .int)) 2 45 v [.ref (rd 0)] (fun b v1 => b = some (.int r) ∧ kI n (N + 1) u9 v1)) := by
  have hI2 := kI_20 (x := 0) hI
  obtain ⟨z, fl, T, Wd, Pg, Nb, ⟨h1, h2, h3, h4⟩, ⟨e14, e15⟩, c1, c2, c3, c4, c5, c6, r1, r2, r3, r4, r5, k1, k2⟩ := s_crash hI2
  refine kc_mono (c_X3_crash l D c ad n hI.1.2 u fl T Wd Pg Nb h3 (by omega) c1 c2 c3 c4 c5 (fun t ht _ => c6 t ht)) (fun v9 u9 h => ?_)
  obtain ⟨rfl, rfl⟩ := h
  refine ⟨_, rfl, kc_mono (r_crash l D c rd v _ rfl fl z T Pg Nb (e14.trans h1) h2 (e15.trans h3) h4 r1 r2 r3 r4 (fun t ht _ => r5 t ht)) (fun b v1 hr => ?_)⟩
  obtain ⟨rfl, rfl⟩ := hr
  rw [e14, e15]
  exact ⟨rfl, k2⟩
end KQ
