section KB
theorem kTurn_E {n : Nat} {fl : Int32} : ∀ (k : Nat) (u v : kS) (h : Nat), kE u v → (kTurn n fl k v h).2 = (kTurn n fl k u h).2 ∧ kE (kTurn n fl k u h).1 (kTurn n fl k v h).1
  | 0, u, v, h, hE => ⟨rfl, hE⟩
  | k + 1, u, v, h, hE => by
    have e2 := hE 2 h 0 (sh_2 0)
    have e3 := hE 3 h 0 (sh_3 0)
    have e4 := hE 4 h 0 (sh_4 0)
    have e5 := hE 5 h 8 sh_5
    rw [kTurn_s, kTurn_s]
    unfold kMay
    rw [e2, e3, e4, e5]
    split
    · split
      · exact ⟨rfl, kE_ku hE 6 0 0 _⟩
      · exact kTurn_E k _ _ _ (kE_ku (kE_ku hE 6 0 0 _) 4 h 0 0)
    · exact kTurn_E k _ _ _ (kE_ku hE 6 0 0 _)
theorem kTurn_hand {n : Nat} {fl : Int32} : ∀ (k : Nat) (u : kS) (h : Nat), h < n → u 6 0 0 = nI h → ∃ g, g < n ∧ (kTurn n fl k u h).1 6 0 0 = nI g
  | 0, u, h, hh, e => ⟨h, hh, e⟩
  | k + 1, u, h, hh, e => by
    have h9 : (if h + 1 < n then h + 1 else 0) < n := by split <;> omega
    rw [kTurn_s]
    split
    · split
      · exact ⟨_, h9, by dsimp only; exact ku_s _ _ _ _ _⟩
      · exact kTurn_hand k _ _ h9 (by rw [ku_F (by decide), ku_s])
    · exact kTurn_hand k _ _ h9 (ku_s _ _ _ _ _)
theorem kTurn_may {n : Nat} {fl : Int32} : ∀ (k : Nat) (u : kS) (h f : Nat), (kTurn n fl k u h).2 = some f → kMay u f fl
  | 0, _, _, _, e => by cases e
  | k + 1, u, h, f, e => by
    rw [kTurn_s] at e
    split at e
    · rename_i hm
      split at e
      · cases e; exact hm
      · have := kTurn_may k _ _ _ e
        simpa [kMay, ku] using this
    · have := kTurn_may k _ _ _ e
      exact kMay_6.mp this
theorem ku_ku (u : kS) (F i j : Nat) (x y : Int32) : ku (ku u F i j x) F i j y = ku u F i j y := by
  funext F9 a b
  unfold ku
  split <;> rfl
theorem ku_self {u : kS} {F i j : Nat} {x : Int32} (h : u F i j = x) : ku u F i j x = u := by
  funext F9 a b
  unfold ku
  split
  · rename_i e
    obtain ⟨rfl, rfl, rfl⟩ := e
    exact h.symm
  · rfl
theorem kTurn_no {n : Nat} {fl : Int32} : ∀ (k : Nat) (u : kS) (h : Nat), h < n → u 6 0 0 = nI h → (∀ j, j < n → ¬ kMay u j fl) → kTurn n fl k u h = (ku u 6 0 0 (nI ((h + k) % n)), none)
  | 0, u, h, hh, e, _ => by
    rw [Nat.add_zero, Nat.mod_eq_of_lt hh, ku_self e]
    rfl
  | k + 1, u, h, hh, e, hm => by
    have h9 : (if h + 1 < n then h + 1 else 0) < n := by split <;> omega
    have e9 : ((if h + 1 < n then h + 1 else 0) + k) % n = (h + (k + 1)) % n := by
      split
      · congr 1; omega
      · have : h + (k + 1) = 0 + k + n := by omega
        rw [this, Nat.add_mod_right]
    rw [kTurn_s, if_neg (hm h hh), kTurn_no k _ _ h9 (ku_s _ _ _ _ _) (fun j hj q => hm j hj (kMay_6.mp q)), ku_ku, e9]
theorem kTurn_none {n : Nat} {fl : Int32} {u : kS} {h : Nat} (hh : h < n) (e : u 6 0 0 = nI h) (hm : ∀ j, j < n → ¬ kMay u j fl) : kTurn n fl (2 * n) u h = (u, none) := by
  rw [kTurn_no (2 * n) u h hh e hm, show (h + 2 * n) % n = h by rw [Nat.add_mul_mod_self_right, Nat.mod_eq_of_lt hh], ku_self e]
theorem kTurn_find {n : Nat} {fl : Int32} : ∀ (k : Nat) (u : kS) (h j : Nat), h < n → j < n → kMay u j fl → ((u 4 j 0 = 0 ∧ (if h ≤ j then j - h else n + j - h) < k) ∨ (if h ≤ j then j - h else n + j - h) + n < k) → ∃ f, (kTurn n fl k u h).2 = some f
  | 0, _, _, _, _, _, _, e => by rcases e with ⟨-, e⟩ | e <;> omega
  | k + 1, u, h, j, hh, hj, hm, e => by
    have h9 : (if h + 1 < n then h + 1 else 0) < n := by split <;> omega
    have hd : h ≠ j → (if (if h + 1 < n then h + 1 else 0) ≤ j then j - (if h + 1 < n then h + 1 else 0) else n + j - (if h + 1 < n then h + 1 else 0)) + 1 = (if h ≤ j then j - h else n + j - h) := by
      intro hne
      split <;> split <;> split <;> omega
    have hd0 : (if (if j + 1 < n then j + 1 else 0) ≤ j then j - (if j + 1 < n then j + 1 else 0) else n + j - (if j + 1 < n then j + 1 else 0)) + 1 = n := by
      split <;> split <;> omega
    rw [kTurn_s]
    by_cases hmh : kMay u h fl
    · rw [if_pos hmh]
      by_cases h4 : u 4 h 0 = 0
      · rw [if_pos h4]; exact ⟨h, rfl⟩
      · rw [if_neg h4]
        refine kTurn_find k _ _ j h9 hj (by simpa [kMay, ku] using hm) ?_
        by_cases hne : h = j
        · subst hne
          refine Or.inl ⟨by simp [ku], ?_⟩
          rw [if_pos (Nat.le_refl h)] at e
          rcases e with ⟨e, -⟩ | e
          · exact absurd e h4
          · omega
        · have := hd hne
          rcases e with ⟨e1, e⟩ | e
          · exact Or.inl ⟨by simp [ku, Ne.symm hne, e1], by omega⟩
          · exact Or.inr (by omega)
    · rw [if_neg hmh]
      have hne : h ≠ j := fun q => hmh (q ▸ hm)
      refine kTurn_find k _ _ j h9 hj (kMay_6.mpr hm) ?_
      have := hd hne
      rcases e with ⟨e1, e⟩ | e
      · exact Or.inl ⟨by simp [ku, e1], by omega⟩
      · exact Or.inr (by omega)
/-- what may go is found -/
theorem kTurn_some {n : Nat} {fl : Int32} {u : kS} {h : Nat} (hh : h < n) (hm : ∃ j, j < n ∧ kMay u j fl) : ∃ f, (kTurn n fl (2 * n) u h).2 = some f := by
  obtain ⟨j, hj, hm⟩ := hm
  exact kTurn_find (2 * n) u h j hh hj hm (Or.inr (by split <;> omega))
/-- a dirty frame is written on both sides -/
theorem kBack_E {n N : Nat} {u v : kS} (hE : kE u v) (hF : kIF n N u v) {f q : Nat} (hf : f < n) (hq : u 1 f 0 = nI q) (hq3 : q < 32) : kE (kBack u f q) (kBackR v f q) ∧ kIF n N (kBack u f q) (kBackR v f q) := by
  have hr : ∀ k, k < 8 → v 23 f k = u 5 f k := by
    rcases hF.1 f hf with h9 | h9
    · rw [hq] at h9
      exact absurd h9.1 (nI_n1 (by omega))
    · exact h9.2
  have h8 := hE 5 f 8 sh_5
  have h7 := hE 7 0 0 (sh_7 0)
  have e0 : kE (kcp u 0 q 5 f) (ku (kcR v q f 8) 0 q 8 (v 5 f 8)) := by
    intro F a b hs
    have h0 := hE F a b hs
    unfold ku kcp kcR
    by_cases c1 : F = 0 ∧ a = q
    · obtain ⟨rfl, rfl⟩ := c1
      by_cases c2 : b = 8
      · subst c2
        simp [h8]
      · by_cases c3 : b < 8
        · have c4 : b < 9 := by omega
          simp [c2, c3, c4, hr b c3]
        · have c4 : ¬ b < 9 := by omega
          simp [c2, c3, c4, h0]
    · have c2 : ¬ (F = 0 ∧ a = q ∧ b = 8) := fun h => c1 ⟨h.1, h.2.1⟩
      have c3 : ¬ (F = 0 ∧ a = q ∧ b < 8) := fun h => c1 ⟨h.1, h.2.1⟩
      have c4 : ¬ (F = 0 ∧ a = q ∧ b < 9) := fun h => c1 ⟨h.1, h.2.1⟩
      rw [if_neg c2, if_neg c3, if_neg c4]
      exact h0
  constructor
  · unfold kBack kBackR
    rw [h7]
    exact kE_ku (kE_ku e0 3 f 0 0) 7 0 0 _
  · have hu : ∀ F a b, 1 ≤ F → F ≤ 6 → ¬ (F = 3 ∧ a = f ∧ b = 0) → kBack u f q F a b = u F a b := by
      intro F a b h1 h2 h3
      have c0 : F ≠ 0 := by omega
      have c7 : F ≠ 7 := by omega
      unfold kBack
      rw [ku_F c7]
      unfold ku kcp
      rw [if_neg h3, if_neg (fun h => c0 h.1)]
    have hv : ∀ F a b, 20 ≤ F → kBackR v f q F a b = v F a b := fun F a b h => kBackR_F (by omega)
    refine ⟨fun g hg => ?_, fun g hg => ?_, ?_, ?_, fun g hg => ?_⟩
    · rcases hF.1 g hg with h9 | h9
      · have hne : g ≠ f := fun e => by rw [e, hq] at h9; exact absurd h9.1 (nI_n1 (by omega))
        refine Or.inl ?_
        rw [hu 1 g 0 (by decide) (by decide) (by simp), hu 2 g 0 (by decide) (by decide) (by simp), hu 3 g 0 (by decide) (by decide) (by simp [hne]), hu 4 g 0 (by decide) (by decide) (by simp), hu 5 g 8 (by decide) (by decide) (by simp)]
        exact h9
      · refine Or.inr ⟨?_, fun k hk => ?_⟩
        · rw [hu 1 g 0 (by decide) (by decide) (by simp)]; exact h9.1
        · rw [hu 5 g k (by decide) (by decide) (by simp), hv 23 g k (by decide)]; exact h9.2 k hk
    · rw [hu 2 g 0 (by decide) (by decide) (by simp)]; exact hF.2.1 g hg
    · rw [hu 6 0 0 (by decide) (by decide) (by simp)]; exact hF.2.2.1
    · rw [hv 21 0 0 (by decide)]; exact hF.2.2.2.1
    · have hne : g ≠ f := fun e => by omega
      rw [hu 1 g 0 (by decide) (by decide) (by simp), hu 2 g 0 (by decide) (by decide) (by simp), hu 3 g 0 (by decide) (by decide) (by simp [hne]), hu 4 g 0 (by decide) (by decide) (by simp), hu 5 g 8 (by decide) (by decide) (by simp)]
      exact hF.2.2.2.2 g hg
/-- a page comes into a frame that is clean and unpinned -/
theorem kLoad0_E {n N : Nat} {u v : kS} (hE : kE u v) (hF : kIF n N u v) {f q : Nat} (hf : f < n) (hq : q < 32) (h2 : u 2 f 0 = 0) (h3 : u 3 f 0 = 0) :
    kE (ku (ku (ku (kcp u 5 f 0 q) 1 f 0 (nI q)) 8 0 0 (u 8 0 0 + 1)) 4 f 0 1) (ku (kLoadR v q f) 4 f 0 1) ∧ kIF n N (ku (ku (ku (kcp u 5 f 0 q) 1 f 0 (nI q)) 8 0 0 (u 8 0 0 + 1)) 4 f 0 1) (ku (kLoadR v q f) 4 f 0 1) := by
  have h8 := hE 8 0 0 (sh_8 0)
  have e8 := hE 0 q 8 (sh_0 8)
  have e0 : kE (ku (kcp u 5 f 0 q) 1 f 0 (nI q)) (kcN (kLd0 v q f) f q 8) := by
    intro F a b hs
    have h0 := hE F a b hs
    have hn23 : ¬ (F = 23 ∧ a = f ∧ b < 8) := fun h => by have := hs.1; omega
    unfold kcN
    rw [if_neg hn23]
    unfold kLd0 ku kcp
    by_cases c5 : F = 5
    · subst c5
      have hb := hs.2.1 rfl
      subst hb
      by_cases ca : a = f
      · subst ca; simp [e8]
      · simp [ca, h0]
    · by_cases ca : a = f
      · subst ca
        by_cases c1 : F = 1
        · subst c1; by_cases cb : b = 0
          · subst cb; simp
          · simp [cb, h0]
        · by_cases c2 : F = 2
          · subst c2; by_cases cb : b = 0
            · subst cb; simp [h2]
            · simp [cb, h0]
          · by_cases c3 : F = 3
            · subst c3; by_cases cb : b = 0
              · subst cb; simp [h3]
              · simp [cb, h0]
            · simp [c5, c1, c2, c3, h0]
      · simp [c5, ca, h0]
  constructor
  · unfold kLoadR
    rw [h8]
    exact kE_ku (kE_ku e0 8 0 0 _) 4 f 0 1
  · have hu : ∀ F a b, 1 ≤ F → F ≤ 6 → a ≠ f → ku (ku (ku (kcp u 5 f 0 q) 1 f 0 (nI q)) 8 0 0 (u 8 0 0 + 1)) 4 f 0 1 F a b = u F a b := by
      intro F a b h1 h9 hne
      have c8 : F ≠ 8 := by omega
      simp [ku, kcp, hne, c8]
    have hv : ∀ F a b, 20 ≤ F → a ≠ f → ku (kLoadR v q f) 4 f 0 1 F a b = v F a b := by
      intro F a b h hne
      have c8 : F ≠ 8 := by omega
      simp [kLoadR, kLd0, kcN, ku, hne, c8]
    refine ⟨fun g hg => ?_, fun g hg => ?_, ?_, ?_, fun g hg => ?_⟩
    · by_cases hne : g = f
      · subst hne
        refine Or.inr ⟨⟨q, hq, by simp [ku]⟩, fun k hk => ?_⟩
        have hk9 : k < 9 := by omega
        have h0 := hE 0 q k (sh_0 k)
        simp [ku, kcp, kLoadR, kLd0, kcN, hk, hk9, h0]
      · rcases hF.1 g hg with h9 | h9
        · refine Or.inl ?_
          rw [hu 1 g 0 (by decide) (by decide) hne, hu 2 g 0 (by decide) (by decide) hne, hu 3 g 0 (by decide) (by decide) hne, hu 4 g 0 (by decide) (by decide) hne, hu 5 g 8 (by decide) (by decide) hne]
          exact h9
        · refine Or.inr ⟨?_, fun k hk => ?_⟩
          · rw [hu 1 g 0 (by decide) (by decide) hne]; exact h9.1
          · rw [hu 5 g k (by decide) (by decide) hne, hv 23 g k (by decide) hne]; exact h9.2 k hk
    · have : ku (ku (ku (kcp u 5 f 0 q) 1 f 0 (nI q)) 8 0 0 (u 8 0 0 + 1)) 4 f 0 1 2 g 0 = u 2 g 0 := by simp [ku, kcp]
      rw [this]; exact hF.2.1 g hg
    · have : ku (ku (ku (kcp u 5 f 0 q) 1 f 0 (nI q)) 8 0 0 (u 8 0 0 + 1)) 4 f 0 1 6 0 0 = u 6 0 0 := by simp [ku, kcp]
      rw [this]; exact hF.2.2.1
    · have : ku (kLoadR v q f) 4 f 0 1 21 0 0 = v 21 0 0 := by simp [kLoadR, kLd0, kcN, ku]
      rw [this]; exact hF.2.2.2.1
    · have hne : g ≠ f := by omega
      rw [hu 1 g 0 (by decide) (by decide) hne, hu 2 g 0 (by decide) (by decide) hne, hu 3 g 0 (by decide) (by decide) hne, hu 4 g 0 (by decide) (by decide) hne, hu 5 g 8 (by decide) (by decide) hne]
      exact hF.2.2.2.2 g hg
/-- only marks and the hand change -/
theorem kIF_46 {n N : Nat} {u v u9 v9 : kS} (h : kIF n N u v) (hu : ∀ F a b, F ≠ 4 → F ≠ 6 → u9 F a b = u F a b) (h4 : ∀ f, u 1 f 0 = -1 → u9 4 f 0 = u 4 f 0) (h6 : ∃ g, g < n ∧ u9 6 0 0 = nI g) (hv : ∀ F a b, 20 ≤ F → v9 F a b = v F a b) : kIF n N u9 v9 := by
  refine ⟨fun f hf => ?_, fun f hf => ?_, h6, ?_, fun f hf => ?_⟩
  · rcases h.1 f hf with h9 | h9
    · refine Or.inl ?_
      rw [hu 1 f 0 (by decide) (by decide), hu 2 f 0 (by decide) (by decide), hu 3 f 0 (by decide) (by decide), h4 f h9.1, hu 5 f 8 (by decide) (by decide)]
      exact h9
    · refine Or.inr ⟨?_, fun k hk => ?_⟩
      · rw [hu 1 f 0 (by decide) (by decide)]; exact h9.1
      · rw [hu 5 f k (by decide) (by decide), hv 23 f k (by decide)]; exact h9.2 k hk
  · rw [hu 2 f 0 (by decide) (by decide)]; exact h.2.1 f hf
  · rw [hv 21 0 0 (by decide)]; exact h.2.2.2.1
  · have h9 := h.2.2.2.2 f hf
    rw [hu 1 f 0 (by decide) (by decide), hu 2 f 0 (by decide) (by decide), hu 3 f 0 (by decide) (by decide), h4 f h9.1, hu 5 f 8 (by decide) (by decide)]
    exact h9
theorem kTurn_4 {n : Nat} {fl : Int32} : ∀ (k : Nat) (u : kS) (h g : Nat), u 4 g 0 = 0 → (kTurn n fl k u h).1 4 g 0 = 0
  | 0, _, _, _, e => e
  | k + 1, u, h, g, e => by
    rw [kTurn_s]
    split
    · split
      · dsimp only
        rw [ku_F (by decide)]; exact e
      · refine kTurn_4 k _ _ g ?_
        unfold ku
        split
        · rfl
        · simp [e]
    · refine kTurn_4 k _ _ g ?_
      rw [ku_F (by decide)]; exact e
/-- bring: both sides answer alike -/
theorem kBr_E {n N : Nat} {u v : kS} (hE : kE u v) (hF : kIF n N u v) {q h : Nat} {r : Int32} {v1 : kS} (hq : q < 32) (hh : u 6 0 0 = nI h) (hhn : h < n) (hn : n ≤ 8) (hb : kBringR v n q h r v1) :
    r = kO (kBr u n q).2 ∧ kE (kBr u n q).1 v1 ∧ kIF n N (kBr u n q).1 v1 := by
  have h1 : ∀ f, v 1 f 0 = u 1 f 0 := fun f => hE 1 f 0 (sh_1 0)
  have h15 := hE 15 0 0 (sh_15 0)
  have hkh : kNat (u 6 0 0) = h := by rw [hh]; exact kNat_n (by omega)
  rcases hb with ⟨f, hf, e1, e2, rfl, rfl⟩ | ⟨e1, r1, v2, hr, ho⟩
  · rw [h1] at e1
    have hfd : kfnd u n (nI q) = some f := kfnd_some hf e1 (fun j hj => by rw [← h1]; exact e2 j hj)
    unfold kBr
    rw [hfd]
    dsimp only
    refine ⟨rfl, kE_ku hE 4 f 0 1, kIF_46 hF (fun F a b h4 _ => ku_F h4) (fun g hg => ?_) ?_ (fun F a b h => ku_F (by omega))⟩
    · have hne : g ≠ f := fun e => by rw [e, e1] at hg; exact nI_n1 (by omega) hg
      exact ku_i hne
    · rw [ku_F (by decide)]; exact hF.2.2.1
  · have hfd : kfnd u n (nI q) = none := kfnd_none (fun j hj => by rw [← h1]; exact e1 j hj)
    unfold kBr
    rw [hfd]
    dsimp only
    rcases hr with ⟨f, hf, c1, c2, rfl, rfl⟩ | ⟨c1, c2, rfl, rfl⟩ | ⟨f, hf, c1, c2, rfl, rfl⟩
    · rw [h1] at c1
      have c1' := (kIF_neg hF hf).mp c1
      have hfe : kfnd u n (-1) = some f := kfnd_some hf c1' (fun j hj e => by
        have := c2 j hj
        rw [h1, e] at this
        exact this (by decide))
      rcases ho with ⟨o1, -, -⟩ | ⟨g, hg, o1, rfl, rfl⟩
      · exact absurd o1 (nI_n1 (by omega))
      · have eg : f = g := (nI_eq (by omega) (by omega)).mp o1
        subst eg
        rw [hfe]
        dsimp only
        rcases hF.1 f hf with h9 | ⟨⟨q9, d1, d2⟩, -⟩
        · have := kLoad0_E hE hF hf hq h9.2.1 h9.2.2.1
          unfold kLoad
          rw [if_pos h9.2.2.1]
          exact ⟨rfl, this⟩
        · rw [d2] at c1'
          exact absurd c1' (nI_n1 (by omega))
    · have hfe : kfnd u n (-1) = none := kfnd_none (fun j hj e => by
        have := c1 j hj
        rw [h1, e] at this
        exact this (by decide))
      have hno : ∀ j, j < n → ¬ kMay u j (u 15 0 0) := fun j hj hm => c2 ⟨j, hj, by
        unfold kMay at hm ⊢
        rw [hE 2 j 0 (sh_2 0), hE 3 j 0 (sh_3 0), hE 5 j 8 sh_5, h15]
        exact hm⟩
      rcases ho with ⟨-, rfl, rfl⟩ | ⟨g, hg, o1, rfl, rfl⟩
      · rw [hfe, hkh, kTurn_none hhn hh hno]
        exact ⟨rfl, hE, hF⟩
      · exact absurd o1.symm (nI_n1 (by omega))
    · have hfe : kfnd u n (-1) = none := kfnd_none (fun j hj e => by
        have := c1 j hj
        rw [h1, e] at this
        exact this (by decide))
      obtain ⟨t1, t2⟩ := kTurn_E (n := n) (fl := u 15 0 0) (2 * n) u v h hE
      rw [h15] at c2 ho
      rw [t1] at c2
      rcases ho with ⟨o1, -, -⟩ | ⟨g, hg, o1, rfl, rfl⟩
      · exact absurd o1 (nI_n1 (by omega))
      · have eg : f = g := (nI_eq (by omega) (by omega)).mp o1
        subst eg
        rw [hfe, hkh]
        dsimp only
        rw [c2]
        dsimp only
        have hm := kTurn_may _ _ _ _ c2
        have hF2 : kIF n N (kTurn n (u 15 0 0) (2 * n) u h).1 (kTurn n (u 15 0 0) (2 * n) v h).1 := kIF_46 hF (fun F a b h4 h6 => kTurn_F h4 h6 _ _ _) (fun g hg => by
          by_cases hgn : g < n
          · rcases hF.1 g hgn with h9 | ⟨⟨q9, d1, d2⟩, -⟩
            · rw [h9.2.2.2.1]; exact kTurn_4 _ _ _ _ h9.2.2.2.1
            · rw [d2] at hg
              exact absurd hg (nI_n1 (by omega))
          · have h9 := (hF.2.2.2.2 g (by omega)).2.2.2.1
            rw [h9]; exact kTurn_4 _ _ _ _ h9) (kTurn_hand _ _ _ hhn hh) (fun F a b h => kTurn_F (by omega) (by omega) _ _ _)
        generalize hU : (kTurn n (u 15 0 0) (2 * n) u h).1 = U at hF2 t2
        generalize hW : (kTurn n (u 15 0 0) (2 * n) v h).1 = W9 at hF2 t2
        have u1 : U 1 f 0 = u 1 f 0 := by rw [← hU]; exact kTurn_F (by decide) (by decide) _ _ _
        have u2 : U 2 f 0 = 0 := by rw [← hU, kTurn_F (by decide) (by decide) _ _ _]; exact hm.1
        refine ⟨rfl, ?_⟩
        unfold kLoad kTk
        rw [t2 3 f 0 (sh_3 0), t2 1 f 0 (sh_1 0)]
        by_cases c3 : U 3 f 0 = 0
        · rw [if_pos c3, if_pos c3]
          exact kLoad0_E t2 hF2 hf hq u2 c3
        · rw [if_neg c3, if_neg c3]
          obtain ⟨q9, d1, d2⟩ : ∃ q, q < 32 ∧ U 1 f 0 = nI q := by
            rcases hF2.1 f hf with h9 | h9
            · exact absurd h9.2.2.1 c3
            · exact h9.1
          rw [← u1, d2, kNat_n (by omega)]
          obtain ⟨b1, b2⟩ := kBack_E t2 hF2 hf d2 d1
          refine kLoad0_E b1 b2 hf hq ?_ ?_
          · unfold kBack
            simp [ku, kcp, u2]
          · unfold kBack
            simp [ku]
end KB
