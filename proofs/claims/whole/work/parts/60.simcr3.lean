section KCS
theorem kIso_9 {u v : kS} (h : v 9 = u 9) (t : Int32) : ∀ z, kIso v t z = kIso u t z
  | 0 => rfl
  | z + 1 => by
    unfold kIso
    rw [h, kIso_9 h t z]
theorem kAct_16 {v : kS} {z a b : Nat} : ∀ k, kAct v z k 16 a b = if a < k ∧ b = 0 then kIso v (nI a) z else v 16 a b
  | 0 => by simp [kAct]
  | k + 1 => by
    have e9 : kAct v z k 9 = v 9 := by funext a b; exact kAct_F (by decide) k
    show ku _ _ _ _ _ _ _ _ = _
    by_cases c : a = k ∧ b = 0
    · obtain ⟨rfl, rfl⟩ := c
      rw [ku_s, if_pos ⟨by omega, rfl⟩]
      exact kIso_9 e9 _ _
    · have : ku (kAct v z k) 16 k 0 (kIso (kAct v z k) (nI k) z) 16 a b = kAct v z k 16 a b := if_neg (fun q => c ⟨q.2.1, q.2.2⟩)
      rw [this, kAct_16 k]
      by_cases d : a < k ∧ b = 0
      · rw [if_pos d, if_pos ⟨by omega, d.2⟩]
      · rw [if_neg d, if_neg (fun q => by omega)]
theorem kCI_19 {uA W u v : kS} {z fl : Nat} {x : Int32} (h : kCI uA W fl u v z) : kCI uA W fl (ku u 19 0 0 x) v z := by
  obtain ⟨h1, h2, h3, h4, h5, h6, h7⟩ := h
  refine ⟨fun F a b hs hx => ?_, kIL_congr h2 (fun F a b c1 c2 => ku_F (by omega)) (fun _ _ => rfl) (fun _ _ => rfl), fun i hi => ?_, fun F a b c1 c2 => ?_, h5, h6, fun i hi => ?_⟩
  · unfold ku
    rw [if_neg (fun q => hx (Or.inr q))]
    exact h1 F a b hs hx
  · rw [ku_F (by decide), ku_F (by decide)]; exact h3 i hi
  · rw [ku_F (by omega)]; exact h4 F a b c1 c2
  · rw [show ku u 19 0 0 x 9 = u 9 from by funext a b; exact ku_F (by decide)]; exact h7 i hi
theorem kct_zero {f : Nat → Int32} : ∀ k, (∀ t, t < k → f t = 0) → kct f k = 0
  | 0, _ => rfl
  | k + 1, h => by
    unfold kct
    rw [if_pos (h k (by omega)), kct_zero k (fun t ht => h t (by omega))]
/-- what crash needs and makes, of both sides -/
theorem s_crash {n N : Nat} {u w : kS} (hI : kI n N u w) : ∃ (z fl : Nat) (T Wd Pg Nb : Nat → Nat),
    (u 14 0 0 = nI z ∧ z ≤ 400 ∧ u 15 0 0 = nI fl ∧ fl ≤ z) ∧ (w 14 0 0 = u 14 0 0 ∧ w 15 0 0 = u 15 0 0) ∧
    (∀ i, i ≤ fl → 1 ≤ i → u 9 i 1 = nI (T i) ∧ T i < 8) ∧ (∀ i, i ≤ fl → 1 ≤ i → u 9 i 0 = 1 → u 9 i 6 = nI (Wd i)) ∧ (∀ i, Wd i ≤ 400) ∧
    (∀ i, i ≤ fl → 1 ≤ i → (u 9 i 0 = 0 ∨ u 9 i 0 = 1) → u 9 i 2 = nI (Pg i) ∧ Pg i < 32 ∧ u 9 i 3 = nI (Nb i) ∧ Nb i < 8) ∧
    kUndOk T Pg Nb fl (kCr u n fl T Wd Pg Nb) fl ∧
    (∀ t, t < 8 → (kEnds (kCr2 u n fl T Wd Pg Nb) (kUnd T Pg Nb fl (kCr u n fl T Wd Pg Nb) fl 0).2.1 t).2 < 400) ∧
    (∀ i, i ≤ z → 1 ≤ i → w 9 i 0 = 1 → ∃ w9, w9 ≤ 400 ∧ w 9 i 6 = nI w9) ∧ (∀ i, i ≤ fl → 1 ≤ i → w 9 i 1 = nI (T i) ∧ T i < 8) ∧
    (∀ i, i ≤ fl → 1 ≤ i → w 9 i 0 < nI 2 → w 9 i 2 = nI (Pg i) ∧ Pg i < 32 ∧ w 9 i 3 = nI (Nb i) ∧ Nb i < 8) ∧
    kUnROk T Pg Nb fl (kCR2 w fl z Pg Nb) fl ∧
    (∀ t, t < 8 → (kEnR (kUnR T Pg Nb fl (kCR2 w fl z Pg Nb) fl).1 (kUnR T Pg Nb fl (kCR2 w fl z Pg Nb) fl).2 t).2 < 400) ∧
    kCrashR w fl z T Pg Nb 20 0 0 = w 20 0 0 ∧ kI n (N + 1) (kCrash u n fl T Wd Pg Nb) (kCrashR w fl z T Pg Nb) := by
  obtain ⟨h0, hE, hF, z, fl, hL, hA⟩ := hI
  have hz := kIL_z hL
  have hfl := hL.2.2.1
  have e9 := kE_9 hE
  have hV := hL.2.2.2.1
  have hVf := hV.le hfl
  have hgT : ∀ i, i ≤ fl → 1 ≤ i → u 9 i 1 = nI (lg_t (u 9) i) ∧ lg_t (u 9) i < 8 := fun i a b => ⟨(hVf i b a).2.2.1, (hVf i b a).2.2.2.1⟩
  have hgP : ∀ i, i ≤ fl → 1 ≤ i → lg_k (u 9) i < 2 → u 9 i 2 = nI (kNat (u 9 i 2)) ∧ kNat (u 9 i 2) < 32 ∧ u 9 i 3 = nI (kNat (u 9 i 3)) ∧ kNat (u 9 i 3) < 8 := fun i a b c => by
    obtain ⟨q, k, h1, h2, h3, h4⟩ := (hVf i b a).2.2.2.2.1 c
    rw [h2, h4, kNat_n (show q < 2 ^ 31 by omega), kNat_n (show k < 2 ^ 31 by omega)]
    exact ⟨rfl, h1, rfl, h3⟩
  have hk01 : ∀ i, i ≤ fl → 1 ≤ i → (u 9 i 0 = 0 ∨ u 9 i 0 = 1) → lg_k (u 9) i < 2 := fun i a b c => by
    have hr := hVf i b a
    rcases c with c | c
    · have := (lg_k_eq (k := 0) hr (by decide)).mp c; omega
    · have := (lg_k_eq (k := 1) hr (by decide)).mp c; omega
  generalize hTd : (fun i => lg_t (u 9) i) = T
  generalize hWd : (fun i => if 1 ≤ i ∧ i ≤ fl ∧ lg_k (u 9) i = 1 then lg_w (u 9) i else 0) = Wd
  generalize hPd : (fun i => kNat (u 9 i 2)) = Pg
  generalize hNd : (fun i => kNat (u 9 i 3)) = Nb
  have tT : ∀ i, T i = lg_t (u 9) i := fun i => by rw [← hTd]
  have tP : ∀ i, Pg i = kNat (u 9 i 2) := fun i => by rw [← hPd]
  have tN : ∀ i, Nb i = kNat (u 9 i 3) := fun i => by rw [← hNd]
  have tW : ∀ i, 1 ≤ i → i ≤ fl → lg_k (u 9) i = 1 → Wd i = lg_w (u 9) i := fun i a b c => by
    rw [← hWd]
    exact if_pos ⟨a, b, c⟩
  have hW4 : ∀ i, Wd i ≤ 400 := fun i => by
    rw [← hWd]
    dsimp only
    split
    · rename_i q
      have := ((hVf i q.1 q.2.1).2.2.2.2.2 q.2.2).2.2.1
      omega
    · omega
  -- the class, up to its redoing
  obtain ⟨cC, cC9⟩ := kFols_C (u := u) (T := T) (Wd := Wd) hVf (fun i _ _ => tT i) tW fl (Nat.le_refl _)
  have hFo : ∀ F a b, F ≠ 10 → F ≠ 11 → F ≠ 12 → F ≠ 13 → F ≠ 14 → kFols (kCut u fl) T Wd fl F a b = u F a b := fun F a b c1 c2 c3 c4 c5 => by
    rw [kFols_F ⟨c1, c2, c3, c4⟩, kCut_F ⟨c5, c2, c3, c4⟩]
  have hFo14 : ∀ a b, kFols (kCut u fl) T Wd fl 14 a b = ku u 14 0 0 (nI fl) 14 a b := fun a b => by
    rw [kFols_F (by decide)]
    simp [kCut, kfl]
  generalize hu0 : kFols (kCut u fl) T Wd fl = u0 at cC cC9 hFo hFo14
  have eB : ∀ F a b, F ≠ 0 → kCr u n fl T Wd Pg Nb F a b = kfl (kfl (ku (kClr u0 n) 6 0 0 0) 16 8 0) 17 8 0 F a b := fun F a b c => by
    unfold kCr
    rw [hu0, kRedo_F c]
  have eA9 : kCr u n fl T Wd Pg Nb 9 = u 9 := by funext a b; exact kCr_9
  have eA14 : kCr u n fl T Wd Pg Nb 14 0 0 = nI fl := kCr_14
  have eBp : ∀ F a b, F ≠ 0 → F ≠ 6 → F ≠ 16 → F ≠ 17 → kCr u n fl T Wd Pg Nb F a b = kClr u0 n F a b := fun F a b c0 c6 c16 c17 => by
    rw [eB F a b c0]
    unfold kfl
    rw [if_neg (fun q => c17 q.1), if_neg (fun q => c16 q.1), ku_F c6]
  have eBc : ∀ F a b, 7 ≤ F → F ≠ 16 → F ≠ 17 → kCr u n fl T Wd Pg Nb F a b = u0 F a b := fun F a b c7 c16 c17 => by
    rw [eBp F a b (by omega) (by omega) c16 c17, kClr_F (by omega)]
  -- the reference, up to its redoing
  have rL9 : kLose w fl (z - fl) 9 = u 9 := by funext a b; rw [kLose_F (by decide), e9]
  have rD := kLose_D (w := w) (by rw [e9]; exact hV) hL.2.2.2.2.2.1 hfl
  rw [e9] at rD
  have r2 : ∀ F a b, F ≠ 0 → F ≠ 6 → F ≠ 16 → F ≠ 19 → kCR2 w fl z Pg Nb F a b = kClR (ku (kLose w fl (z - fl)) 14 0 0 (nI fl)) 8 F a b := fun F a b c0 c6 c16 c19 => by
    unfold kCR2 kCR1
    rw [kAct_F c16, ku_F c19, kRedoR_F c0, ku_F c6]
  have r2c : ∀ F a b, 7 ≤ F → F ≠ 14 → F ≠ 16 → F ≠ 19 → F ≠ 22 → kCR2 w fl z Pg Nb F a b = w F a b := fun F a b c7 c14 c16 c19 c22 => by
    rw [r2 F a b (by omega) (by omega) c16 c19, kClR_F (by omega), ku_F c14, kLose_F c22]
  have r29 : kCR2 w fl z Pg Nb 9 = u 9 := by funext a b; rw [kCR2_9, e9]
  have r22 : ∀ i, kCR2 w fl z Pg Nb 22 i 0 = kLose w fl (z - fl) 22 i 0 := fun i => by
    rw [r2 22 i 0 (by decide) (by decide) (by decide) (by decide), kClR_F (by omega), ku_F (by decide)]
  have r16 : ∀ a b, kCR2 w fl z Pg Nb 16 a b = if a < 8 ∧ b = 0 then kIso (ku (kCR1 w fl z Pg Nb) 19 0 0 0) (nI a) fl else w 16 a b := fun a b => by
    unfold kCR2
    rw [kAct_16, ku_F (by decide), kCR1_F (by decide)]
  have r19 : ∀ a b, kCR2 w fl z Pg Nb 19 a b = ku w 19 0 0 0 19 a b := fun a b => by
    unfold kCR2
    rw [kAct_F (by decide)]
    unfold ku
    rw [kCR1_F (by decide)]
  have hEX : kEX (kCr u n fl T Wd Pg Nb) (kCR2 w fl z Pg Nb) := by
    intro F a b hs hx
    by_cases c0 : F = 0
    · subst c0
      have := kRedo_E (u := kfl (kfl (ku (kClr u0 n) 6 0 0 0) 16 8 0) 17 8 0) (v := ku (kClR (ku (kLose w fl (z - fl)) 14 0 0 (nI fl)) 8) 6 0 0 0) (fl := fl) (Pg := Pg) (Nb := Nb) (by
        funext a b
        rw [ku_F (by decide), kClR_F (by omega), ku_F (by decide), rL9]
        unfold kfl
        rw [if_neg (by simp), if_neg (by simp), ku_F (by decide), kClr_F (by omega), cC9]) (fun a b => by
        rw [ku_F (by decide), kClR_F (by omega), ku_F (by decide), kLose_F (by decide), hE 0 a b (sh_0 b)]
        unfold kfl
        rw [if_neg (by simp), if_neg (by simp), ku_F (by decide), kClr_F (by omega), hFo 0 a b (by decide) (by decide) (by decide) (by decide) (by decide)]) (by
        rw [show kfl (kfl (ku (kClr u0 n) 6 0 0 0) 16 8 0) 17 8 0 9 = u 9 from by
          funext a b
          unfold kfl
          rw [if_neg (by simp), if_neg (by simp), ku_F (by decide), kClr_F (by omega), cC9]]
        exact hVf) fl (Nat.le_refl _) a b
      unfold kCR2 kCR1 kCr
      rw [kAct_F (by decide), ku_F (by decide), this, hu0]
    · by_cases c6 : F = 6
      · subst c6
        rw [eB 6 a b (by decide)]
        unfold kCR2 kCR1
        rw [kAct_F (by decide), ku_F (by decide), kRedoR_F (by decide)]
        unfold kfl
        rw [if_neg (by simp), if_neg (by simp)]
        unfold ku
        rw [kClR_F (by omega), kClr_F (by omega), hFo 6 a b (by decide) (by decide) (by decide) (by decide) (by decide)]
        split
        · rfl
        · rw [if_neg (by simp), kLose_F (by decide)]; exact hE 6 a b (sh_6 b)
      · by_cases c16 : F = 16
        · subst c16
          have hn : ¬ (a < 8 ∧ b = 0) := fun q => hx (Or.inl ⟨Or.inl rfl, q.1, q.2⟩)
          rw [r16, if_neg hn, eB 16 a b (by decide)]
          unfold kfl
          rw [if_neg (by simp), if_neg (fun q => hn q.2), ku_F (by decide), kClr_F (by omega), hFo 16 a b (by decide) (by decide) (by decide) (by decide) (by decide)]
          exact hE 16 a b hs
        · by_cases c17 : F = 17
          · subst c17
            have hn : ¬ (a < 8 ∧ b = 0) := fun q => hx (Or.inl ⟨Or.inr rfl, q.1, q.2⟩)
            rw [r2c 17 a b (by decide) (by decide) (by decide) (by decide) (by decide), eB 17 a b (by decide)]
            unfold kfl
            rw [if_neg (fun q => hn q.2), if_neg (by simp), ku_F (by decide), kClr_F (by omega), hFo 17 a b (by decide) (by decide) (by decide) (by decide) (by decide)]
            exact hE 17 a b hs
          · by_cases c19 : F = 19
            · subst c19
              have hn : ¬ (a = 0 ∧ b = 0) := fun q => hx (Or.inr ⟨rfl, q.1, q.2⟩)
              rw [r19, eBc 19 a b (by decide) (by decide) (by decide), hFo 19 a b (by decide) (by decide) (by decide) (by decide) (by decide)]
              unfold ku
              rw [if_neg (fun q => hn q.2)]
              exact hE 19 a b hs
            · by_cases c14 : F = 14
              · subst c14
                rw [r2 14 a b (by decide) (by decide) (by decide) (by decide), kClR_F (by omega), eBc 14 a b (by decide) (by decide) (by decide), hFo14]
                unfold ku
                split
                · rfl
                · rw [kLose_F (by decide)]; exact hE 14 a b hs
              · have hn10 : F ≠ 10 := fun q => hs.2.2 (by omega)
                have hn11 : F ≠ 11 := fun q => hs.2.2 (by omega)
                have hn12 : F ≠ 12 := fun q => hs.2.2 (by omega)
                have hn13 : F ≠ 13 := fun q => hs.2.2 (by omega)
                have hn22 : F ≠ 22 := fun q => by have := hs.1; omega
                have h9 := hE F a b hs
                rw [r2 F a b c0 c6 c16 c19, eBp F a b c0 c6 c16 c17, kClR_at, kClr_at, ku_F c14, kLose_F hn22, hFo F a b hn10 hn11 hn12 hn13 c14, h9]
                by_cases ca : a < n
                · rw [if_pos (show a < 8 by omega), if_pos ca]
                  by_cases f1 : F = 1 ∧ b = 0
                  · rw [if_pos f1, if_pos f1]
                  · rw [if_neg f1, if_neg f1]
                    by_cases f2 : (F = 2 ∨ F = 3 ∨ F = 4) ∧ b = 0
                    · rw [if_pos f2, if_pos f2]
                    · rw [if_neg f2, if_neg f2]
                      by_cases f5 : F = 5
                      · have hb := hs.2.1 f5
                        rw [if_pos ⟨f5, hb⟩, if_pos ⟨f5, by omega⟩]
                      · rw [if_neg (fun q => f5 q.1), if_neg (fun q => f5 q.1)]
                · rw [if_neg ca]
                  by_cases ca8 : a < 8
                  · rw [if_pos ca8]
                    have h6 := hF.2.2.2.2 a (by omega)
                    by_cases f1 : F = 1 ∧ b = 0
                    · rw [if_pos f1, f1.1, f1.2, h6.1]
                    · rw [if_neg f1]
                      by_cases f2 : (F = 2 ∨ F = 3 ∨ F = 4) ∧ b = 0
                      · rw [if_pos f2, f2.2]
                        rcases f2.1 with q | q | q
                        · rw [q, h6.2.1]
                        · rw [q, h6.2.2.1]
                        · rw [q, h6.2.2.2.1]
                      · rw [if_neg f2]
                        by_cases f5 : F = 5 ∧ b = 8
                        · rw [if_pos f5, f5.1, f5.2, h6.2.2.2.2]
                        · rw [if_neg f5]
                  · rw [if_neg ca8]
  have hCI : kCI (kCr u n fl T Wd Pg Nb) w fl (kCr u n fl T Wd Pg Nb) (kCR2 w fl z Pg Nb) fl := by
    refine ⟨hEX, ⟨eA14, ?_, Nat.le_refl _, by rw [eA9]; exact hVf, ?_, ?_, fun k hk => by rw [eA9]; exact hL.2.2.2.2.2.2 k (by omega)⟩, fun t ht => ?_, fun _ _ _ _ _ => rfl, r2c 20 0 0 (by decide) (by decide) (by decide) (by decide) (by decide), r2c 21 0 0 (by decide) (by decide) (by decide) (by decide) (by decide), fun _ _ => rfl⟩
    · rw [eBc 15 0 0 (by decide) (by decide) (by decide), hFo 15 0 0 (by decide) (by decide) (by decide) (by decide) (by decide)]; exact hL.2.1
    · refine lg_C_eq (fun i _ _ => by rw [eA9, cC9]) ?_ ?_ ?_ ?_ cC <;> (funext a b; exact eBc _ a b (by decide) (by decide) (by decide))
    · intro i a b
      rw [r22 i, r29]
      exact rD i a b
    · rw [eB 16 t 0 (by decide), eB 17 t 0 (by decide)]
      simp [kfl, ht]
  have hact : ∀ t, t < 8 → (kCR2 w fl z Pg Nb 16 t 0 ≠ 0 ↔ lg_ov (kCr u n fl T Wd Pg Nb 9) t fl < lg_lu (kCr u n fl T Wd Pg Nb 9) t fl) := fun t ht => by
    have e19 : ku (kCR1 w fl z Pg Nb) 19 0 0 0 9 = u 9 := by
      funext a b
      rw [ku_F (by decide), kCR1_F (by decide), e9]
    rw [r16, if_pos ⟨ht, rfl⟩, kIso_9 (u := u) e19, eA9]
    exact kIso_iff ht fl hVf
  have hU := kUnd_E (uA := kCr u n fl T Wd Pg Nb) (W := w) (fl := fl) (T := T) (Pg := Pg) (Nb := Nb) (fun i _ _ => by rw [eA9]; exact tT i) (fun i a b c => by
      rw [eA9] at c ⊢
      obtain ⟨g1, g2, g3, g4⟩ := hgP i b a c
      rw [tP, tN]
      exact ⟨g2, g1, g4, g3⟩) fl _ _ fl 0 (Nat.le_refl _) hCI (fun t => ⟨rfl, rfl⟩) hact (by rw [r19, ku_s]; rfl)
  obtain ⟨o1, o2, o3, o4, o5, o6, o7⟩ := hU
  have c19 := kCI_19 (x := nI (kUnd T Pg Nb fl (kCr u n fl T Wd Pg Nb) fl 0).2.2) o4
  have eK2 : ku (kUnd T Pg Nb fl (kCr u n fl T Wd Pg Nb) fl 0).1 19 0 0 (nI (kUnd T Pg Nb fl (kCr u n fl T Wd Pg Nb) fl 0).2.2) 9 = (kUnd T Pg Nb fl (kCr u n fl T Wd Pg Nb) fl 0).1 9 := by funext a b; exact ku_F (by decide)
  have hact2 : ∀ t, t < 8 → ((kUnR T Pg Nb fl (kCR2 w fl z Pg Nb) fl).1 16 t 0 ≠ 0 ↔ lg_ov (kCr2 u n fl T Wd Pg Nb 9) t (kUnd T Pg Nb fl (kCr u n fl T Wd Pg Nb) fl 0).2.1 < lg_lu (kCr2 u n fl T Wd Pg Nb 9) t (kUnd T Pg Nb fl (kCr u n fl T Wd Pg Nb) fl 0).2.1) := fun t ht => by
    unfold kCr2
    rw [eK2, (o5 t).1, (o5 t).2]
    exact o6 t ht
  have hEn := kEnds_E (u := kCr2 u n fl T Wd Pg Nb) c19 hact2
  have hEo := kEnds_ok (u := kCr2 u n fl T Wd Pg Nb) c19 hact2
  refine ⟨z, fl, T, Wd, Pg, Nb, ⟨hL.1, by omega, hL.2.1, hfl⟩, ⟨hE 14 0 0 (sh_14 0), hE 15 0 0 (sh_15 0)⟩, fun i a b => by rw [tT]; exact hgT i a b, fun i a b c => ?_, hW4, fun i a b c => by rw [tP, tN]; exact hgP i a b (hk01 i a b c), o1, hEo, fun i a b c => ?_, fun i a b => by rw [tT, e9]; exact hgT i a b, fun i a b c => ?_, o2, fun t ht => ?_, ?_⟩
  · have hk := (lg_k_eq (k := 1) (hVf i b a) (by decide)).mp c
    rw [tW i b a hk]
    exact ((hVf i b a).2.2.2.2.2 hk).1
  · rw [e9] at c ⊢
    have hr := hV i b a
    have hk := (lg_k_eq (k := 1) hr (by decide)).mp c
    have h9 := hr.2.2.2.2.2 hk
    exact ⟨lg_w (u 9) i, by have := h9.2.2.1; omega, h9.1⟩
  · rw [e9] at c ⊢
    rw [tP, tN]
    rw [(hVf i b a).1, nI_2k (hVf i b a).2.1] at c
    exact hgP i a b c
  · rw [o3, (hEn t (by omega)).1]
    exact hEo t ht
  obtain ⟨n1, n2, n3, -, n5, n6⟩ := hEn 8 (Nat.le_refl _)
  have eP : kEnR (kUnR T Pg Nb fl (kCR2 w fl z Pg Nb) fl).1 (kUnR T Pg Nb fl (kCR2 w fl z Pg Nb) fl).2 8 = kEnR (kUnR T Pg Nb fl (kCR2 w fl z Pg Nb) fl).1 (kUnd T Pg Nb fl (kCr u n fl T Wd Pg Nb) fl 0).2.1 8 := by rw [o3]
  have eE3 : kCr3 u n fl T Wd Pg Nb = (kEnds (kCr2 u n fl T Wd Pg Nb) (kUnd T Pg Nb fl (kCr u n fl T Wd Pg Nb) fl 0).2.1 8).1 := rfl
  have eR3 : kCR3 w fl z T Pg Nb = kEnR (kUnR T Pg Nb fl (kCR2 w fl z Pg Nb) fl).1 (kUnd T Pg Nb fl (kCr u n fl T Wd Pg Nb) fl 0).2.1 8 := eP
  have e20 : kCr2 u n fl T Wd Pg Nb 19 0 0 = nI (kUnd T Pg Nb fl (kCr u n fl T Wd Pg Nb) fl 0).2.2 := ku_s _ _ _ _ _
  rw [o7, ← e20] at n5
  unfold kCrashR kCR4 kCrash kCr4
  rw [eR3, eE3]
  generalize kEnds (kCr2 u n fl T Wd Pg Nb) (kUnd T Pg Nb fl (kCr u n fl T Wd Pg Nb) fl 0).2.1 8 = P1 at n1 n2 n3 n6
  generalize kEnR (kUnR T Pg Nb fl (kCR2 w fl z Pg Nb) fl).1 (kUnd T Pg Nb fl (kCr u n fl T Wd Pg Nb) fl 0).2.1 8 = P2 at n1 n2 n3 n5
  obtain ⟨U, z2⟩ := P1
  obtain ⟨V, y⟩ := P2
  dsimp only at n1 n2 n3 n5 n6 ⊢
  subst n1
  obtain ⟨m1, m2, m3, m4, m5, m6, -⟩ := n2
  have hy := kIL_z m2
  have hyf := m2.2.2.1
  have eFl : kFlu U (U 14 0 0) = ku U 15 0 0 (nI y) := by
    unfold kFlu
    rw [if_neg (Int32.lt_irrefl), m2.1, m2.2.1]
    by_cases q : fl = y
    · rw [q, if_neg (Int32.lt_irrefl)]
    · rw [if_pos (nI_lt (by omega) (by omega))]
  rw [eFl]
  have hEE : kE U V := by
    intro F a b hs
    by_cases q : kXx F a b
    · rcases q with ⟨q1 | q1, q2, q3⟩ | ⟨q1, q2, q3⟩
      · subst q1; subst q3
        rw [(m3 a q2).1, (n3 a q2).1]
      · subst q1; subst q3
        rw [(m3 a q2).2, (n3 a q2).2.1]
      · subst q1; subst q2; subst q3
        rw [n5, n6]
    · exact m1 F a b hs q
  have hE2 := kE_ku hEE 15 0 0 (nI y)
  have e18 := hE2 18 0 0 (sh_18 0)
  have hzero : ∀ f, f < n → kCr u n fl T Wd Pg Nb 1 f 0 = -1 ∧ kCr u n fl T Wd Pg Nb 2 f 0 = 0 ∧ kCr u n fl T Wd Pg Nb 3 f 0 = 0 ∧ kCr u n fl T Wd Pg Nb 4 f 0 = 0 ∧ kCr u n fl T Wd Pg Nb 5 f 8 = 0 := fun f hf => by
    rw [eBp 1 f 0 (by decide) (by decide) (by decide) (by decide), eBp 2 f 0 (by decide) (by decide) (by decide) (by decide), eBp 3 f 0 (by decide) (by decide) (by decide) (by decide), eBp 4 f 0 (by decide) (by decide) (by decide) (by decide), eBp 5 f 8 (by decide) (by decide) (by decide) (by decide), kClr_at, kClr_at, kClr_at, kClr_at, kClr_at]
    simp [hf]
  have hfar : ∀ f, n ≤ f → kCr u n fl T Wd Pg Nb 1 f 0 = -1 ∧ kCr u n fl T Wd Pg Nb 2 f 0 = 0 ∧ kCr u n fl T Wd Pg Nb 3 f 0 = 0 ∧ kCr u n fl T Wd Pg Nb 4 f 0 = 0 ∧ kCr u n fl T Wd Pg Nb 5 f 8 = 0 := fun f hf => by
    have hnf : ¬ f < n := by omega
    rw [eBp 1 f 0 (by decide) (by decide) (by decide) (by decide), eBp 2 f 0 (by decide) (by decide) (by decide) (by decide), eBp 3 f 0 (by decide) (by decide) (by decide) (by decide), eBp 4 f 0 (by decide) (by decide) (by decide) (by decide), eBp 5 f 8 (by decide) (by decide) (by decide) (by decide), kClr_at, kClr_at, kClr_at, kClr_at, kClr_at, if_neg hnf, if_neg hnf, if_neg hnf, if_neg hnf, if_neg hnf, hFo 1 f 0 (by decide) (by decide) (by decide) (by decide) (by decide), hFo 2 f 0 (by decide) (by decide) (by decide) (by decide) (by decide), hFo 3 f 0 (by decide) (by decide) (by decide) (by decide) (by decide), hFo 4 f 0 (by decide) (by decide) (by decide) (by decide) (by decide), hFo 5 f 8 (by decide) (by decide) (by decide) (by decide) (by decide)]
    exact hF.2.2.2.2 f hf
  have hu9 : ∀ (x : Int32) (F a b : Nat), 1 ≤ F → F ≤ 6 → ku (ku U 15 0 0 (nI y)) 18 0 0 x F a b = kCr u n fl T Wd Pg Nb F a b := fun x F a b c1 c2 => by
    rw [ku_F (by omega), ku_F (by omega)]
    exact m4 F a b c1 c2
  refine ⟨by rw [ku_F (by decide), ku_F (by decide)]; exact m5, h0, ?_, ?_, y, y, ?_, ?_⟩
  · rw [e18]
    exact kE_ku hE2 18 0 0 _
  · refine ⟨fun f hf => Or.inl ?_, fun f hf => ⟨0, Nat.zero_le _, ?_⟩, ⟨0, by omega, ?_⟩, ?_, fun f hf => ?_⟩
    · rw [hu9 _ 1 f 0 (by decide) (by decide), hu9 _ 2 f 0 (by decide) (by decide), hu9 _ 3 f 0 (by decide) (by decide), hu9 _ 4 f 0 (by decide) (by decide), hu9 _ 5 f 8 (by decide) (by decide)]
      exact hzero f hf
    · rw [hu9 _ 2 f 0 (by decide) (by decide), (hzero f hf).2.1]; rfl
    · rw [hu9 _ 6 0 0 (by decide) (by decide), eB 6 0 0 (by decide)]
      simp [kfl, ku]
      rfl
    · rw [ku_F (by decide), ku_F (by decide), m6]; exact hF.2.2.2.1
    · rw [hu9 _ 1 f 0 (by decide) (by decide), hu9 _ 2 f 0 (by decide) (by decide), hu9 _ 3 f 0 (by decide) (by decide), hu9 _ 4 f 0 (by decide) (by decide), hu9 _ 5 f 8 (by decide) (by decide)]
      exact hfar f hf
  · have e99 : ∀ x, ku (ku U 15 0 0 (nI y)) 18 0 0 x 9 = U 9 := fun x => by funext a b; rw [ku_F (by decide), ku_F (by decide)]
    refine ⟨by rw [ku_F (by decide), ku_F (by decide)]; exact m2.1, by rw [ku_F (by decide), ku_s], Nat.le_refl _, by rw [e99]; exact m2.2.2.2.1, ?_, ?_, by rw [e99]; exact m2.2.2.2.2.2.2⟩
    · refine lg_C_eq (fun i _ _ => by rw [e99]) ?_ ?_ ?_ ?_ m2.2.2.2.2.1 <;> (funext a b; rw [ku_F (by decide), ku_F (by decide)])
    · exact lg_D_eq (fun i _ _ => by funext b; rw [ku_F (by decide), ku_F (by decide)]) (by funext a b; rw [ku_F (by decide), ku_F (by decide)]) m2.2.2.2.2.2.1
  · have e99 : ∀ x, ku (ku U 15 0 0 (nI y)) 18 0 0 x 9 = U 9 := fun x => by funext a b; rw [ku_F (by decide), ku_F (by decide)]
    refine ⟨?_, fun t ht c => ?_, fun t ht _ => ?_⟩
    · rw [e99, kct_zero 8 (fun t ht => by rw [ku_F (by decide), ku_F (by decide)]; exact (m3 t ht).1)]
      have := m2.2.2.2.2.2.2 y (Nat.le_refl _)
      unfold lg_tot at this
      omega
    · rw [e99] at c
      exact absurd c (n3 t ht).2.2
    · rw [ku_F (by decide), ku_F (by decide)]; exact (m3 t ht).2
end KCS
