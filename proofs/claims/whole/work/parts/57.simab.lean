section KAB
theorem lg_s_undo {r : kRw} {z : Nat} (hV : lg_V r (z + 1)) (hk : lg_k r (z + 1) = 1) : lg_s (fun t => lg_n r t (z + 1)) 8 + 1 = lg_s (fun t => lg_n r t z) 8 := by
  have h0 := hV (z + 1) (by omega) (by omega)
  have e1 := lg_n_undo hV rfl hk
  have e2 := lg_s_at (f := fun t => lg_n r t (z + 1)) (g := fun t => lg_n r t z) (t0 := lg_t r (z + 1)) 8 h0.2.2.2.1 (fun t _ b => lg_n_other hV (Ne.symm b))
  omega
theorem ku_comm {u : kS} {F i j G a b : Nat} {x y : Int32} (h : F ≠ G) : ku (ku u F i j x) G a b y = ku (ku u G a b y) F i j x := by
  funext F9 a9 b9
  unfold ku
  by_cases c : F9 = F ∧ a9 = i ∧ b9 = j
  · have : ¬ (F9 = G ∧ a9 = a ∧ b9 = b) := fun q => h (c.1.symm.trans q.1)
    rw [if_neg this, if_pos c, if_pos c]
  · rw [if_neg c, if_neg c]
theorem kOpen_iff {u v : kS} {z fl i t : Nat} (hL : kIL u v z fl) (ht : t < 8) (h1 : 1 ≤ i) (h2 : i ≤ z) (he : lg_t (u 9) i = t) : kOpen u i t ↔ lg_o (u 9) t z i = true := by
  have hz := kIL_z hL
  have hr := hL.2.2.2.1 i h1 h2
  have hov := lg_ov_le (u 9) t z
  unfold kOpen
  rw [lg_o_iff, show ((0 : Int32) = nI 0) from rfl, lg_k_eq hr (by decide), hL.2.2.2.2.1.2 i h1 h2, (hL.2.2.2.2.1.1 t ht).2.1, nI_ltI (by omega) (by omega)]
  constructor
  · rintro ⟨a, b, c⟩
    refine ⟨he, a, c, ?_⟩
    by_cases e : lg_ud (u 9) i z = true
    · rw [if_pos e] at b; exact absurd b (by decide)
    · simpa using e
  · rintro ⟨-, a, c, b⟩
    refine ⟨a, ?_, c⟩
    rw [b]; rfl
/-- while t is undone: no record above i is open -/
def kJ (n N t i : Nat) (u w : kS) : Prop := ∃ z fl, kE u w ∧ kIF n N u w ∧ kIL u w z fl ∧ kIA u z ∧ i ≤ z ∧ u 16 t 0 ≠ 0 ∧ ∀ j, i < j → j ≤ z → lg_o (u 9) t z j = false
theorem kJ_skip {n N t i z : Nat} {u w : kS} (h : kJ n N t (i + 1) u w) (hz : u 14 0 0 = nI z) (hz4 : z ≤ 400) (ho : lg_o (u 9) t z (i + 1) = false) : kJ n N t i u w := by
  obtain ⟨z9, fl, h1, h2, h3, h4, h5, h6, h7⟩ := h
  have ez : z9 = z := (nI_eq (by have := kIL_z h3; omega) (by omega)).mp (h3.1.symm.trans hz)
  subst ez
  refine ⟨z9, fl, h1, h2, h3, h4, by omega, h6, fun j a b => ?_⟩
  by_cases e : j = i + 1
  · subst e; exact ho
  · exact h7 j (by omega) b
theorem kUndR_eq {u : kS} {f i k z : Nat} : kUndR u f i k z = ku (ku (ku (kTell u i z (u 23 f k)) 23 f k (u 9 i 4)) 5 f 8 (nI (z + 1))) 3 f 0 1 := by
  unfold kUndR
  rw [ku_comm (F := 5) (G := 23) (by decide)]
theorem kJ_undo {n N t i z q k f h : Nat} {u w w1 : kS} (hn : n ≤ 8) (ht : t < 8) (hJ : kJ n N t (i + 1) u w) (hz : u 14 0 0 = nI z) (hz4 : z ≤ 400) (ho : lg_o (u 9) t z (i + 1) = true) (hq : q < 32) (hq9 : u 9 (i + 1) 2 = nI q) (hk : k < 8) (hk9 : u 9 (i + 1) 3 = nI k) (hh : h < n) (hH : u 6 0 0 = nI h) (hf : (kBr u n q).2 = some f) (hb : kBringR w n q h (nI f) w1) :
    kJ n N t i (kUndP (kBr u n q).1 f (i + 1) t k z) (kUndR w1 f (i + 1) k z) := by
  obtain ⟨z9, fl, hE, hF, hL, hA, h5, h6, h7⟩ := hJ
  have ez : z9 = z := (nI_eq (by have := kIL_z hL; omega) (by omega)).mp (hL.1.symm.trans hz)
  subst ez
  have hz9 := kIL_z hL
  have hkh : kNat (u 6 0 0) = h := by rw [hH]; exact kNat_n (by omega)
  obtain ⟨hfn, hpg⟩ := kBr_page hn (by rw [hkh]; exact hh) hf
  obtain ⟨-, g2, g3⟩ := kBr_E hE hF hq hH hh hn hb
  have e9 : (kBr u n q).1 9 = u 9 := by funext a b; exact kBr_F (by decide)
  have g4 : kIL (kBr u n q).1 w1 z9 fl := kIL_congr hL (fun F a b h1 _ => kBr_F h1) (fun a b => kBringR_F hb (by decide) (by decide)) (fun a b => kBringR_F hb (by decide) (by decide))
  have g5 : kIA (kBr u n q).1 z9 := kIA_congr hA e9 (fun t => kBr_F (by decide)) (fun t => kBr_F (by decide))
  have g6 : (kBr u n q).1 16 t 0 ≠ 0 := by rw [kBr_F (by decide)]; exact h6
  generalize (kBr u n q).1 = U at hpg g2 g3 e9 g4 g5 g6
  rw [← e9] at ho hq9 hk9 h7
  have ho9 := lg_o_iff.mp ho
  have hr0 := g4.2.2.2.1 (i + 1) (by omega) (by omega)
  have ht9 : U 9 (i + 1) 1 = nI t := (lg_t_eq hr0 ht).mpr ho9.1
  have h23 : w1 23 f k = U 5 f k := by
    rcases g3.1 f hfn with h9 | h9
    · rw [hpg] at h9; exact absurd h9.1 (nI_n1 (by omega))
    · exact h9.2 k hk
  have hR := kAR_tell g2 (z := z9) (i := i + 1) (t := t) (x := U 5 f k) (by omega) ht9
  rw [hq9, hk9] at hR
  have hr := lg_r_undo (u := U) (z := z9) (t := t) (i := i + 1) (q := q) (k := k) (k4 := U 5 f k) (k5 := U 9 (i + 1) 4) (by omega) h5 (by omega) ht hq hk ho
  have hVn := lg_V_app g4.2.2.2.1 hr
  have ek : lg_k (kApp U (z9 + 1) 1 (nI t) (nI q) (nI k) (U 5 f k) (U 9 (i + 1) 4) (nI (i + 1)) 9) (z9 + 1) = 1 := by unfold lg_k; rw [kApp_0]; rfl
  have et : lg_t (kApp U (z9 + 1) 1 (nI t) (nI q) (nI k) (U 5 f k) (U 9 (i + 1) 4) (nI (i + 1)) 9) (z9 + 1) = t := by unfold lg_t; rw [kApp_1]; exact kNat_n (by omega)
  have htot : lg_tot (kApp U (z9 + 1) 1 (nI t) (nI q) (nI k) (U 5 f k) (U 9 (i + 1) 4) (nI (i + 1)) 9) (z9 + 1) ≤ 399 := by
    rw [lg_tot_undo hVn ek, lg_tot_app]
    exact g4.2.2.2.2.2.2 z9 (Nat.le_refl _)
  have hs9 := lg_s_undo hVn ek
  rw [lg_s_congr (f := fun t9 => lg_n (kApp U (z9 + 1) 1 (nI t) (nI q) (nI k) (U 5 f k) (U 9 (i + 1) 4) (nI (i + 1)) 9) t9 z9) (g := fun t => lg_n (U 9) t z9) 8 (fun t _ => lg_n_app)] at hs9
  obtain ⟨a1, a2⟩ := kAp g2 g4 ht hR (fun _ => ⟨rfl, by omega⟩) hr htot
  have hF1 := kIF_app (k0 := 1) (k1 := nI t) (k2 := nI q) (k3 := nI k) (k4 := U 5 f k) (k5 := U 9 (i + 1) 4) (k6 := nI (i + 1)) (t := t) (w := i + 1) g3 hR
  have eU : kUndP U f (i + 1) t k z9 = ku (ku (ku (kFol (kApp U (z9 + 1) 1 (nI t) (nI q) (nI k) (U 5 f k) (U 9 (i + 1) 4) (nI (i + 1))) (z9 + 1) t (i + 1)) 5 f k (U 9 (i + 1) 4)) 5 f 8 (nI (z9 + 1))) 3 f 0 1 := by
    unfold kUndP
    rw [hq9, hk9]
  have e1 : kFol (kApp U (z9 + 1) 1 (nI t) (nI q) (nI k) (U 5 f k) (U 9 (i + 1) 4) (nI (i + 1))) (z9 + 1) t (i + 1) 1 f 0 = nI q := by
    rw [kFol_F ⟨by decide, by decide, by decide, by decide⟩, kApp_F (by decide) (by decide)]
    exact hpg
  rw [eU, kUndR_eq, h23, g2 9 (i + 1) 4 (sh_9 4)]
  have eA : ku (ku (ku (kFol (kApp U (z9 + 1) 1 (nI t) (nI q) (nI k) (U 5 f k) (U 9 (i + 1) 4) (nI (i + 1))) (z9 + 1) t (i + 1)) 5 f k (U 9 (i + 1) 4)) 5 f 8 (nI (z9 + 1))) 3 f 0 1 9 = kApp U (z9 + 1) 1 (nI t) (nI q) (nI k) (U 5 f k) (U 9 (i + 1) 4) (nI (i + 1)) 9 := by
    funext a b
    rw [ku_F (by decide), ku_F (by decide), ku_F (by decide), kFol_9]
  have eF : ∀ F a, F = 16 ∨ F = 17 → ku (ku (ku (kFol (kApp U (z9 + 1) 1 (nI t) (nI q) (nI k) (U 5 f k) (U 9 (i + 1) 4) (nI (i + 1))) (z9 + 1) t (i + 1)) 5 f k (U 9 (i + 1) 4)) 5 f 8 (nI (z9 + 1))) 3 f 0 1 F a 0 = U F a 0 := fun F a hF => by
    rw [ku_F (by omega), ku_F (by omega), ku_F (by omega), kFol_F ⟨by omega, by omega, by omega, by omega⟩, kApp_F (by omega) (by omega)]
  refine ⟨z9 + 1, fl, kE_row a1 hk, kIF_row hF1 hfn hk e1 hq, ?_, ?_, by omega, ?_, fun j c1 c2 => ?_⟩
  · exact kIL_congr a2 (fun F a b h1 h2 => by rw [ku_F (by omega), ku_F (by omega), ku_F (by omega)]) (fun a b => by rw [ku_F (by decide), ku_F (by decide), ku_F (by decide)]) (fun a b => by rw [ku_F (by decide), ku_F (by decide), ku_F (by decide)])
  · refine ⟨?_, fun j hj c => ?_, fun j hj c => ?_⟩
    · rw [eA, show (fun t9 => ku (ku (ku (kFol (kApp U (z9 + 1) 1 (nI t) (nI q) (nI k) (U 5 f k) (U 9 (i + 1) 4) (nI (i + 1))) (z9 + 1) t (i + 1)) 5 f k (U 9 (i + 1) 4)) 5 f 8 (nI (z9 + 1))) 3 f 0 1 16 t9 0) = (fun t => U 16 t 0) from funext fun a => eF 16 a (Or.inl rfl)]
      have := g5.1
      omega
    · rw [eA] at c
      unfold lg_ov lg_lu at c
      rw [ek, if_neg (fun q => absurd q.2 (by decide)), if_neg (fun q => absurd q.2 (by decide)), lg_ov_app, lg_lu_app] at c
      rw [eF 16 j (Or.inl rfl)]
      exact g5.2.1 j hj c
    · rw [eF 16 j (Or.inl rfl)] at c
      rw [eF 17 j (Or.inr rfl)]
      exact g5.2.2 j hj c
  · rw [eF 16 t (Or.inl rfl)]; exact g6
  · rw [eA]
    by_cases hb9 : lg_o (kApp U (z9 + 1) 1 (nI t) (nI q) (nI k) (U 5 f k) (U 9 (i + 1) 4) (nI (i + 1)) 9) t (z9 + 1) j = true
    · exfalso
      rw [lg_o_iff] at hb9
      by_cases ej : j = z9 + 1
      · subst ej
        rw [ek] at hb9
        exact absurd hb9.2.1 (by decide)
      · have hud := hb9.2.2.2
        rw [lg_ud_s, Bool.or_eq_false_iff] at hud
        have ewk : (lg_w (kApp U (z9 + 1) 1 (nI t) (nI q) (nI k) (U 5 f k) (U 9 (i + 1) 4) (nI (i + 1)) 9) (z9 + 1) == j) = false := by
          have := hud.1
          rw [ek] at this
          simpa using this
        have ew : lg_w (kApp U (z9 + 1) 1 (nI t) (nI q) (nI k) (U 5 f k) (U 9 (i + 1) 4) (nI (i + 1)) 9) (z9 + 1) = i + 1 := by unfold lg_w; rw [kApp_6]; exact kNat_n (by omega)
        rw [ew] at ewk
        have hji : j ≠ i + 1 := fun e => by rw [e] at ewk; simp at ewk
        have h9 := h7 j (by omega) (by omega)
        have : lg_o (U 9) t z9 j = true := by
          rw [← lg_o_eq (r9 := kApp U (z9 + 1) 1 (nI t) (nI q) (nI k) (U 5 f k) (U 9 (i + 1) 4) (nI (i + 1)) 9) (fun a b c => kApp_row (by omega)) (by omega) (by omega), lg_o_iff]
          refine ⟨hb9.1, hb9.2.1, ?_, hud.2⟩
          have := hb9.2.2.1
          unfold lg_ov at this
          rw [ek, if_neg (fun q => absurd q.2 (by decide))] at this
          exact this
        rw [h9] at this
        cases this
    · simpa using hb9
/-- bring has an end, whatever there is -/
theorem kBringR_ex {n N q h : Nat} {u w : kS} (hE : kE u w) (hF : kIF n N u w) (hn : n ≤ 8) (hh : h < n) : ∃ r w1, kBringR w n q h r w1 := by
  have hfn : ∀ (pg : Int32) (g : Nat), kfnd w n pg = some g → g < n ∧ w 1 g 0 = pg ∧ ∀ j, j < g → w 1 j 0 ≠ pg := fun pg g e => by
    unfold kfnd at e
    rw [List.find?_range_eq_some] at e
    exact ⟨by simpa using e.2.1, by simpa using e.1, fun j hj => by simpa using e.2.2 j hj⟩
  have hfo : ∀ (pg : Int32), kfnd w n pg = none → ∀ j, j < n → w 1 j 0 ≠ pg := fun pg e j hj => by
    unfold kfnd at e
    rw [List.find?_eq_none] at e
    simpa using e j (by simpa using hj)
  have hneg : ∀ f, f < n → (w 1 f 0 < 0 ↔ w 1 f 0 = -1) := fun f hf => by
    rw [hE 1 f 0 (sh_1 0)]
    exact kIF_neg hF hf
  cases e1 : kfnd w n (nI q) with
  | some f =>
    obtain ⟨g1, g2, g3⟩ := hfn _ _ e1
    exact ⟨_, _, Or.inl ⟨f, g1, g2, g3, rfl, rfl⟩⟩
  | none =>
    have g0 := hfo _ e1
    cases e2 : kfnd w n (-1) with
    | some f =>
      obtain ⟨g1, g2, g3⟩ := hfn _ _ e2
      exact ⟨_, _, Or.inr ⟨g0, nI f, w, Or.inl ⟨f, g1, (hneg f g1).mpr g2, fun j hj c => g3 j hj ((hneg j (by omega)).mp c), rfl, rfl⟩, Or.inr ⟨f, g1, rfl, rfl, rfl⟩⟩⟩
    | none =>
      have g1 := hfo _ e2
      have g2 : ∀ j, j < n → ¬ w 1 j 0 < 0 := fun j hj c => g1 j hj ((hneg j hj).mp c)
      by_cases hm : ∃ j, j < n ∧ kMay w j (w 15 0 0)
      · obtain ⟨f, hf⟩ := kTurn_some hh hm
        exact ⟨_, _, Or.inr ⟨g0, nI f, _, Or.inr (Or.inr ⟨f, kTurn_lt _ _ _ _ hh hf, g2, hf, rfl, rfl⟩), Or.inr ⟨f, kTurn_lt _ _ _ _ hh hf, rfl, rfl, rfl⟩⟩⟩
      · exact ⟨_, _, Or.inr ⟨g0, -1, w, Or.inr (Or.inl ⟨g2, hm, rfl, rfl⟩), Or.inl ⟨rfl, rfl, rfl⟩⟩⟩
/-- what the class' abort needs -/
theorem kAbI_J {n N t : Nat} (hn : n ≤ 8) (ht : t < 8) : kAbI n t (fun i v => ∃ w, kJ n N t i v w) := by
  refine ⟨fun v h => ?_, fun i v h => ?_⟩
  · obtain ⟨w, z, fl, -, -, h3, -⟩ := h
    exact ⟨z, h3.1, by have := kIL_z h3; omega⟩
  · obtain ⟨w, hJ⟩ := h
    obtain ⟨z, fl, hE, hF, hL, hA, h5, h6, h7⟩ := id hJ
    have hz := kIL_z hL
    have hr := hL.2.2.2.1 (i + 1) (by omega) h5
    refine ⟨z, lg_t (v 9) (i + 1), hL.1, h5, by omega, hr.2.2.2.1, hr.2.2.1, fun hno => ?_, fun hyes => ?_⟩
    · refine ⟨w, kJ_skip hJ hL.1 (by omega) ?_⟩
      by_cases c : lg_o (v 9) t z (i + 1) = true
      · have e := (lg_o_iff.mp c).1
        exact absurd ⟨(kOpen_iff hL hr.2.2.2.1 (by omega) h5 rfl).mpr (by rw [e]; exact c), (lg_t_eq hr ht).mpr e⟩ hno
      · simpa using c
    · have e := (lg_t_eq hr ht).mp hyes.2
      have ho : lg_o (v 9) t z (i + 1) = true := by
        have := (kOpen_iff hL hr.2.2.2.1 (by omega) h5 rfl).mp hyes.1
        rw [e] at this
        exact this
      have hk0 := (lg_o_iff.mp ho).2.1
      obtain ⟨q, k, hq, hq9, hk, hk9⟩ := hr.2.2.2.2.1 (by omega)
      refine ⟨by omega, kIF_kFr hF, q, k, hq, hq9, hk, hk9, fun f hf => ?_⟩
      obtain ⟨h, hh, hH⟩ := hF.2.2.1
      obtain ⟨r, w1, hb⟩ := kBringR_ex (q := q) hE hF hn hh
      have := (kBr_E hE hF hq hH hh hn hb).1
      rw [hf] at this
      rw [this] at hb
      exact ⟨_, kJ_undo hn ht hJ hL.1 (by omega) ho hq hq9 hk hk9 hh hH hf hb⟩
theorem kAb_s {n t i : Nat} {u : kS} {d : Nat} : kAb n t (i + 1) u d = if kOpen u (i + 1) (kNat (u 9 (i + 1) 1)) ∧ u 9 (i + 1) 1 = nI t then
      match (kBr u n (kNat (u 9 (i + 1) 2))).2 with
      | none => ((kBr u n (kNat (u 9 (i + 1) 2))).1, none)
      | some f => kAb n t i (kUndP (kBr u n (kNat (u 9 (i + 1) 2))).1 f (i + 1) t (kNat (u 9 (i + 1) 3)) (kNat (u 14 0 0))) (d + 1)
    else kAb n t i u d := rfl
/-- records that aren't open are passed over -/
theorem kAb_skip {n N t : Nat} (ht : t < 8) {u w : kS} {z fl d i : Nat} (hL : kIL u w z fl) : ∀ k, i ≤ k → k ≤ z → (∀ j, i < j → j ≤ k → lg_o (u 9) t z j = false) → kAb n t k u d = kAb n t i u d
  | 0, h1, _, _ => by rw [show i = 0 by omega]
  | k + 1, h1, h2, h3 => by
    by_cases e : i = k + 1
    · rw [e]
    · rw [← kAb_skip (N := N) ht hL k (by omega) (by omega) (fun j a b => h3 j a (by omega)), kAb_s, if_neg]
      rintro ⟨c1, c2⟩
      have hr := hL.2.2.2.1 (k + 1) (by omega) h2
      have et := (lg_t_eq hr ht).mp c2
      have := (kOpen_iff hL hr.2.2.2.1 (by omega) h2 rfl).mp c1
      rw [et, h3 (k + 1) (by omega) (Nat.le_refl _)] at this
      cases this
/-- the reference, beside the class' own course -/
def kJR (n N t : Nat) (P : kS × Option Nat) (i : Nat) (w : kS) (d : Nat) : Prop := ∃ u, kJ n N t i u w ∧ kAb n t i u d = P ∧ w 20 0 0 = 0
theorem kLast_J {n N t i : Nat} (ht : t < 8) {u w : kS} {z : Nat} (hJ : kJ n N t i u w) (hz : u 14 0 0 = nI z) (hz4 : z ≤ 400) : kLast w (nI t) z ≤ i ∧ (kLast w (nI t) z ≠ 0 → lg_o (u 9) t z (kLast w (nI t) z) = true) ∧ ∀ j, kLast w (nI t) z < j → j ≤ z → lg_o (u 9) t z j = false := by
  obtain ⟨z9, fl, hE, hF, hL, hA, h5, h6, h7⟩ := hJ
  have ez : z9 = z := (nI_eq (by have := kIL_z hL; omega) (by omega)).mp (hL.1.symm.trans hz)
  subst ez
  have e9 := kE_9 hE
  obtain ⟨g1, g2, g3⟩ := kLast_n ht (by rw [e9]; exact hL.2.2.2.1) hL.2.2.2.2.2.1 z9 (Nat.le_refl _) rfl
  rw [e9] at g2 g3
  refine ⟨?_, g2, g3⟩
  by_cases c : kLast w (nI t) z9 ≤ i
  · exact c
  · have := g2 (by omega)
    rw [h7 _ (by omega) g1] at this
    cases this
theorem kAbJ_J {n N t : Nat} {P : kS × Option Nat} (hn : n ≤ 8) (ht : t < 8) : kAbJ n t (kJR n N t P) := by
  intro k w d h
  obtain ⟨u, hJ, hP, h20⟩ := h
  obtain ⟨z, fl, hE, hF, hL, hA, h5, h6, h7⟩ := id hJ
  have hz := kIL_z hL
  obtain ⟨g1, g2, g3⟩ := kLast_J ht hJ hL.1 (by omega)
  refine ⟨z, (hE 14 0 0 (sh_14 0)).trans hL.1, by omega, hF.2.2.2.1, ?_⟩
  by_cases c : kLast w (nI t) z = 0
  · exact Or.inl c
  · obtain ⟨i, ei⟩ : ∃ i, kLast w (nI t) z = i + 1 := ⟨kLast w (nI t) z - 1, by omega⟩
    rw [ei] at g1 g2 g3
    have ho := g2 (by omega)
    have hr := hL.2.2.2.1 (i + 1) (by omega) (by omega)
    have hk0 := (lg_o_iff.mp ho).2.1
    obtain ⟨q, k9, hq, hq9, hk, hk9⟩ := hr.2.2.2.2.1 (by omega)
    obtain ⟨h, hh, hH⟩ := hF.2.2.1
    have e9 := kE_9 hE
    have hJ1 : kJ n N t (i + 1) u w := ⟨z, fl, hE, hF, hL, hA, by omega, h6, g3⟩
    refine Or.inr ⟨i, q, k9, h, ei, by omega, by omega, hq, by rw [e9]; exact hq9, hk, by rw [e9]; exact hk9, ⟨hh, (hE 6 0 0 (sh_6 0)).trans hH, fun f hf c3 => ?_, fun hm => kTurn_some hh hm⟩, fun f w1 hf hb => ?_⟩
    · rw [hE 1 f 0 (sh_1 0)]
      rw [hE 3 f 0 (sh_3 0)] at c3
      exact (kIF_kFr hF).2 f hf c3
    · have e0 := (kBr_E hE hF hq hH hh hn hb).1
      have hkh : kNat (u 6 0 0) = h := by rw [hH]; exact kNat_n (by omega)
      have ef : (kBr u n q).2 = some f := kO_is e0 (by omega) (fun g eg => by have := (kBr_page hn (by rw [hkh]; exact hh) eg).1; omega)
      refine ⟨_, kJ_undo hn ht hJ1 hL.1 (by omega) ho hq hq9 hk hk9 hh hH ef hb, ?_, ?_⟩
      · rw [← hP, kAb_skip (N := N) ht hL k (by omega) h5 (fun j a b => g3 j a (by omega)), kAb_s, if_pos]
        · rw [hq9, hk9, hL.1, kNat_n (show q < 2 ^ 31 by omega), kNat_n (show k9 < 2 ^ 31 by omega), kNat_n (show z < 2 ^ 31 by omega), ef]
        · have et := (lg_o_iff.mp ho).1
          refine ⟨(kOpen_iff hL (by have := hr.2.2.2.1; exact this) (by omega) (by omega) rfl).mpr (by show lg_o (u 9) (lg_t (u 9) (i + 1)) z (i + 1) = true; rw [et]; exact ho), (lg_t_eq hr ht).mpr et⟩
      · rw [← h20, ← kBringR_F hb (F := 20) (a := 0) (b := 0) (by decide) (by decide)]
        simp [kUndR, kTell, kRec, kApp, ku]
/-- abort: both sides answer alike -/
theorem s_abort {n N t z : Nat} {u w : kS} (hI : kI n N u w) (h20 : w 20 0 0 = 0) (ht : t < 8) (ha : u 16 t 0 ≠ 0) (hz : u 14 0 0 = nI z) (hz4 : z ≤ 400) :
    kJ n N t z (ku u 17 t 0 1) (ku w 17 t 0 1) ∧ kJR n N t (kAb n t z (ku u 17 t 0 1) 0) z (ku w 17 t 0 1) 0 ∧
    ∀ (b a : Option Value) (v9 u9 : kS), kAbRes n t (kJR n N t (kAb n t z (ku u 17 t 0 1) 0)) b v9 →
      (((kAb n t z (ku u 17 t 0 1) 0).2 = none ∧ a = some (.int (-2)) ∧ u9 = (kAb n t z (ku u 17 t 0 1) 0).1) ∨ (∃ d, (kAb n t z (ku u 17 t 0 1) 0).2 = some d ∧ a = some (.int (nI d)) ∧ u9 = kAbE (kAb n t z (ku u 17 t 0 1) 0).1 t)) → b = a ∧ v9 20 0 0 = 0 ∧ kI n (N + 1) u9 v9 := by
  obtain ⟨h0, hE, hF, z9, fl, hL, hA⟩ := hI
  have ez : z9 = z := (nI_eq (by have := kIL_z hL; omega) (by omega)).mp (hL.1.symm.trans hz)
  subst ez
  have hJ0 : kJ n N t z9 (ku u 17 t 0 1) (ku w 17 t 0 1) := by
    refine ⟨z9, fl, kE_ku hE 17 t 0 1, kIF_congr hF (fun F a b h1 h2 => ku_F (by omega)) (ku_F (by decide)) (fun a b => ku_F (by decide)), kIL_congr hL (fun F a b h1 h2 => ku_F (by omega)) (fun a b => ku_F (by decide)) (fun a b => ku_F (by decide)), ?_, Nat.le_refl _, by rw [ku_F (by decide)]; exact ha, fun j a b => by omega⟩
    have e9 : ku u 17 t 0 1 9 = u 9 := by funext a b; exact ku_F (by decide)
    refine ⟨?_, fun j hj c => ?_, fun j hj c => ?_⟩
    · rw [e9, show (fun t9 => ku u 17 t 0 1 16 t9 0) = (fun t => u 16 t 0) from funext fun a => ku_F (by decide)]
      exact hA.1
    · rw [e9] at c
      rw [ku_F (by decide)]
      exact hA.2.1 j hj c
    · rw [ku_F (by decide)] at c
      by_cases e : j = t
      · subst e; exact absurd c ha
      · rw [ku_i e]; exact hA.2.2 j hj c
  refine ⟨hJ0, ⟨_, hJ0, rfl, by rw [ku_F (by decide)]; exact h20⟩, ?_⟩
  intro b a v9 u9 hres hcl
  generalize kAb n t z9 (ku u 17 t 0 1) 0 = P at hres hcl
  obtain ⟨k, W, d, y, ⟨U, hJ, hP, hW20⟩, hy, hy4, hres⟩ := hres
  obtain ⟨z1, fl1, E1, F1, L1, A1, i1, a1, -⟩ := id hJ
  have hz1 := kIL_z L1
  have ey : z1 = y := (nI_eq (by omega) (by omega)).mp (L1.1.symm.trans ((E1 14 0 0 (sh_14 0)).symm.trans hy))
  subst ey
  obtain ⟨g1, g2, g3⟩ := kLast_J ht hJ L1.1 (by omega)
  rcases hres with ⟨c0, rfl, rfl⟩ | ⟨i, q, h, w1, ei, hq9, hq, hfr, hb, rfl, rfl⟩
  · rw [c0] at g3
    have hPe : P = (U, some d) := by
      rw [← hP, kAb_skip (N := N) (i := 0) ht L1 k (Nat.zero_le _) i1 (fun j a b => g3 j a (by omega))]
      rfl
    rw [hPe] at hcl
    rcases hcl with ⟨e, -⟩ | ⟨d9, e, rfl, rfl⟩
    · cases e
    · cases e
      obtain ⟨f1, f2, f3, f4⟩ := s_fin E1 F1 L1 A1 ht (j := 3) (Or.inr rfl) a1
      refine ⟨rfl, ?_, h0, ?_, ?_, z1 + 1, fl1, ?_, ?_⟩
      · rw [← hW20]
        simp [kAbER, kRec, kApp, ku]
      · unfold kAbE kAbER
        dsimp only
        rw [L1.1, kNat_n (by omega)]
        exact kE_ku (kE_ku f1 16 t 0 0) 17 t 0 0
      · unfold kAbE kAbER
        dsimp only
        rw [L1.1, kNat_n (by omega)]
        exact kIF_N (kIF_congr f2 (fun F a b h1 h2 => by rw [ku_F (by omega), ku_F (by omega)]) (by rw [ku_F (by decide), ku_F (by decide)]) (fun a b => by rw [ku_F (by decide), ku_F (by decide)])) (by omega)
      · unfold kAbE kAbER
        dsimp only
        rw [L1.1, kNat_n (by omega)]
        exact kIL_congr f3 (fun F a b h1 h2 => by rw [ku_F (by omega), ku_F (by omega)]) (fun a b => by rw [ku_F (by decide), ku_F (by decide)]) (fun a b => by rw [ku_F (by decide), ku_F (by decide)])
      · unfold kAbE
        dsimp only
        rw [L1.1, kNat_n (by omega)]
        refine f4 _ ?_ (fun i => ?_) (fun i hi => ?_) ?_
        · funext a b
          rw [ku_F (by decide), ku_F (by decide), kFol_9]
        · rw [ku_F (by decide)]
          by_cases e : i = t
          · subst e; rw [ku_s, if_pos rfl]
          · rw [ku_i e, if_neg e, kFol_F ⟨by decide, by decide, by decide, by decide⟩, kApp_F (by decide) (by decide)]
        · rw [ku_i hi, ku_F (by decide), kFol_F ⟨by decide, by decide, by decide, by decide⟩, kApp_F (by decide) (by decide)]
        · rw [ku_s]
  · rw [ei] at g1 g2 g3
    have ho := g2 (by omega)
    have hr := L1.2.2.2.1 (i + 1) (by omega) (by omega)
    have et := (lg_o_iff.mp ho).1
    have e9 := kE_9 E1
    rw [e9] at hq9
    obtain ⟨hh, hH, -⟩ := hfr
    have hH9 : U 6 0 0 = nI h := (E1 6 0 0 (sh_6 0)).symm.trans hH
    obtain ⟨b1, b2, b3⟩ := kBr_E E1 F1 hq hH9 hh h0.2 hb
    have hkh : kNat (U 6 0 0) = h := by rw [hH9]; exact kNat_n (by omega)
    have en := kO_no b1 (fun g eg => by have := (kBr_page h0.2 (by rw [hkh]; exact hh) eg).1; omega)
    have hPe : P = ((kBr U n q).1, none) := by
      rw [← hP, kAb_skip (N := N) (i := i + 1) ht L1 k (by omega) i1 (fun j a b => g3 j a (by omega)), kAb_s, if_pos]
      · rw [hq9, kNat_n (show q < 2 ^ 31 by omega), en]
      · exact ⟨(kOpen_iff L1 (by have := hr.2.2.2.1; exact this) (by omega) (by omega) rfl).mpr (by show lg_o (U 9) (lg_t (U 9) (i + 1)) z1 (i + 1) = true; rw [et]; exact ho), (lg_t_eq hr ht).mpr et⟩
    rw [hPe] at hcl
    rcases hcl with ⟨-, rfl, rfl⟩ | ⟨d9, e, -⟩
    · refine ⟨rfl, ?_, h0, b2, kIF_N b3 (by omega), z1, fl1, ?_, ?_⟩
      · rw [kBringR_F hb (by decide) (by decide)]; exact hW20
      · exact kIL_congr L1 (fun F a b h1 _ => kBr_F h1) (fun a b => kBringR_F hb (by decide) (by decide)) (fun a b => kBringR_F hb (by decide) (by decide))
      · exact kIA_congr A1 (by funext a b; exact kBr_F (by decide)) (fun t => kBr_F (by decide)) (fun t => kBr_F (by decide))
    · cases e
end KAB
