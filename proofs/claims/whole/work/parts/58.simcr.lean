section KCR
/-- where the two sides differ while a crash goes on -/
def kXx (F a b : Nat) : Prop := ((F = 16 ∨ F = 17) ∧ a < 8 ∧ b = 0) ∨ (F = 19 ∧ a = 0 ∧ b = 0)
def kEX (u v : kS) : Prop := ∀ F a b, kSh F b → ¬ kXx F a b → v F a b = u F a b
noncomputable def kMx (u v : kS) : kS := fun F a b => if ((F = 16 ∨ F = 17) ∧ a < 8 ∧ b = 0) ∨ (F = 19 ∧ a = 0 ∧ b = 0) then u F a b else v F a b
theorem kEX_mx {u v : kS} (h : kEX u v) : kE u (kMx u v) := by
  intro F a b hs
  unfold kMx
  split
  · rfl
  · rename_i c
    exact h F a b hs c
theorem kMx_o {u v : kS} {F a b : Nat} (h : ¬ kXx F a b) : kMx u v F a b = v F a b := if_neg h
theorem kEX_ku {u v : kS} (h : kEX u v) (F i j : Nat) (x : Int32) : kEX (ku u F i j x) (ku v F i j x) := by
  intro F9 a b hs hx
  unfold ku
  split
  · rfl
  · exact h F9 a b hs hx
theorem kEX_r {u v : kS} (h : kEX u v) {F i j : Nat} {x : Int32} (hs : ¬ kSh F j ∨ kXx F i j) : kEX u (ku v F i j x) := by
  intro F9 a b h9 hx
  unfold ku
  split
  · rename_i e
    obtain ⟨e1, e2, e3⟩ := e
    subst e1; subst e2; subst e3
    rcases hs with c | c
    · exact absurd h9 c
    · exact absurd c hx
  · exact h F9 a b h9 hx
theorem ku_commj {u : kS} {F i j k : Nat} {x y : Int32} (h : j ≠ k) : ku (ku u F i j x) F i k y = ku (ku u F i k y) F i j x := by
  funext F9 a9 b9
  unfold ku
  by_cases c : F9 = F ∧ a9 = i ∧ b9 = j
  · have : ¬ (F9 = F ∧ a9 = i ∧ b9 = k) := fun q => h (c.2.2.symm.trans q.2.2)
    rw [if_neg this, if_pos c, if_pos c]
  · rw [if_neg c, if_neg c]
/-- while a crash undoes and ends: u the class, v the reference, y records -/
def kCI (uA w : kS) (fl : Nat) (u v : kS) (y : Nat) : Prop := kEX u v ∧ kIL u v y fl ∧ (∀ t, t < 8 → u 16 t 0 = 0 ∧ u 17 t 0 = 0) ∧ (∀ F a b, 1 ≤ F → F ≤ 6 → u F a b = uA F a b) ∧ v 20 0 0 = w 20 0 0 ∧ v 21 0 0 = w 21 0 0 ∧ ∀ i, i ≤ fl → u 9 i = uA 9 i
theorem kCI_app {uA W u v V : kS} {z fl t w : Nat} {k0 k2 k3 k4 k5 k6 : Int32} (h : kCI uA W fl u v z) (ht : t < 8) (hV : kAR v V z (fun b => kApp u (z + 1) k0 (nI t) k2 k3 k4 k5 k6 9 (z + 1) b) k0 w) (hw : k0 = 1 → k6 = nI w ∧ w ≤ 400)
    (hr : lg_r (kApp u (z + 1) k0 (nI t) k2 k3 k4 k5 k6 9) (z + 1)) (htot : lg_tot (kApp u (z + 1) k0 (nI t) k2 k3 k4 k5 k6 9) (z + 1) ≤ 399) :
    kCI uA W fl (kFol (kApp u (z + 1) k0 (nI t) k2 k3 k4 k5 k6) (z + 1) t w) V (z + 1) := by
  obtain ⟨h1, h2, h3, h4, h5, h6, h7⟩ := h
  have n9 : ∀ a b, ¬ kXx 9 a b := fun a b q => by rcases q with q | q <;> omega
  have n14 : ∀ a b, ¬ kXx 14 a b := fun a b q => by rcases q with q | q <;> omega
  have n22 : ∀ a b, ¬ kXx 22 a b := fun a b q => by rcases q with q | q <;> omega
  have hL : kIL u (kMx u v) z fl := kIL_congr h2 (fun _ _ _ _ _ => rfl) (fun a b => kMx_o (n9 a b)) (fun a b => kMx_o (n22 a b))
  have hV' : kAR (kMx u v) (kMx u V) z (fun b => kApp u (z + 1) k0 (nI t) k2 k3 k4 k5 k6 9 (z + 1) b) k0 w := by
    refine ⟨fun b => by rw [kMx_o (n9 _ _)]; exact hV.1 b, by rw [kMx_o (n14 _ _)]; exact hV.2.1, fun F a b c1 c2 c3 => ?_, by rw [kMx_o (n22 _ _)]; exact hV.2.2.2.1, fun i hi => ?_⟩
    · unfold kMx
      split
      · rfl
      · exact hV.2.2.1 F a b c1 c2 c3
    · rw [kMx_o (n22 _ _), kMx_o (n22 _ _)]
      exact hV.2.2.2.2 i hi
  obtain ⟨g1, g2⟩ := kAp (kEX_mx h1) hL ht hV' hw hr htot
  refine ⟨fun F a b hs hx => ?_, kIL_congr g2 (fun _ _ _ _ _ => rfl) (fun a b => (kMx_o (n9 a b)).symm) (fun a b => (kMx_o (n22 a b)).symm), fun i hi => ?_, fun F a b c1 c2 => ?_, ?_, ?_, fun i hi => ?_⟩
  · have := g1 F a b hs
    rw [kMx_o hx] at this
    exact this
  · rw [kFol_F ⟨by decide, by decide, by decide, by decide⟩, kFol_F ⟨by decide, by decide, by decide, by decide⟩, kApp_F (by decide) (by decide), kApp_F (by decide) (by decide)]
    exact h3 i hi
  · rw [kFol_F ⟨by omega, by omega, by omega, by omega⟩, kApp_F (by omega) (by omega)]
    exact h4 F a b c1 c2
  · rw [hV.2.2.1 20 0 0 (by simp) (by simp) (by decide)]; exact h5
  · rw [hV.2.2.1 21 0 0 (by simp) (by simp) (by decide)]; exact h6
  · rw [kFol_9, kApp_row (by have := h2.2.2.1; omega)]
    exact h7 i hi
theorem kCI_0 {uA W u v : kS} {z fl p k : Nat} {x : Int32} (h : kCI uA W fl u v z) : kCI uA W fl (ku u 0 p k x) (ku v 0 p k x) z := by
  obtain ⟨h1, h2, h3, h4, h5, h6, h7⟩ := h
  refine ⟨kEX_ku h1 0 p k x, kIL_congr h2 (fun F a b c1 c2 => ku_F (by omega)) (fun a b => ku_F (by decide)) (fun a b => ku_F (by decide)), fun i hi => ?_, fun F a b c1 c2 => ?_, ?_, ?_, fun i hi => ?_⟩
  · rw [ku_F (by decide), ku_F (by decide)]; exact h3 i hi
  · rw [ku_F (by omega)]; exact h4 F a b c1 c2
  · rw [ku_F (by decide)]; exact h5
  · rw [ku_F (by decide)]; exact h6
  · rw [show ku u 0 p k x 9 = u 9 from by funext a b; exact ku_F (by decide)]; exact h7 i hi
theorem kCI_r {uA W u v : kS} {z fl F a b : Nat} {x : Int32} (h : kCI uA W fl u v z) (hX : kXx F a b) : kCI uA W fl u (ku v F a b x) z := by
  obtain ⟨h1, h2, h3, h4, h5, h6, h7⟩ := h
  have hF : F = 16 ∨ F = 17 ∨ F = 19 := by rcases hX with q | q <;> omega
  refine ⟨kEX_r h1 (Or.inr hX), kIL_congr h2 (fun _ _ _ _ _ => rfl) (fun a b => ku_F (by omega)) (fun a b => ku_F (by omega)), h3, h4, ?_, ?_, h7⟩
  · rw [ku_F (by omega)]; exact h5
  · rw [ku_F (by omega)]; exact h6
theorem lg_ov_s {r : kRw} {t z : Nat} : lg_ov r t (z + 1) = if lg_t r (z + 1) = t ∧ 2 ≤ lg_k r (z + 1) then z + 1 else lg_ov r t z := rfl
theorem lg_lu_s {r : kRw} {t z : Nat} : lg_lu r t (z + 1) = if lg_t r (z + 1) = t ∧ lg_k r (z + 1) = 0 then z + 1 else lg_lu r t z := rfl
/-- the undoing, step by step alike -/
theorem kUnd_E {uA W : kS} {fl : Nat} {T Pg Nb : Nat → Nat} (hT : ∀ i, 1 ≤ i → i ≤ fl → T i = lg_t (uA 9) i) (hP : ∀ i, 1 ≤ i → i ≤ fl → lg_k (uA 9) i < 2 → Pg i < 32 ∧ uA 9 i 2 = nI (Pg i) ∧ Nb i < 8 ∧ uA 9 i 3 = nI (Nb i)) :
    ∀ (i : Nat) (u v : kS) (y d : Nat), i ≤ fl → kCI uA W fl u v y → (∀ t, lg_ov (u 9) t y = lg_ov (uA 9) t fl ∧ lg_lu (u 9) t y = lg_lu (uA 9) t fl) → (∀ t, t < 8 → (v 16 t 0 ≠ 0 ↔ lg_ov (uA 9) t fl < lg_lu (uA 9) t fl)) → v 19 0 0 = nI d →
      kUndOk T Pg Nb i u y ∧ kUnROk T Pg Nb i v y ∧ (kUnR T Pg Nb i v y).2 = (kUnd T Pg Nb i u y d).2.1 ∧ kCI uA W fl (kUnd T Pg Nb i u y d).1 (kUnR T Pg Nb i v y).1 (kUnd T Pg Nb i u y d).2.1 ∧ (∀ t, lg_ov ((kUnd T Pg Nb i u y d).1 9) t (kUnd T Pg Nb i u y d).2.1 = lg_ov (uA 9) t fl ∧ lg_lu ((kUnd T Pg Nb i u y d).1 9) t (kUnd T Pg Nb i u y d).2.1 = lg_lu (uA 9) t fl) ∧ (∀ t, t < 8 → ((kUnR T Pg Nb i v y).1 16 t 0 ≠ 0 ↔ lg_ov (uA 9) t fl < lg_lu (uA 9) t fl)) ∧ (kUnR T Pg Nb i v y).1 19 0 0 = nI (kUnd T Pg Nb i u y d).2.2
  | 0, u, v, y, d, _, h, ho, ha, hd => ⟨trivial, trivial, rfl, h, ho, ha, hd⟩
  | i + 1, u, v, y, d, hi, h, ho, ha, hd => by
    have hL := h.2.1
    have hy := kIL_z hL
    have hfy := hL.2.2.1
    have e9 : v 9 = u 9 := by
      funext a b
      exact h.1 9 a b (sh_9 b) (fun q => by rcases q with q | q <;> omega)
    have er := h.2.2.2.2.2.2 (i + 1) hi
    have eT : lg_t (u 9) (i + 1) = T (i + 1) := by rw [hT (i + 1) (by omega) hi]; unfold lg_t; rw [er]
    have hr := hL.2.2.2.1 (i + 1) (by omega) (by omega)
    have ht : T (i + 1) < 8 := by rw [← eT]; exact hr.2.2.2.1
    have hiff := kOpen_iff hL ht (by omega) (show i + 1 ≤ y by omega) eT
    have hisl := kIsl_iff (w := v) (i := i + 1) (by omega) (y - (i + 1)) (by rw [e9, show i + 1 + (y - (i + 1)) = y by omega]; exact hL.2.2.2.1)
    rw [show i + 1 + (y - (i + 1)) = y by omega, e9, eT] at hisl
    have hD := hL.2.2.2.2.2.1 (i + 1) (by omega) (show i + 1 ≤ y by omega)
    rw [e9] at hD
    have hop : kOpR v (i + 1) (T (i + 1)) y ↔ kOpen u (i + 1) (T (i + 1)) := by
      rw [hiff, lg_o_iff]
      unfold kOpR
      rw [e9, hisl, hD, show ((0 : Int32) = nI 0) from rfl, lg_k_eq hr (by decide)]
      constructor
      · rintro ⟨a1, a2, a3, a4⟩
        refine ⟨eT, a1, ?_, ?_⟩
        · rcases Nat.lt_or_ge (lg_ov (u 9) (T (i + 1)) y) (i + 1) with q | q
          · exact q
          · exfalso
            have e : lg_ov (u 9) (T (i + 1)) y = i + 1 := by omega
            have := (lg_ov_is (r := u 9) (t := T (i + 1)) (z := y) (by omega)).2
            rw [e] at this
            omega
        · by_cases e : lg_ud (u 9) (i + 1) y = true
          · rw [if_pos e] at a2; exact absurd a2 (by decide)
          · simpa using e
      · rintro ⟨-, a1, a2, a3⟩
        refine ⟨a1, by rw [a3]; rfl, (ha _ ht).mpr ?_, by omega⟩
        have := lg_o_un (r := u 9) (t := T (i + 1)) (z := y) (i := i + 1) (by omega) (by omega) (lg_o_iff.mpr ⟨eT, a1, a2, a3⟩)
        rw [(ho _).1, (ho _).2] at this
        exact this
    rw [kUndOk_s, kUnROk_s, kUnR_s, kUnd_s]
    by_cases c : kOpen u (i + 1) (T (i + 1))
    · have cR := hop.mpr c
      rw [if_pos c, if_pos cR, if_pos cR, if_pos c]
      have hoo := hiff.mp c
      have hk0 := (lg_o_iff.mp hoo).2.1
      obtain ⟨hp1, hp2, hp3, hp4⟩ := hP (i + 1) (by omega) hi (by show kNat (uA 9 (i + 1) 0) < 2; rw [← er]; show lg_k (u 9) (i + 1) < 2; omega)
      rw [← er] at hp2 hp4
      have e0 : v 0 (Pg (i + 1)) (Nb (i + 1)) = u 0 (Pg (i + 1)) (Nb (i + 1)) := h.1 0 _ _ (sh_0 _) (fun q => by rcases q with q | q <;> omega)
      have ht9 : u 9 (i + 1) 1 = nI (T (i + 1)) := (lg_t_eq hr ht).mpr eT
      have hR0 := kAR_tell (kEX_mx h.1) (z := y) (i := i + 1) (t := T (i + 1)) (x := u 0 (Pg (i + 1)) (Nb (i + 1))) (by omega) ht9
      have hR : kAR v (kTell v (i + 1) y (u 0 (Pg (i + 1)) (Nb (i + 1)))) y (fun b => kApp u (y + 1) 1 (nI (T (i + 1))) (nI (Pg (i + 1))) (nI (Nb (i + 1))) (u 0 (Pg (i + 1)) (Nb (i + 1))) (u 9 (i + 1) 4) (nI (i + 1)) 9 (y + 1) b) 1 (i + 1) := by
        have n9 : ∀ a b, kMx u v 9 a b = v 9 a b := fun a b => kMx_o (fun q => by rcases q with q | q <;> omega)
        rw [hp2, hp4] at hR0
        refine ⟨fun b => ?_, by simp [kTell, kRec, kApp, ku], fun F a b c1 c2 c3 => ?_, ?_, fun j hj => ?_⟩
        · rw [← hR0.1 b]
          unfold kTell kRec kApp ku
          simp only [n9]
        · have := hR0.2.2.1 F a b c1 c2 c3
          unfold kTell kRec kApp ku
          rw [if_neg (fun q => c3 q.1), if_neg (fun q => c1 ⟨q.1, q.2.1⟩), if_neg (fun q => c1 ⟨q.1, q.2.1⟩), if_neg (fun q => c1 ⟨q.1, q.2.1⟩), if_neg (fun q => c1 ⟨q.1, q.2.1⟩), if_neg (fun q => c1 ⟨q.1, q.2.1⟩), if_neg (fun q => c3 q.1), if_neg (fun q => c1 ⟨q.1, q.2.1⟩), if_neg (fun q => c1 ⟨q.1, q.2.1⟩), if_neg (fun q => c1 ⟨q.1, q.2.1⟩), if_neg (fun q => c1 ⟨q.1, q.2.1⟩), if_neg (fun q => c1 ⟨q.1, q.2.1⟩), if_neg (fun q => c1 ⟨q.1, q.2.1⟩), if_neg (fun q => c1 ⟨q.1, q.2.1⟩), if_neg c2]
        · have : ¬ y = i := by omega
          simp [kTell, kRec, kApp, ku, this]
        · simp [kTell, kRec, kApp, ku, hj]
      have hr1 := lg_r_undo (u := u) (z := y) (t := T (i + 1)) (i := i + 1) (q := Pg (i + 1)) (k := Nb (i + 1)) (k4 := u 0 (Pg (i + 1)) (Nb (i + 1))) (k5 := u 9 (i + 1) 4) (by omega) (by omega) (by omega) ht hp1 hp3 hoo
      have hVn := lg_V_app hL.2.2.2.1 hr1
      have ek : lg_k (kApp u (y + 1) 1 (nI (T (i + 1))) (nI (Pg (i + 1))) (nI (Nb (i + 1))) (u 0 (Pg (i + 1)) (Nb (i + 1))) (u 9 (i + 1) 4) (nI (i + 1)) 9) (y + 1) = 1 := by unfold lg_k; rw [kApp_0]; rfl
      have htot : lg_tot (kApp u (y + 1) 1 (nI (T (i + 1))) (nI (Pg (i + 1))) (nI (Nb (i + 1))) (u 0 (Pg (i + 1)) (Nb (i + 1))) (u 9 (i + 1) 4) (nI (i + 1)) 9) (y + 1) ≤ 399 := by
        rw [lg_tot_undo hVn ek, lg_tot_app]
        exact hL.2.2.2.2.2.2 y (Nat.le_refl _)
      have hA := kCI_app h ht hR (fun _ => ⟨rfl, by omega⟩) hr1 htot
      have hB := kCI_0 (p := Pg (i + 1)) (k := 8) (x := nI (y + 1)) (kCI_0 (p := Pg (i + 1)) (k := Nb (i + 1)) (x := u 9 (i + 1) 4) hA)
      have eu : kUnd1 u (i + 1) (T (i + 1)) (Pg (i + 1)) (Nb (i + 1)) y = ku (ku (kFol (kApp u (y + 1) 1 (nI (T (i + 1))) (nI (Pg (i + 1))) (nI (Nb (i + 1))) (u 0 (Pg (i + 1)) (Nb (i + 1))) (u 9 (i + 1) 4) (nI (i + 1))) (y + 1) (T (i + 1)) (i + 1)) 0 (Pg (i + 1)) (Nb (i + 1)) (u 9 (i + 1) 4)) 0 (Pg (i + 1)) 8 (nI (y + 1)) := by
        unfold kUnd1 kPut
        rw [hp2, hp4, kFol_9]
        congr 2
        simp [kApp, ku]
      have ev : kUnR1 v (i + 1) (Pg (i + 1)) (Nb (i + 1)) y = ku (ku (ku (kTell v (i + 1) y (u 0 (Pg (i + 1)) (Nb (i + 1)))) 0 (Pg (i + 1)) (Nb (i + 1)) (u 9 (i + 1) 4)) 0 (Pg (i + 1)) 8 (nI (y + 1))) 19 0 0 (v 19 0 0 + 1) := by
        unfold kUnR1
        rw [e0, e9, ku_commj (by omega)]
      have hC : kCI uA W fl (kUnd1 u (i + 1) (T (i + 1)) (Pg (i + 1)) (Nb (i + 1)) y) (kUnR1 v (i + 1) (Pg (i + 1)) (Nb (i + 1)) y) (y + 1) := by
        rw [eu, ev]
        exact kCI_r hB (Or.inr ⟨rfl, rfl, rfl⟩)
      have eU9 : kUnd1 u (i + 1) (T (i + 1)) (Pg (i + 1)) (Nb (i + 1)) y 9 = kApp u (y + 1) 1 (nI (T (i + 1))) (nI (Pg (i + 1))) (nI (Nb (i + 1))) (u 0 (Pg (i + 1)) (Nb (i + 1))) (u 9 (i + 1) 4) (nI (i + 1)) 9 := by
        rw [eu]
        funext a b
        rw [ku_F (by decide), ku_F (by decide), kFol_9]
      have ih := kUnd_E hT hP i (kUnd1 u (i + 1) (T (i + 1)) (Pg (i + 1)) (Nb (i + 1)) y) (kUnR1 v (i + 1) (Pg (i + 1)) (Nb (i + 1)) y) (y + 1) (d + 1) (by omega) hC (fun t => by
        rw [eU9, lg_ov_s, lg_lu_s, ek, if_neg (fun q => absurd q.2 (by decide)), if_neg (fun q => absurd q.2 (by decide)), lg_ov_app, lg_lu_app]
        exact ho t) (fun t ht9 => by
        rw [← ha t ht9, ev, ku_F (by decide), ku_F (by decide), ku_F (by decide)]
        rw [show kTell v (i + 1) y (u 0 (Pg (i + 1)) (Nb (i + 1))) 16 t 0 = v 16 t 0 by simp [kTell, kRec, kApp, ku]]) (by
        rw [ev, ku_s, hd]
        exact nI_1 d)
      exact ⟨⟨by omega, ih.1⟩, ⟨by omega, ih.2.1⟩, ih.2.2⟩
    · have cR : ¬ kOpR v (i + 1) (T (i + 1)) y := fun q => c (hop.mp q)
      rw [if_neg c, if_neg cR, if_neg cR, if_neg c]
      exact kUnd_E hT hP i u v y d (by omega) h ho ha hd
end KCR
