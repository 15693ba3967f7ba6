section KN2
theorem row_all {P : Nat → Prop} (h0 : P 0) (h1 : P 1) (h2 : P 2) (h3 : P 3) (h4 : P 4) (h5 : P 5) (h6 : P 6) (h7 : ∀ b, 7 ≤ b → P b) : ∀ b, P b := fun b => by
  match b with
  | 0 => exact h0
  | 1 => exact h1
  | 2 => exact h2
  | 3 => exact h3
  | 4 => exact h4
  | 5 => exact h5
  | 6 => exact h6
  | b + 7 => exact h7 (b + 7) (by omega)
theorem kAR_tell {u v : kS} (hE : kE u v) {z i t : Nat} {x : Int32} (hi : i ≠ z + 1) (ht : u 9 i 1 = nI t) : kAR v (kTell v i z x) z (fun b => kApp u (z + 1) 1 (nI t) (u 9 i 2) (u 9 i 3) x (u 9 i 4) (nI i) 9 (z + 1) b) 1 i := by
  have e : ∀ a b, v 9 a b = u 9 a b := fun a b => hE 9 a b (sh_9 b)
  refine ⟨?_, by simp [kTell, kRec, kApp, ku], fun F a b h1 h2 h3 => ?_, ?_, fun j hj => ?_⟩
  · refine row_all (P := fun b => kTell v i z x 9 (z + 1) b = kApp u (z + 1) 1 (nI t) (u 9 i 2) (u 9 i 3) x (u 9 i 4) (nI i) 9 (z + 1) b) ?_ ?_ ?_ ?_ ?_ ?_ ?_ (fun b hb => ?_)
    · simp [kTell, kRec, kApp, ku]
    · simp [kTell, kRec, kApp, ku, e, ht]
    · simp [kTell, kRec, kApp, ku, e]
    · simp [kTell, kRec, kApp, ku, e]
    · simp [kTell, kRec, kApp, ku]
    · simp [kTell, kRec, kApp, ku, e]
    · simp [kTell, kRec, kApp, ku]
    · have c0 : b ≠ 0 := by omega
      have c1 : b ≠ 1 := by omega
      have c2 : b ≠ 2 := by omega
      have c3 : b ≠ 3 := by omega
      have c4 : b ≠ 4 := by omega
      have c5 : b ≠ 5 := by omega
      have c6 : b ≠ 6 := by omega
      simp [kTell, kRec, kApp, ku, c0, c1, c2, c3, c4, c5, c6, e]
  · have h9 : ¬ (F = 9 ∧ a = z + 1 ∧ b = 0) := fun q => h1 ⟨q.1, q.2.1⟩
    unfold kTell kRec kApp ku
    rw [if_neg (fun q => h3 q.1), if_neg (fun q => h1 ⟨q.1, q.2.1⟩), if_neg (fun q => h1 ⟨q.1, q.2.1⟩), if_neg (fun q => h1 ⟨q.1, q.2.1⟩), if_neg (fun q => h1 ⟨q.1, q.2.1⟩), if_neg (fun q => h1 ⟨q.1, q.2.1⟩), if_neg (fun q => h3 q.1), if_neg (fun q => h1 ⟨q.1, q.2.1⟩), if_neg (fun q => h1 ⟨q.1, q.2.1⟩), if_neg (fun q => h1 ⟨q.1, q.2.1⟩), if_neg (fun q => h1 ⟨q.1, q.2.1⟩), if_neg (fun q => h1 ⟨q.1, q.2.1⟩), if_neg (fun q => h1 ⟨q.1, q.2.1⟩), if_neg (fun q => h1 ⟨q.1, q.2.1⟩), if_neg h2]
  · have : ¬ z + 1 = i := Ne.symm hi
    simp [kTell, kRec, kApp, ku, this]
  · simp [kTell, kRec, kApp, ku, hj]
theorem kAR_rec {u v : kS} (hE : kE u v) {z t : Nat} {k0 : Int32} (h0 : k0 ≠ 1) : kAR v (kRec v z k0 (nI t)) z (fun b => kApp u (z + 1) k0 (nI t) (-1) (-1) (-1) (-1) (-1) 9 (z + 1) b) k0 0 := by
  have e : ∀ a b, v 9 a b = u 9 a b := fun a b => hE 9 a b (sh_9 b)
  refine ⟨?_, by simp [kRec, kApp, ku], fun F a b h1 h2 h3 => ?_, ?_, fun j hj => ?_⟩
  · refine row_all (P := fun b => kRec v z k0 (nI t) 9 (z + 1) b = kApp u (z + 1) k0 (nI t) (-1) (-1) (-1) (-1) (-1) 9 (z + 1) b) ?_ ?_ ?_ ?_ ?_ ?_ ?_ (fun b hb => ?_)
    · simp [kRec, kApp, ku]
    · simp [kRec, kApp, ku]
    · simp [kRec, kApp, ku]
    · simp [kRec, kApp, ku]
    · simp [kRec, kApp, ku]
    · simp [kRec, kApp, ku]
    · simp [kRec, kApp, ku]
    · have c0 : b ≠ 0 := by omega
      have c1 : b ≠ 1 := by omega
      have c2 : b ≠ 2 := by omega
      have c3 : b ≠ 3 := by omega
      have c4 : b ≠ 4 := by omega
      have c5 : b ≠ 5 := by omega
      have c6 : b ≠ 6 := by omega
      simp [kRec, kApp, ku, c0, c1, c2, c3, c4, c5, c6, e]
  · unfold kRec kApp ku
    rw [if_neg (fun q => h3 q.1), if_neg (fun q => h1 ⟨q.1, q.2.1⟩), if_neg (fun q => h1 ⟨q.1, q.2.1⟩), if_neg (fun q => h1 ⟨q.1, q.2.1⟩), if_neg (fun q => h1 ⟨q.1, q.2.1⟩), if_neg (fun q => h1 ⟨q.1, q.2.1⟩), if_neg (fun q => h1 ⟨q.1, q.2.1⟩), if_neg (fun q => h1 ⟨q.1, q.2.1⟩), if_neg h2]
  · simp [kRec, kApp, ku]
  · simp [kRec, kApp, ku, hj, h0]
abbrev kSetX (w : kS) (t q k : Nat) (y x : Int32) (z : Nat) : kS := ku (ku (ku (ku (kRec w z 0 (nI t)) 9 (z + 1) 2 (nI q)) 9 (z + 1) 3 (nI k)) 9 (z + 1) 4 y) 9 (z + 1) 5 x
theorem kAR_set {u v : kS} (hE : kE u v) {z t q k : Nat} {x y : Int32} : kAR v (kSetX v t q k y x z) z (fun b => kApp u (z + 1) 0 (nI t) (nI q) (nI k) y x (-1) 9 (z + 1) b) 0 0 := by
  have e : ∀ a b, v 9 a b = u 9 a b := fun a b => hE 9 a b (sh_9 b)
  refine ⟨?_, by simp [kSetX, kRec, kApp, ku], fun F a b h1 h2 h3 => ?_, ?_, fun j hj => ?_⟩
  · refine row_all (P := fun b => kSetX v t q k y x z 9 (z + 1) b = kApp u (z + 1) 0 (nI t) (nI q) (nI k) y x (-1) 9 (z + 1) b) ?_ ?_ ?_ ?_ ?_ ?_ ?_ (fun b hb => ?_)
    · simp [kSetX, kRec, kApp, ku]
    · simp [kSetX, kRec, kApp, ku]
    · simp [kSetX, kRec, kApp, ku]
    · simp [kSetX, kRec, kApp, ku]
    · simp [kSetX, kRec, kApp, ku]
    · simp [kSetX, kRec, kApp, ku]
    · simp [kSetX, kRec, kApp, ku]
    · have c0 : b ≠ 0 := by omega
      have c1 : b ≠ 1 := by omega
      have c2 : b ≠ 2 := by omega
      have c3 : b ≠ 3 := by omega
      have c4 : b ≠ 4 := by omega
      have c5 : b ≠ 5 := by omega
      have c6 : b ≠ 6 := by omega
      simp [kSetX, kRec, kApp, ku, c0, c1, c2, c3, c4, c5, c6, e]
  · unfold kSetX kRec kApp ku
    rw [if_neg (fun q => h1 ⟨q.1, q.2.1⟩), if_neg (fun q => h1 ⟨q.1, q.2.1⟩), if_neg (fun q => h1 ⟨q.1, q.2.1⟩), if_neg (fun q => h1 ⟨q.1, q.2.1⟩), if_neg (fun q => h3 q.1), if_neg (fun q => h1 ⟨q.1, q.2.1⟩), if_neg (fun q => h1 ⟨q.1, q.2.1⟩), if_neg (fun q => h1 ⟨q.1, q.2.1⟩), if_neg (fun q => h1 ⟨q.1, q.2.1⟩), if_neg (fun q => h1 ⟨q.1, q.2.1⟩), if_neg (fun q => h1 ⟨q.1, q.2.1⟩), if_neg (fun q => h1 ⟨q.1, q.2.1⟩), if_neg h2]
  · simp [kSetX, kRec, kApp, ku]
  · have : ¬ ((0 : Int32) = 1 ∧ j = 0) := fun q => absurd q.1 (by decide)
    rw [if_neg this]
    simp [kSetX, kRec, kApp, ku, hj]
/-- a number of a frame that holds a page changes, on both sides -/
theorem kIF_row {n N : Nat} {u v : kS} (h : kIF n N u v) {f q k : Nat} {x y : Int32} (hf : f < n) (hk : k < 8) (hq : u 1 f 0 = nI q) (hq3 : q < 32) : kIF n N (ku (ku (ku u 5 f k x) 5 f 8 y) 3 f 0 1) (ku (ku (ku v 23 f k x) 5 f 8 y) 3 f 0 1) := by
  have hx : nI q ≠ -1 := nI_n1 (by omega)
  have hu : ∀ F a b, F ≠ 3 → F ≠ 5 → ku (ku (ku u 5 f k x) 5 f 8 y) 3 f 0 1 F a b = u F a b := fun F a b h1 h2 => by rw [ku_F h1, ku_F h2, ku_F h2]
  have ho : ∀ F a b, a ≠ f → ku (ku (ku u 5 f k x) 5 f 8 y) 3 f 0 1 F a b = u F a b := fun F a b h1 => by rw [ku_i h1, ku_i h1, ku_i h1]
  have hv : ∀ F a b, a ≠ f → ku (ku (ku v 23 f k x) 5 f 8 y) 3 f 0 1 F a b = v F a b := fun F a b h1 => by rw [ku_i h1, ku_i h1, ku_i h1]
  refine ⟨fun g hg => ?_, fun g hg => ?_, ?_, ?_, fun g hg => ?_⟩
  · by_cases e : g = f
    · subst e
      refine Or.inr ⟨⟨q, hq3, by rw [hu 1 g 0 (by decide) (by decide)]; exact hq⟩, fun j hj => ?_⟩
      rcases h.1 g hg with h9 | h9
      · rw [hq] at h9; exact absurd h9.1 hx
      · have h8 : j ≠ 8 := by omega
        have := h9.2 j hj
        by_cases ej : j = k
        · subst ej; simp [ku, h8]
        · simp [ku, h8, ej, this]
    · rcases h.1 g hg with h9 | h9
      · refine Or.inl ?_
        rw [ho _ _ _ e, ho _ _ _ e, ho _ _ _ e, ho _ _ _ e, ho _ _ _ e]
        exact h9
      · refine Or.inr ⟨?_, fun j hj => ?_⟩
        · rw [ho _ _ _ e]; exact h9.1
        · rw [ho _ _ _ e, hv _ _ _ e]; exact h9.2 j hj
  · rw [hu 2 g 0 (by decide) (by decide)]; exact h.2.1 g hg
  · rw [hu 6 0 0 (by decide) (by decide)]; exact h.2.2.1
  · have : ku (ku (ku v 23 f k x) 5 f 8 y) 3 f 0 1 21 0 0 = v 21 0 0 := by rw [ku_F (by decide), ku_F (by decide), ku_F (by decide)]
    rw [this]; exact h.2.2.2.1
  · have e : g ≠ f := by omega
    rw [ho _ _ _ e, ho _ _ _ e, ho _ _ _ e, ho _ _ _ e, ho _ _ _ e]
    exact h.2.2.2.2 g hg
theorem kE_row {u v : kS} (h : kE u v) {f k : Nat} {x y : Int32} (hk : k < 8) : kE (ku (ku (ku u 5 f k x) 5 f 8 y) 3 f 0 1) (ku (ku (ku v 23 f k x) 5 f 8 y) 3 f 0 1) := kE_ku (kE_ku (kE_r (kE_l h (nsh_5 hk)) (nsh_20 (by decide))) 5 f 8 y) 3 f 0 1
/-- what a record more leaves of the rest -/
theorem kIF_app {n N : Nat} {u v V : kS} {z t w : Nat} {k0 k1 k2 k3 k4 k5 k6 : Int32} {R : Nat → Int32} {k9 : Int32} {w9 : Nat} (h : kIF n N u v) (hV : kAR v V z R k9 w9) : kIF n N (kFol (kApp u (z + 1) k0 k1 k2 k3 k4 k5 k6) (z + 1) t w) V := by
  refine kIF_congr h (fun F a b h1 h2 => ?_) (hV.2.2.1 21 0 0 (by simp) (by simp) (by decide)) (fun a b => hV.2.2.1 23 a b (by simp) (by simp) (by decide))
  rw [kFol_F ⟨by omega, by omega, by omega, by omega⟩, kApp_F (by omega) (by omega)]
theorem s_set {n N : Nat} {u w : kS} (hI : kI n N u w) {z t q k f : Nat} {x : Int32} (hz : u 14 0 0 = nI z) (hz4 : z ≤ 400) (ht : t < 8) (hq : q < 32) (hk : k < 8) (ha : u 16 t 0 ≠ 0) (hp : kPin u n (nI q) f) (hrm : kRm u (3 + kct (fun t => u 16 t 0) 8)) :
    kSetR w f t q k x z 20 0 0 = w 20 0 0 ∧ kI n (N + 1) (kSet u f t q k x z) (kSetR w f t q k x z) := by
  have hgt := s_get hI hq hk hp
  obtain ⟨h0, hE, hF, z9, fl, hL, hA⟩ := hI
  have ez : z9 = z := (nI_eq (by have := kIL_z hL; omega) (by omega)).mp (hL.1.symm.trans hz)
  subst ez
  have hk8 := kct_le (fun t => u 16 t 0) 8
  have hrm9 := (kRm_iff hL (by omega)).mp hrm
  have hR := kAR_set hE (z := z9) (t := t) (q := q) (k := k) (x := x) (y := u 5 f k)
  have hr := lg_r_upd (u := u) (z := z9) (k4 := u 5 f k) (k5 := x) (k6 := -1) ht hq hk
  have hVn := lg_V_app hL.2.2.2.1 hr
  have ek : lg_k (kApp u (z9 + 1) 0 (nI t) (nI q) (nI k) (u 5 f k) x (-1) 9) (z9 + 1) = 0 := by unfold lg_k; rw [kApp_0]; rfl
  have et : lg_t (kApp u (z9 + 1) 0 (nI t) (nI q) (nI k) (u 5 f k) x (-1) 9) (z9 + 1) = t := by unfold lg_t; rw [kApp_1]; exact kNat_n (by omega)
  have es := lg_tot_upd hVn ek
  rw [lg_s_congr (g := fun t => lg_n (u 9) t z9) 8 (fun t _ => lg_n_app)] at es
  have hact : ∀ j, j < 8 → lg_ov (kApp u (z9 + 1) 0 (nI t) (nI q) (nI k) (u 5 f k) x (-1) 9) j (z9 + 1) < lg_lu (kApp u (z9 + 1) 0 (nI t) (nI q) (nI k) (u 5 f k) x (-1) 9) j (z9 + 1) → u 16 j 0 ≠ 0 := by
    intro j hj h
    by_cases e : j = t
    · subst e; exact ha
    · unfold lg_ov lg_lu at h
      rw [et, if_neg (fun q => e q.1.symm), if_neg (fun q => e q.1.symm), lg_ov_app, lg_lu_app] at h
      exact hA.2.1 j hj h
  have hua := lg_u_act hact
  have htot : lg_tot (kApp u (z9 + 1) 0 (nI t) (nI q) (nI k) (u 5 f k) x (-1) 9) (z9 + 1) ≤ 399 := by
    unfold lg_tot
    rw [es]
    omega
  obtain ⟨g1, g2⟩ := kAp hE hL ht hR (fun h => absurd h (by decide)) hr htot
  have hS : kSetR w f t q k x z9 = ku (ku (ku (kSetX w t q k (u 5 f k) x z9) 23 f k x) 5 f 8 (nI (z9 + 1))) 3 f 0 1 := by
    unfold kSetR
    rw [hgt]
  have hF1 := kIF_app (k0 := 0) (k1 := nI t) (k2 := nI q) (k3 := nI k) (k4 := u 5 f k) (k5 := x) (k6 := -1) (t := t) (w := 0) hF hR
  have e1 : kFol (kApp u (z9 + 1) 0 (nI t) (nI q) (nI k) (u 5 f k) x (-1)) (z9 + 1) t 0 1 f 0 = nI q := by
    rw [kFol_F ⟨by decide, by decide, by decide, by decide⟩, kApp_F (by decide) (by decide)]
    exact hp.2.1
  rw [hS]
  refine ⟨?_, h0, kE_row g1 hk, kIF_N (kIF_row hF1 hp.1 hk e1 hq) (by omega), z9 + 1, fl, ?_, ?_⟩
  · rw [ku_F (by decide), ku_F (by decide), ku_F (by decide)]
    exact hR.2.2.1 20 0 0 (by simp) (by simp) (by decide)
  · exact kIL_congr g2 (fun F a b h1 h2 => by unfold kSet; rw [ku_F (by omega), ku_F (by omega), ku_F (by omega)]) (fun a b => by rw [ku_F (by decide), ku_F (by decide), ku_F (by decide)]) (fun a b => by rw [ku_F (by decide), ku_F (by decide), ku_F (by decide)])
  · have e9 : kSet u f t q k x z9 9 = kApp u (z9 + 1) 0 (nI t) (nI q) (nI k) (u 5 f k) x (-1) 9 := by
      funext a b
      unfold kSet
      rw [ku_F (by decide), ku_F (by decide), ku_F (by decide), kFol_9]
    have e16 : ∀ F j, F = 16 ∨ F = 17 → kSet u f t q k x z9 F j 0 = u F j 0 := fun F j hF => by
      unfold kSet
      rw [ku_F (by omega), ku_F (by omega), ku_F (by omega), kFol_F ⟨by omega, by omega, by omega, by omega⟩, kApp_F (by omega) (by omega)]
    refine ⟨?_, fun j hj h => ?_, fun j hj h => ?_⟩
    · rw [e9, es, show (fun t9 => kSet u f t q k x z9 16 t9 0) = (fun t => u 16 t 0) from funext fun j => e16 16 j (Or.inl rfl)]
      omega
    · rw [e9] at h
      rw [e16 16 j (Or.inl rfl)]
      exact hact j hj h
    · rw [e16 16 j (Or.inl rfl)] at h
      rw [e16 17 j (Or.inr rfl)]
      exact hA.2.2 j hj h
/-- a COMMIT or an END of an active one -/
theorem s_fin {n N : Nat} {u w : kS} (hE : kE u w) (hF : kIF n N u w) {z fl t j : Nat} (hL : kIL u w z fl) (hA : kIA u z) (ht : t < 8) (hj : j = 2 ∨ j = 3) (ha : u 16 t 0 ≠ 0) :
    kE (kFol (kApp u (z + 1) (nI j) (nI t) (-1) (-1) (-1) (-1) (-1)) (z + 1) t 0) (kRec w z (nI j) (nI t)) ∧ kIF n N (kFol (kApp u (z + 1) (nI j) (nI t) (-1) (-1) (-1) (-1) (-1)) (z + 1) t 0) (kRec w z (nI j) (nI t)) ∧
    kIL (kFol (kApp u (z + 1) (nI j) (nI t) (-1) (-1) (-1) (-1) (-1)) (z + 1) t 0) (kRec w z (nI j) (nI t)) (z + 1) fl ∧
    ∀ u9 : kS, u9 9 = kApp u (z + 1) (nI j) (nI t) (-1) (-1) (-1) (-1) (-1) 9 → (∀ i, u9 16 i 0 = if i = t then 0 else u 16 i 0) → (∀ i, i ≠ t → u9 17 i 0 = u 17 i 0) → u9 17 t 0 = 0 → kIA u9 (z + 1) := by
  have hz := kIL_z hL
  have hne : nI j ≠ 1 := fun e => by
    have := (nI_eq (b := 1) (show j < 2 ^ 31 by omega) (by decide)).mp e
    omega
  have hR := kAR_rec hE (z := z) (t := t) hne
  have hr := lg_r_fin (u := u) (z := z) (k2 := -1) (k3 := -1) (k4 := -1) (k5 := -1) (k6 := -1) ht hj
  have hVn := lg_V_app hL.2.2.2.1 hr
  have ek : lg_k (kApp u (z + 1) (nI j) (nI t) (-1) (-1) (-1) (-1) (-1) 9) (z + 1) = j := by unfold lg_k; rw [kApp_0]; exact kNat_n (by omega)
  have et : lg_t (kApp u (z + 1) (nI j) (nI t) (-1) (-1) (-1) (-1) (-1) 9) (z + 1) = t := by unfold lg_t; rw [kApp_1]; exact kNat_n (by omega)
  have etot := lg_tot_fin hVn (by rw [ek]; omega)
  rw [et, lg_n_app, lg_tot_app] at etot
  have eu : lg_u (kApp u (z + 1) (nI j) (nI t) (-1) (-1) (-1) (-1) (-1) 9) z t = lg_u (u 9) z t := by unfold lg_u; rw [lg_ov_app, lg_lu_app]
  rw [eu] at etot
  have hT := hL.2.2.2.2.2.2 z (Nat.le_refl _)
  have htot : lg_tot (kApp u (z + 1) (nI j) (nI t) (-1) (-1) (-1) (-1) (-1) 9) (z + 1) ≤ 399 := by
    by_cases c : lg_ov (u 9) t z < lg_lu (u 9) t z
    · have : lg_u (u 9) z t = 1 := if_pos c
      omega
    · have h1 := lg_u_act1 hA.2.1 ht ha c
      have h2 := hA.1
      unfold lg_tot at etot ⊢
      omega
  have es : lg_s (fun i => lg_n (kApp u (z + 1) (nI j) (nI t) (-1) (-1) (-1) (-1) (-1) 9) i (z + 1)) 8 ≤ lg_s (fun i => lg_n (u 9) i z) 8 := by
    refine lg_s_le 8 (fun i hi => ?_)
    by_cases e : i = t
    · subst e
      rw [lg_n_fin et (by rw [ek]; omega)]
      exact Nat.zero_le _
    · rw [lg_n_other hVn (by rw [et]; exact Ne.symm e), lg_n_app]
      exact Nat.le_refl _
  obtain ⟨g1, g2⟩ := kAp hE hL ht hR (fun h => absurd h hne) hr htot
  refine ⟨g1, kIF_app hF hR, g2, fun u9 h9 h16 h17 h17t => ⟨?_, fun i hi h => ?_, fun i hi h => ?_⟩⟩
  · have hc := kct_set (f := fun i => u9 16 i 0) (g := fun i => u 16 i 0) ht (by rw [h16, if_pos rfl]) ha (fun i hi => by rw [h16, if_neg hi])
    have := hA.1
    rw [h9]
    omega
  · rw [h9] at h
    rw [h16]
    by_cases e : i = t
    · subst e
      unfold lg_ov lg_lu at h
      rw [et, ek, if_pos ⟨rfl, by omega⟩, if_neg (fun q => by have := q.2; omega)] at h
      have := lg_lu_le (kApp u (z + 1) (nI j) (nI i) (-1) (-1) (-1) (-1) (-1) 9) i z
      omega
    · unfold lg_ov lg_lu at h
      rw [et, if_neg (fun q => e q.1.symm), if_neg (fun q => e q.1.symm), lg_ov_app, lg_lu_app] at h
      rw [if_neg e]
      exact hA.2.1 i hi h
  · rw [h16] at h
    by_cases e : i = t
    · subst e; exact h17t
    · rw [if_neg e] at h
      rw [h17 i e]
      exact hA.2.2 i hi h
theorem s_commit {n N : Nat} {u w : kS} (hI : kI n N u w) {z t : Nat} (hz : u 14 0 0 = nI z) (hz4 : z ≤ 400) (ht : t < 8) (ha : u 16 t 0 ≠ 0) (hb : u 17 t 0 = 0) : kComR w t z 20 0 0 = w 20 0 0 ∧ kI n (N + 1) (kCom u t z) (kComR w t z) := by
  obtain ⟨h0, hE, hF, z9, fl, hL, hA⟩ := hI
  have ez : z9 = z := (nI_eq (by have := kIL_z hL; omega) (by omega)).mp (hL.1.symm.trans hz)
  subst ez
  have hz9 := kIL_z hL
  obtain ⟨g1, g2, g3, g4⟩ := s_fin hE hF hL hA ht (j := 2) (Or.inl rfl) ha
  have eC : kCom u t z9 = ku (ku (kFol (kApp u (z9 + 1) (nI 2) (nI t) (-1) (-1) (-1) (-1) (-1)) (z9 + 1) t 0) 15 0 0 (nI (z9 + 1))) 16 t 0 0 := by
    unfold kCom kFlu
    rw [g3.1, g3.2.1, if_neg (Int32.lt_irrefl), if_pos (nI_lt (by have := hL.2.2.1; omega) (by omega))]
  rw [eC]
  unfold kComR
  refine ⟨?_, h0, kE_ku (kE_ku g1 15 0 0 _) 16 t 0 0, ?_, z9 + 1, z9 + 1, ?_, ?_⟩
  · rw [ku_F (by decide), ku_F (by decide)]
    simp [kRec, kApp, ku]
  · exact kIF_N (kIF_congr g2 (fun F a b h1 h2 => by rw [ku_F (by omega), ku_F (by omega)]) (by rw [ku_F (by decide), ku_F (by decide)]) (fun a b => by rw [ku_F (by decide), ku_F (by decide)])) (by omega)
  · have e9 : ku (ku (kFol (kApp u (z9 + 1) (nI 2) (nI t) (-1) (-1) (-1) (-1) (-1)) (z9 + 1) t 0) 15 0 0 (nI (z9 + 1))) 16 t 0 0 9 = kFol (kApp u (z9 + 1) (nI 2) (nI t) (-1) (-1) (-1) (-1) (-1)) (z9 + 1) t 0 9 := by funext a b; rw [ku_F (by decide), ku_F (by decide)]
    refine ⟨by rw [ku_F (by decide), ku_F (by decide)]; exact g3.1, by rw [ku_F (by decide), ku_s], Nat.le_refl _, by rw [e9]; exact g3.2.2.2.1, ?_, ?_, by rw [e9]; exact g3.2.2.2.2.2.2⟩
    · refine lg_C_eq (fun i _ _ => by rw [e9]) ?_ ?_ ?_ ?_ g3.2.2.2.2.1 <;> (funext a b; rw [ku_F (by decide), ku_F (by decide)])
    · exact lg_D_eq (fun i _ _ => by funext b; rw [ku_F (by decide), ku_F (by decide)]) (by funext a b; rw [ku_F (by decide), ku_F (by decide)]) g3.2.2.2.2.2.1
  · refine g4 _ ?_ (fun i => ?_) (fun i hi => ?_) ?_
    · funext a b
      rw [ku_F (by decide), ku_F (by decide), kFol_9]
    · by_cases e : i = t
      · subst e; rw [ku_s, if_pos rfl]
      · rw [ku_i e, if_neg e, ku_F (by decide), kFol_F ⟨by decide, by decide, by decide, by decide⟩, kApp_F (by decide) (by decide)]
    · rw [ku_F (by decide), ku_F (by decide), kFol_F ⟨by decide, by decide, by decide, by decide⟩, kApp_F (by decide) (by decide)]
    · rw [ku_F (by decide), ku_F (by decide), kFol_F ⟨by decide, by decide, by decide, by decide⟩, kApp_F (by decide) (by decide)]
      exact hb
end KN2
