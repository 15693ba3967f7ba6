section KM
/-- class (u) and reference (v) stand alike, behind N calls, with n frames -/
def kI (n N : Nat) (u v : kS) : Prop := (1 ≤ n ∧ n ≤ 8) ∧ kE u v ∧ kIF n N u v ∧ ∃ z fl, kIL u v z fl ∧ kIA u z
theorem kI_20 {n N : Nat} {u v : kS} {x : Int32} (h : kI n N u v) : kI n N u (ku v 20 0 0 x) := by
  obtain ⟨h0, h1, h2, z, fl, h3, h4⟩ := h
  exact ⟨h0, kE_r h1 (nsh_20 (by decide)), kIF_congr h2 (fun _ _ _ _ _ => rfl) (ku_F (by decide)) (fun a b => ku_F (by decide)), z, fl, kIL_congr h3 (fun _ _ _ _ _ => rfl) (fun a b => ku_F (by decide)) (fun a b => ku_F (by decide)), h4⟩
theorem kI_N {n N M : Nat} {u v : kS} (h : kI n N u v) (hM : N ≤ M) : kI n M u v := ⟨h.1, h.2.1, kIF_N h.2.2.1 hM, h.2.2.2⟩
/-- a frame that holds a page: its fields 2 and 3 may change -/
theorem kIF_f {n N M : Nat} {u v : kS} (h : kIF n N u v) (hM : N ≤ M) {f q F : Nat} {x : Int32} (hf : f < n) (hq : u 1 f 0 = nI q) (hq3 : q < 32) (hF : F = 2 ∧ (∃ j, j ≤ M ∧ x = nI j) ∨ F = 3) : kIF n M (ku u F f 0 x) (ku v F f 0 x) := by
  have hx : nI q ≠ -1 := nI_n1 (by omega)
  have hF23 : F = 2 ∨ F = 3 := by rcases hF with h | h; exact Or.inl h.1; exact Or.inr h
  have c1 : (1 : Nat) ≠ F := by omega
  have c4 : (4 : Nat) ≠ F := by omega
  have c5 : (5 : Nat) ≠ F := by omega
  have c6 : (6 : Nat) ≠ F := by omega
  have c21 : (21 : Nat) ≠ F := by omega
  have c23 : (23 : Nat) ≠ F := by omega
  refine ⟨fun g hg => ?_, fun g hg => ?_, ?_, ?_, fun g hg => ?_⟩
  · rw [ku_F c1, ku_F c4, ku_F c5]
    by_cases e : g = f
    · subst e
      refine Or.inr ⟨⟨q, hq3, hq⟩, fun k hk => ?_⟩
      rcases h.1 g hg with h9 | h9
      · rw [hq] at h9; exact absurd h9.1 hx
      · rw [ku_F c23, ku_F c5]; exact h9.2 k hk
    · rw [ku_i e, ku_i e]
      rcases h.1 g hg with h9 | h9
      · exact Or.inl h9
      · exact Or.inr ⟨h9.1, fun k hk => by rw [ku_F c23, ku_F c5]; exact h9.2 k hk⟩
  · obtain ⟨j, h1, h2⟩ := h.2.1 g hg
    by_cases e : g = f
    · subst e
      rcases hF with ⟨rfl, j9, h3, rfl⟩ | rfl
      · exact ⟨j9, h3, ku_s _ _ _ _ _⟩
      · exact ⟨j, by omega, by rw [ku_F (by decide)]; exact h2⟩
    · exact ⟨j, by omega, by rw [ku_i e]; exact h2⟩
  · rw [ku_F c6]; exact h.2.2.1
  · rw [ku_F c21]; exact h.2.2.2.1
  · have e : g ≠ f := by omega
    rw [ku_i e, ku_i e, ku_i e, ku_i e, ku_i e]
    exact h.2.2.2.2 g hg
theorem kBr_page {u : kS} {n q f : Nat} (hn : n ≤ 8) (hhn : kNat (u 6 0 0) < n) (h : (kBr u n q).2 = some f) : f < n ∧ (kBr u n q).1 1 f 0 = nI q := by
  have hl : ∀ (U : kS) (g p : Nat), ku (kLoad U q g p) 4 g 0 1 1 g 0 = nI q := fun U g p => by
    rw [ku_F (by decide)]
    unfold kLoad
    split <;> simp [ku]
  have hfn : ∀ (pg : Int32) (g : Nat), kfnd u n pg = some g → g < n ∧ u 1 g 0 = pg := fun pg g e => by
    unfold kfnd at e
    rw [List.find?_range_eq_some] at e
    exact ⟨by simpa using e.2.1, by simpa using e.1⟩
  unfold kBr at h ⊢
  cases e1 : kfnd u n (nI q) with
  | some g =>
    rw [e1] at h
    cases h
    obtain ⟨g1, g2⟩ := hfn _ _ e1
    exact ⟨g1, by dsimp only; rw [ku_F (by decide)]; exact g2⟩
  | none =>
    rw [e1] at h
    cases e2 : kfnd u n (-1) with
    | some g =>
      rw [e2] at h
      cases h
      exact ⟨(hfn _ _ e2).1, hl _ _ _⟩
    | none =>
      rw [e2] at h
      cases e3 : (kTurn n (u 15 0 0) (2 * n) u (kNat (u 6 0 0))).2 with
      | some g =>
        rw [e3] at h
        cases h
        exact ⟨kTurn_lt _ _ _ _ hhn e3, hl _ _ _⟩
      | none =>
        rw [e3] at h
        cases h
theorem kBr_F {u : kS} {n q F a b : Nat} (hF : 9 ≤ F) : (kBr u n q).1 F a b = u F a b := by
  have h4 : F ≠ 4 := by omega
  have h6 : F ≠ 6 := by omega
  unfold kBr
  split
  · dsimp only; rw [ku_F h4]
  · split
    · dsimp only; rw [ku_F h4, kLoad_F hF]
    · split
      · dsimp only; rw [ku_F h4, kLoad_F hF, kTurn_F h4 h6]
      · dsimp only; rw [kTurn_F h4 h6]
theorem kO_is {o : Option Nat} {f : Nat} (h : nI f = kO o) (hf : f < 2 ^ 31) (ho : ∀ g, o = some g → g < 2 ^ 31) : o = some f := by
  cases o with
  | none => exact absurd h (nI_n1 hf)
  | some g => rw [(nI_eq hf (ho g rfl)).mp h]
theorem kO_no {o : Option Nat} (h : -1 = kO o) (ho : ∀ g, o = some g → g < 2 ^ 31) : o = none := by
  cases o with
  | none => rfl
  | some g => exact absurd h.symm (nI_n1 (ho g rfl))
theorem s_fetch {n N : Nat} {u w : kS} (hI : kI n N u w) {q : Nat} (hq : q < 32) {r : Int32} {u9 : kS} {b : Int32} {v9 : kS}
    (hc : (kBring u n q (u 15 0 0) (kNat (u 6 0 0)) (fun f => kNat (u 1 f 0)) (-1) u9 ∧ r = -2) ∨ (∃ f u1, f < n ∧ kBring u n q (u 15 0 0) (kNat (u 6 0 0)) (fun f => kNat (u 1 f 0)) (nI f) u1 ∧ r = nI f ∧ u9 = ku u1 2 f 0 (u1 2 f 0 + 1)))
    (hr : (kBringR w n q (kNat (u 6 0 0)) (-1) v9 ∧ b = -2) ∨ (∃ f u1, f < n ∧ kBringR w n q (kNat (u 6 0 0)) (nI f) u1 ∧ b = nI f ∧ v9 = ku u1 2 f 0 (u1 2 f 0 + 1))) : b = r ∧ v9 20 0 0 = w 20 0 0 ∧ kI n (N + 1) u9 v9 := by
  obtain ⟨h0, hE, hF, z, fl, hL, hA⟩ := hI
  have hh := (kIF_kFr hF).h h0.2
  have hpg : ∀ g, (kBr u n q).2 = some g → g < 2 ^ 31 := fun g e => by have := (kBr_page h0.2 hh.1 e).1; omega
  have key : ∀ (r1 : Int32) (v1 : kS), kBringR w n q (kNat (u 6 0 0)) r1 v1 → r1 = kO (kBr u n q).2 ∧ kE (kBr u n q).1 v1 ∧ kIF n N (kBr u n q).1 v1 ∧ kIL (kBr u n q).1 v1 z fl ∧ kIA (kBr u n q).1 z := fun r1 v1 hb => by
    obtain ⟨g1, g2, g3⟩ := kBr_E hE hF hq hh.2 hh.1 h0.2 hb
    refine ⟨g1, g2, g3, kIL_congr hL (fun F a b h1 _ => kBr_F h1) (fun a b => kBringR_F hb (by decide) (by decide)) (fun a b => kBringR_F hb (by decide) (by decide)), kIA_congr hA ?_ (fun t => kBr_F (by decide)) (fun t => kBr_F (by decide))⟩
    funext a b
    exact kBr_F (by decide)
  rcases hc with ⟨hc, rfl⟩ | ⟨f, u1, hf, hc, rfl, rfl⟩
  · obtain ⟨rfl, e1⟩ := kBring_fn hc
    have e2 := kO_no e1 hpg
    rcases hr with ⟨hr, rfl⟩ | ⟨g, v1, hg, hr, rfl, rfl⟩
    · obtain ⟨g1, g2, g3, g4, g5⟩ := key _ _ hr
      exact ⟨rfl, kBringR_F hr (by decide) (by decide), h0, g2, kIF_N g3 (by omega), z, fl, g4, g5⟩
    · obtain ⟨g1, -⟩ := key _ _ hr
      rw [← e1] at g1
      exact absurd g1 (nI_n1 (by omega))
  · obtain ⟨rfl, e1⟩ := kBring_fn hc
    have e2 := kO_is e1 (by omega) hpg
    rcases hr with ⟨hr, rfl⟩ | ⟨g, v1, hg, hr, rfl, rfl⟩
    · obtain ⟨g1, -⟩ := key _ _ hr
      rw [← e1] at g1
      exact absurd g1.symm (nI_n1 (by omega))
    · obtain ⟨g1, g2, g3, g4, g5⟩ := key _ _ hr
      have eg : g = f := (nI_eq (by omega) (by omega)).mp (g1.trans e1.symm)
      subst eg
      have ep := kBr_page h0.2 hh.1 e2
      obtain ⟨j, hj, ej⟩ := g3.2.1 g hg
      refine ⟨rfl, ?_, h0, ?_, ?_, z, fl, ?_, ?_⟩
      · rw [ku_F (by decide)]
        exact kBringR_F hr (by decide) (by decide)
      · rw [g2 2 g 0 (sh_2 0)]
        exact kE_ku g2 2 g 0 _
      · rw [g2 2 g 0 (sh_2 0)]
        exact kIF_f g3 (by omega) hg ep.2 hq (Or.inl ⟨rfl, j + 1, by omega, by rw [ej]; exact nI_1 j⟩)
      · exact kIL_congr g4 (fun F a b h1 h2 => ku_F (by omega)) (fun a b => ku_F (by decide)) (fun a b => ku_F (by decide))
      · exact kIA_congr g5 (by funext a b; exact ku_F (by decide)) (fun t => ku_F (by decide)) (fun t => ku_F (by decide))
theorem kPin_R {n N : Nat} {u w : kS} (hI : kI n N u w) (hN : N ≤ 1000) {x : Int32} {f : Nat} : kPin u n x f ↔ kPinR w n x f := by
  obtain ⟨h0, hE, hF, -⟩ := hI
  unfold kPin kPinR
  rw [hE 1 f 0 (sh_1 0), hE 2 f 0 (sh_2 0)]
  have h1 : ∀ j, w 1 j 0 = u 1 j 0 := fun j => hE 1 j 0 (sh_1 0)
  constructor
  · rintro ⟨a, b, c, d⟩
    refine ⟨a, b, fun j hj => by rw [h1]; exact c j hj, ?_⟩
    obtain ⟨j, hj, e⟩ := hF.2.1 f a
    rw [e] at d ⊢
    have : 0 < j := by
      rcases Nat.eq_zero_or_pos j with q | q
      · subst q; exact absurd rfl d
      · exact q
    exact nI_lt (a := 0) this (by omega)
  · rintro ⟨a, b, c, d⟩
    refine ⟨a, b, fun j hj => by rw [← h1]; exact c j hj, fun e => ?_⟩
    rw [e] at d
    exact absurd d (by decide)
theorem s_release {n N : Nat} {u w : kS} (hI : kI n N u w) (hN : N ≤ 1000) {q f : Nat} (hq : q < 32) (hp : kPin u n (nI q) f) : w 2 f 0 - 1 = u 2 f 0 - 1 ∧ kI n (N + 1) (ku u 2 f 0 (u 2 f 0 - 1)) (ku w 2 f 0 (w 2 f 0 - 1)) := by
  obtain ⟨h0, hE, hF, z, fl, hL, hA⟩ := hI
  have e2 := hE 2 f 0 (sh_2 0)
  obtain ⟨hf, hpg, -, hne⟩ := hp
  obtain ⟨j, hj, ej⟩ := hF.2.1 f hf
  have hj0 : j ≠ 0 := fun e => by subst e; exact hne ej
  rw [e2]
  refine ⟨rfl, h0, kE_ku hE 2 f 0 _, kIF_f hF (by omega) hf hpg hq (Or.inl ⟨rfl, j - 1, by omega, ?_⟩), z, fl, kIL_congr hL (fun F a b h1 h2 => ku_F (by omega)) (fun a b => ku_F (by decide)) (fun a b => ku_F (by decide)), kIA_congr hA (by funext a b; exact ku_F (by decide)) (fun t => ku_F (by decide)) (fun t => ku_F (by decide))⟩
  rw [ej, show j = j - 1 + 1 by omega, nI_pred]
  rfl
theorem s_get {n N : Nat} {u w : kS} (hI : kI n N u w) {q f k : Nat} (hq : q < 32) (hk : k < 8) (hp : kPin u n (nI q) f) : w 23 f k = u 5 f k := by
  rcases hI.2.2.1.1 f hp.1 with h9 | h9
  · rw [hp.2.1] at h9
    exact absurd h9.1 (nI_n1 (by omega))
  · exact h9.2 k hk
theorem kct_16 {u w : kS} (hE : kE u w) (k : Nat) : kct (fun t => w 16 t 0) k = kct (fun t => u 16 t 0) k := congrArg (fun f => kct f k) (funext fun t => hE 16 t 0 (sh_16 0))
theorem kNeed_I {u w : kS} {z fl : Nat} (hE : kE u w) (hL : kIL u w z fl) (hA : kIA u z) : kNeed w z 8 = kct (fun t => u 16 t 0) 8 + lg_s (fun t => lg_n (u 9) t z) 8 := by
  have e9 := kE_9 hE
  rw [kNeed_n (by rw [e9]; exact hL.2.2.2.1) hL.2.2.2.2.2.1 (fun t ht h => by rw [hE 16 t 0 (sh_16 0)]; rw [e9] at h; exact hA.2.1 t ht h) 8 (Nat.le_refl _), kct_16 hE, e9]
theorem kct_set {f g : Nat → Int32} {t : Nat} (ht : t < 8) (h0 : f t = 0) (h1 : g t ≠ 0) (ho : ∀ j, j ≠ t → g j = f j) : kct g 8 = kct f 8 + 1 := by
  rw [kct_s, kct_s]
  have := lg_s_at (f := fun t => if g t = 0 then 0 else 1) (g := fun t => if f t = 0 then 0 else 1) (t0 := t) 8 ht (fun j _ hj => by rw [ho j hj])
  rw [if_pos h0, if_neg h1] at this
  omega
theorem s_begin {n N : Nat} {u w : kS} (hI : kI n N u w) {z : Nat} (hz : u 14 0 0 = nI z) (hz4 : z ≤ 400) {r : Int32} {u9 v9 : kS} {b : Option Value} (hc : kBegin u r u9) (hr : kBeginR w z b v9) : b = some (.int r) ∧ v9 20 0 0 = w 20 0 0 ∧ kI n (N + 1) u9 v9 := by
  obtain ⟨h0, hE, hF, z9, fl, hL, hA⟩ := hI
  have ez : z9 = z := (nI_eq (by have := kIL_z hL; omega) (by omega)).mp (hL.1.symm.trans hz)
  subst ez
  have hN := kNeed_I hE hL hA
  have hk8 := kct_le (fun t => u 16 t 0) 8
  have hroom : kRm u (2 + kct (fun t => u 16 t 0) 8) ↔ z9 + kNeed w z9 8 + 2 ≤ 400 := by
    rw [kRm_iff hL (by omega), hN]
    omega
  have h16 : ∀ t, w 16 t 0 = u 16 t 0 := fun t => hE 16 t 0 (sh_16 0)
  rcases hc with ⟨t, ht, c1, c2, c3, rfl, rfl⟩ | ⟨c1, rfl, rfl⟩
  · rcases hr with ⟨t9, ht9, d1, d2, d3, rfl, rfl⟩ | ⟨d1, rfl, rfl⟩
    · have et : t9 = t := by
        rw [h16] at d1
        rcases Nat.lt_trichotomy t9 t with q | q | q
        · exact absurd d1 (c2 t9 q)
        · exact q
        · have := d2 t q
          rw [h16] at this
          exact absurd c1 this
      subst et
      refine ⟨rfl, ?_, h0, ?_, ?_, z9, fl, ?_, ?_⟩
      · rw [ku_F (by decide), ku_F (by decide)]
      · exact kE_r0 (kE_ku hE 16 t9 0 1) (fun _ => by rw [ku_F (by decide)]; exact hA.2.2 t9 ht c1)
      · exact kIF_N (kIF_congr hF (fun F a b h1 h2 => ku_F (by omega)) (by rw [ku_F (by decide), ku_F (by decide)]) (fun a b => by rw [ku_F (by decide), ku_F (by decide)])) (by omega)
      · exact kIL_congr hL (fun F a b h1 h2 => ku_F (by omega)) (fun a b => by rw [ku_F (by decide), ku_F (by decide)]) (fun a b => by rw [ku_F (by decide), ku_F (by decide)])
      · have e9 : ku u 16 t9 0 1 9 = u 9 := by funext a b; exact ku_F (by decide)
        have ek := kct_set (f := fun t => u 16 t 0) (g := fun t => ku u 16 t9 0 1 16 t 0) ht c1 (by rw [ku_s]; decide) (fun j hj => ku_i hj)
        refine ⟨?_, fun j hj h => ?_, fun j hj h => ?_⟩
        · rw [e9, ek]
          have := hroom.mp c3
          omega
        · rw [e9] at h
          by_cases q : j = t9
          · subst q; rw [ku_s]; decide
          · rw [ku_i q]; exact hA.2.1 j hj h
        · by_cases q : j = t9
          · subst q; rw [ku_s] at h; exact absurd h (by decide)
          · rw [ku_i q] at h
            rw [ku_F (by decide)]
            exact hA.2.2 j hj h
    · rcases d1 with d1 | d1
      · have := d1 t ht
        rw [h16] at this
        exact absurd c1 this
      · exact absurd (hroom.mp c3) d1
  · rcases hr with ⟨t9, ht9, d1, d2, d3, rfl, rfl⟩ | ⟨d1, rfl, rfl⟩
    · rcases c1 with c1 | c1
      · rw [h16] at d1
        exact absurd d1 (c1 t9 ht9)
      · exact absurd (hroom.mpr d3) c1
    · exact ⟨rfl, rfl, h0, hE, kIF_N hF (by omega), z9, fl, hL, hA⟩
theorem s_flush {n N : Nat} {u w : kS} (hI : kI n N u w) {x : Int32} (hx : ¬ x < 0) : kFluR w x 15 0 0 = kFlu u x 15 0 0 ∧ kFluR w x 20 0 0 = w 20 0 0 ∧ kI n (N + 1) (kFlu u x) (kFluR w x) := by
  obtain ⟨h0, hE, hF, z, fl, hL, hA⟩ := hI
  have e14 := hE 14 0 0 (sh_14 0)
  have e15 := hE 15 0 0 (sh_15 0)
  have hz := kIL_z hL
  have e1 : (if x < u 14 0 0 then x else u 14 0 0) = (if u 14 0 0 < x then u 14 0 0 else x) := by
    by_cases c : x < u 14 0 0
    · rw [if_pos c, if_neg (fun q => Int32.lt_irrefl (Int32.lt_trans c q))]
    · rw [if_neg c]
      by_cases c2 : u 14 0 0 < x
      · rw [if_pos c2]
      · rw [if_neg c2]
        exact Int32.le_antisymm (Int32.not_lt.mp c) (Int32.not_lt.mp c2)
  have eR : kFluR w x = ku w 15 0 0 (kFlu u x 15 0 0) := by
    unfold kFluR kFlu
    rw [ku_s, e14, e15, e1]
  obtain ⟨g, hg, eg⟩ : ∃ g, g ≤ z ∧ kFlu u x 15 0 0 = nI g := by
    unfold kFlu
    rw [ku_s, hL.1, hL.2.1]
    obtain ⟨j, hj, rfl⟩ := nI_of hx
    by_cases c : nI z < nI j
    · rw [if_pos c]
      split
      · exact ⟨z, Nat.le_refl _, rfl⟩
      · exact ⟨fl, hL.2.2.1, rfl⟩
    · rw [if_neg c]
      have : j ≤ z := by
        rw [nI_ltI (by omega) hj] at c
        omega
      split
      · exact ⟨j, this, rfl⟩
      · exact ⟨fl, hL.2.2.1, rfl⟩
  have eU : kFlu u x = ku u 15 0 0 (kFlu u x 15 0 0) := by
    unfold kFlu
    rw [ku_s]
  rw [eR]
  refine ⟨ku_s _ _ _ _ _, ku_F (by decide), h0, ?_, ?_, z, g, ?_, ?_⟩
  · rw [eU, ku_s]; exact kE_ku hE 15 0 0 _
  · rw [eU]; exact kIF_N (kIF_congr hF (fun F a b h1 h2 => ku_F (by omega)) (ku_F (by decide)) (fun a b => ku_F (by decide))) (by omega)
  · have e9 : kFlu u x 9 = u 9 := by funext a b; unfold kFlu; exact ku_F (by decide)
    refine ⟨by unfold kFlu; rw [ku_F (by decide)]; exact hL.1, eg, hg, by rw [e9]; exact hL.2.2.2.1, ?_, ?_, by rw [e9]; exact hL.2.2.2.2.2.2⟩
    · refine lg_C_eq (fun i _ _ => by rw [e9]) ?_ ?_ ?_ ?_ hL.2.2.2.2.1 <;> (funext a b; unfold kFlu; exact ku_F (by decide))
    · exact lg_D_eq (fun i _ _ => by funext b; exact ku_F (by decide)) (by funext a b; exact ku_F (by decide)) hL.2.2.2.2.2.1
  · rw [eU]; exact kIA_congr hA (by funext a b; exact ku_F (by decide)) (fun t => ku_F (by decide)) (fun t => ku_F (by decide))
theorem s_clean {n N : Nat} {u w : kS} (hI : kI n N u w) {q : Nat} (hq : q < 32) {a b : Int32} {u9 v9 : kS}
    (hc : (∃ f, f < n ∧ u 1 f 0 = nI q ∧ (∀ j, j < f → u 1 j 0 ≠ nI q) ∧ u 3 f 0 ≠ 0 ∧ u 5 f 8 ≤ u 15 0 0 ∧ a = 1 ∧ u9 = kBack u f q) ∨ ((∀ f, f < n → u 1 f 0 = nI q → (∀ j, j < f → u 1 j 0 ≠ nI q) → ¬ (u 3 f 0 ≠ 0 ∧ u 5 f 8 ≤ u 15 0 0)) ∧ a = 0 ∧ u9 = u))
    (hr : (∃ f, f < n ∧ w 1 f 0 = nI q ∧ (∀ j, j < f → w 1 j 0 ≠ nI q) ∧ w 3 f 0 ≠ 0 ∧ w 5 f 8 ≤ w 15 0 0 ∧ b = 1 ∧ v9 = kBackR w f q) ∨ ((∀ f, f < n → w 1 f 0 = nI q → (∀ j, j < f → w 1 j 0 ≠ nI q) → ¬ (w 3 f 0 ≠ 0 ∧ w 5 f 8 ≤ w 15 0 0)) ∧ b = 0 ∧ v9 = w)) : b = a ∧ v9 20 0 0 = w 20 0 0 ∧ kI n (N + 1) u9 v9 := by
  obtain ⟨h0, hE, hF, z, fl, hL, hA⟩ := hI
  have h1 : ∀ f, w 1 f 0 = u 1 f 0 := fun f => hE 1 f 0 (sh_1 0)
  have h3 : ∀ f, w 3 f 0 = u 3 f 0 := fun f => hE 3 f 0 (sh_3 0)
  have h5 : ∀ f, w 5 f 8 = u 5 f 8 := fun f => hE 5 f 8 sh_5
  have h15 := hE 15 0 0 (sh_15 0)
  rcases hc with ⟨f, hf, c1, c2, c3, c4, rfl, rfl⟩ | ⟨c1, rfl, rfl⟩
  · rcases hr with ⟨g, hg, d1, d2, d3, d4, rfl, rfl⟩ | ⟨d1, rfl, rfl⟩
    · have eg : f = g := by
        rw [h1] at d1
        rcases Nat.lt_trichotomy f g with k | k | k
        · have := d2 f k; rw [h1] at this; exact absurd c1 this
        · exact k
        · exact absurd d1 (c2 g k)
      subst eg
      obtain ⟨b1, b2⟩ := kBack_E hE hF hf c1 hq
      refine ⟨rfl, kBackR_F (by decide), h0, b1, kIF_N b2 (by omega), z, fl, kIL_congr hL (fun F a b h1 h2 => kBack_F h1) (fun a b => kBackR_F (by decide)) (fun a b => kBackR_F (by decide)), kIA_congr hA (by funext a b; exact kBack_F (by decide)) (fun t => kBack_F (by decide)) (fun t => kBack_F (by decide))⟩
    · exact absurd ⟨by rw [h3]; exact c3, by rw [h5, h15]; exact c4⟩ (d1 f hf (by rw [h1]; exact c1) (fun j hj => by rw [h1]; exact c2 j hj))
  · rcases hr with ⟨g, hg, d1, d2, d3, d4, rfl, rfl⟩ | ⟨d1, rfl, rfl⟩
    · rw [h3] at d3
      rw [h5, h15] at d4
      exact absurd ⟨d3, d4⟩ (c1 g hg (by rw [← h1]; exact d1) (fun j hj => by rw [← h1]; exact d2 j hj))
    · exact ⟨rfl, rfl, h0, hE, kIF_N hF (by omega), z, fl, hL, hA⟩
theorem s_frame {n N : Nat} {u w : kS} (hI : kI n N u w) {f : Nat} (hf : f < n) : ∀ {j : Nat}, j < 5 → kFrmR w f j = kFrm u f j := by
  obtain ⟨h0, hE, hF, -⟩ := hI
  have h1 := hE 1 f 0 (sh_1 0)
  have h2 := hE 2 f 0 (sh_2 0)
  have h3 := hE 3 f 0 (sh_3 0)
  have h4 := hE 4 f 0 (sh_4 0)
  have h5 := hE 5 f 8 sh_5
  intro j hj
  rcases hF.1 f hf with h9 | ⟨⟨q, h9, e9⟩, -⟩
  · have hneg : u 1 f 0 < 0 := by rw [h9.1]; decide
    match j, hj with
    | 0, _ => exact h1
    | 1, _ =>
      show (if w 1 f 0 < 0 then 0 else w 2 f 0) = u 2 f 0
      rw [h1, if_pos hneg, h9.2.1]
    | 2, _ =>
      show kb _ = kb _
      rw [kb_0 (fun q => q.1 (by rw [h1]; exact hneg)), kb_0 (fun q => q h9.2.2.1)]
    | 3, _ =>
      show kb _ = kb _
      rw [kb_0 (fun q => q.1 (by rw [h1]; exact hneg)), kb_0 (fun q => q h9.2.2.2.1)]
    | 4, _ =>
      show (if w 1 f 0 < 0 then 0 else w 5 f 8) = u 5 f 8
      rw [h1, if_pos hneg, h9.2.2.2.2]
  · have hneg : ¬ u 1 f 0 < 0 := by rw [e9]; exact nI_pos (by omega)
    match j, hj with
    | 0, _ => exact h1
    | 1, _ =>
      show (if w 1 f 0 < 0 then 0 else w 2 f 0) = u 2 f 0
      rw [h1, if_neg hneg, h2]
    | 2, _ =>
      show kb _ = kb _
      unfold kb
      rw [h1, h3]
      simp [hneg]
    | 3, _ =>
      show kb _ = kb _
      unfold kb
      rw [h1, h4]
      simp [hneg]
    | 4, _ =>
      show (if w 1 f 0 < 0 then 0 else w 5 f 8) = u 5 f 8
      rw [h1, if_neg hneg, h5]
theorem s_count {n N : Nat} {u w : kS} (hI : kI n N u w) : ∀ {j : Nat}, j < 8 → kCnt w j = kCnt u j := by
  obtain ⟨h0, hE, -⟩ := hI
  intro j hj
  match j, hj with
  | 0, _ => exact hE 14 0 0 (sh_14 0)
  | 1, _ => exact hE 15 0 0 (sh_15 0)
  | 2, _ => exact congrArg nI (kct_16 hE 8)
  | 3, _ => exact hE 6 0 0 (sh_6 0)
  | 4, _ => exact hE 7 0 0 (sh_7 0)
  | 5, _ => exact hE 8 0 0 (sh_8 0)
  | 6, _ => exact hE 18 0 0 (sh_18 0)
  | 7, _ => exact hE 19 0 0 (sh_19 0)
end KM
