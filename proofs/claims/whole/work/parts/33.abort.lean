abbrev kNat (x : Int32) : Nat := x.toNatClampNeg
theorem kNat_n {i : Nat} (h : i < 2 ^ 31) : kNat (nI i) = i := nI_clamp h
def kfnd (u : kS) (n : Nat) (pg : Int32) : Option Nat := (List.range n).find? (fun f => decide (u 1 f 0 = pg))
theorem kfnd_some {u : kS} {n : Nat} {pg : Int32} {f : Nat} (hf : f < n) (h1 : u 1 f 0 = pg) (h2 : ∀ j, j < f → u 1 j 0 ≠ pg) : kfnd u n pg = some f := by
  unfold kfnd
  rw [List.find?_range_eq_some]
  exact ⟨by simpa using h1, by simpa using hf, fun j hj => by simpa using h2 j hj⟩
theorem kfnd_none {u : kS} {n : Nat} {pg : Int32} (h : ∀ j, j < n → u 1 j 0 ≠ pg) : kfnd u n pg = none := by
  unfold kfnd
  rw [List.find?_eq_none]
  intro x hx
  simpa using h x (by simpa using hx)
/-- a page is brought, as a function -/
def kBr (u : kS) (n p : Nat) : kS × Option Nat :=
  match kfnd u n (nI p) with
  | some f => (ku u 4 f 0 1, some f)
  | none =>
    match kfnd u n (-1) with
    | some f => (ku (kLoad u p f (kNat (u 1 f 0))) 4 f 0 1, some f)
    | none =>
      match (kTurn n (u 15 0 0) (2 * n) u (kNat (u 6 0 0))).2 with
      | some f => (ku (kLoad (kTurn n (u 15 0 0) (2 * n) u (kNat (u 6 0 0))).1 p f (kNat (u 1 f 0))) 4 f 0 1, some f)
      | none => ((kTurn n (u 15 0 0) (2 * n) u (kNat (u 6 0 0))).1, none)
theorem kBring_fn {u : kS} {n p : Nat} {r : Int32} {u9 : kS} (hb : kBring u n p (u 15 0 0) (kNat (u 6 0 0)) (fun f => kNat (u 1 f 0)) r u9) : u9 = (kBr u n p).1 ∧ r = kO (kBr u n p).2 := by
  unfold kBr
  rcases hb with ⟨f, h1, h2, h3, rfl, rfl⟩ | ⟨f, h1, h2, h3, h4, rfl, rfl⟩ | ⟨f, h1, h2, h3, h4, rfl, rfl⟩ | ⟨h2, h3, h4, rfl, rfl⟩
  · rw [kfnd_some h1 h2 h3]
    exact ⟨rfl, rfl⟩
  · rw [kfnd_none h2, kfnd_some h1 h3 h4]
    exact ⟨rfl, rfl⟩
  · rw [kfnd_none h2, kfnd_none h3]
    dsimp only
    rw [h4]
    exact ⟨rfl, rfl⟩
  · rw [kfnd_none h2, kfnd_none h3]
    dsimp only
    rw [h4]
    exact ⟨rfl, rfl⟩
theorem kO_none {o : Option Nat} (h : -1 = kO o) (hl : ∀ f, o = some f → f < 2 ^ 30) : o = none := by
  cases o with
  | none => rfl
  | some f =>
    exfalso
    have h1 : (-1 : Int32) = nI f := h
    have h2 := nI_pos (n := f) (by have := hl f rfl; omega)
    rw [← h1] at h2
    exact h2 (by decide)
theorem kO_some {o : Option Nat} {f : Nat} (hf : f < 2 ^ 30) (h : nI f = kO o) (hl : ∀ g, o = some g → g < 2 ^ 30) : o = some f := by
  cases o with
  | none =>
    exfalso
    have h1 : nI f = -1 := h
    have h2 := nI_pos (n := f) (by omega)
    rw [h1] at h2
    exact h2 (by decide)
  | some g =>
    have h1 : nI f = nI g := h
    rw [(nI_eq (by omega) (by have := hl g rfl; omega)).mp h1]
theorem kfnd_lt {u : kS} {n : Nat} {pg : Int32} {f : Nat} (h : kfnd u n pg = some f) : f < n := by
  unfold kfnd at h
  rw [List.find?_range_eq_some] at h
  simpa using h.2.1
theorem kBr_lt {u : kS} {n p f : Nat} (hh : kNat (u 6 0 0) < n) (h : (kBr u n p).2 = some f) : f < n := by
  unfold kBr at h
  split at h
  · rename_i g hg
    cases h
    exact kfnd_lt hg
  · split at h
    · rename_i g hg
      cases h
      exact kfnd_lt hg
    · split at h
      · rename_i g hg
        cases h
        exact kTurn_lt _ _ _ _ hh hg
      · cases h
/-- undoing the transaction t in the pool, from the record i back: what then is, and how many, or none where a page can't be brought -/
def kAb (n t : Nat) : Nat → kS → Nat → kS × Option Nat
  | 0, u, d => (u, some d)
  | i + 1, u, d =>
    if kOpen u (i + 1) (kNat (u 9 (i + 1) 1)) ∧ u 9 (i + 1) 1 = nI t then
      match (kBr u n (kNat (u 9 (i + 1) 2))).2 with
      | none => ((kBr u n (kNat (u 9 (i + 1) 2))).1, none)
      | some f => kAb n t i (kUndP (kBr u n (kNat (u 9 (i + 1) 2))).1 f (i + 1) t (kNat (u 9 (i + 1) 3)) (kNat (u 14 0 0))) (d + 1)
    else kAb n t i u d
theorem kAb_no {n t i : Nat} {u : kS} {d : Nat} (h : ¬ (kOpen u (i + 1) (kNat (u 9 (i + 1) 1)) ∧ u 9 (i + 1) 1 = nI t)) : kAb n t (i + 1) u d = kAb n t i u d := if_neg h
theorem kAb_none {n t i : Nat} {u : kS} {d : Nat} (h : kOpen u (i + 1) (kNat (u 9 (i + 1) 1)) ∧ u 9 (i + 1) 1 = nI t) (h2 : (kBr u n (kNat (u 9 (i + 1) 2))).2 = none) : kAb n t (i + 1) u d = ((kBr u n (kNat (u 9 (i + 1) 2))).1, none) := by
  show (if _ then _ else _) = _
  rw [if_pos h, h2]
theorem kAb_some {n t i f : Nat} {u : kS} {d : Nat} (h : kOpen u (i + 1) (kNat (u 9 (i + 1) 1)) ∧ u 9 (i + 1) 1 = nI t) (h2 : (kBr u n (kNat (u 9 (i + 1) 2))).2 = some f) : kAb n t (i + 1) u d = kAb n t i (kUndP (kBr u n (kNat (u 9 (i + 1) 2))).1 f (i + 1) t (kNat (u 9 (i + 1) 3)) (kNat (u 14 0 0))) (d + 1) := by
  show (if _ then _ else _) = _
  rw [if_pos h, h2]
/-- what the pool's methods need of the frames -/
def kFr (u : kS) (n : Nat) : Prop := (∃ h, h < n ∧ u 6 0 0 = nI h) ∧ ∀ f, f < n → u 3 f 0 ≠ 0 → ∃ q, q < 32 ∧ u 1 f 0 = nI q
theorem kFr.h {u : kS} {n : Nat} (hn : n ≤ 8) (h : kFr u n) : kNat (u 6 0 0) < n ∧ u 6 0 0 = nI (kNat (u 6 0 0)) := by
  obtain ⟨⟨h9, h1, h2⟩, -⟩ := h
  rw [h2, kNat_n (by omega)]
  exact ⟨h1, rfl⟩
theorem kFr.q {u : kS} {n : Nat} (h : kFr u n) : ∀ f, f < n → u 3 f 0 ≠ 0 → u 1 f 0 = nI (kNat (u 1 f 0)) ∧ kNat (u 1 f 0) < 32 := by
  intro f hf hd
  obtain ⟨q, h1, h2⟩ := h.2 f hf hd
  rw [h2, kNat_n (by omega)]
  exact ⟨rfl, h1⟩
/-- I is kept while t is undone, and gives what each step needs -/
def kAbI (n t : Nat) (I : Nat → kS → Prop) : Prop :=
  (∀ v, I 0 v → ∃ z, v 14 0 0 = nI z ∧ z < 400) ∧
  ∀ i v, I (i + 1) v → ∃ z t9, v 14 0 0 = nI z ∧ i + 1 ≤ z ∧ z ≤ 400 ∧ t9 < 8 ∧ v 9 (i + 1) 1 = nI t9 ∧
    (¬ (kOpen v (i + 1) t9 ∧ v 9 (i + 1) 1 = nI t) → I i v) ∧
    (kOpen v (i + 1) t9 ∧ v 9 (i + 1) 1 = nI t → z < 400 ∧ kFr v n ∧ ∃ q k, q < 32 ∧ v 9 (i + 1) 2 = nI q ∧ k < 8 ∧ v 9 (i + 1) 3 = nI k ∧ ∀ f, (kBr v n q).2 = some f → I i (kUndP (kBr v n q).1 f (i + 1) t k z))
/-- .. and its end -/
def kAbE (u : kS) (t : Nat) : kS := ku (ku (kFol (kApp u (kNat (u 14 0 0) + 1) (nI 3) (nI t) (-1) (-1) (-1) (-1) (-1)) (kNat (u 14 0 0) + 1) t 0) 16 t 0 0) 17 t 0 0
abbrev kgX (p : Program) (l : Launch) (e : Env) (fr lc mc ms : Nat) (s : State) (m : MethodId) (args : Array Value) (below : List Frame) (meth : Method) (c9 : Code) (nL : Nat) (D : va_G) (c : Nat → ClassId) (ad : Nat → Nat → Nat) (n : Nat) (u0 : kS) (post : Option Value → kS → Prop) (pe : String → Prop) (cells slots : Nat) (u : kS) (pc : Nat) (lo : List (Option Value)) (st : List Value) : Prop :=
  kg p l e (kx_rm fr lc mc ms) s m args below meth c9 nL D (va_A (kw ad c n u0) s.heap.size) (vx_MQ below (kc_Q (kw ad c n) D post (va_A (kw ad c n u0) s.heap.size)) (kx_X pe D (kw ad c n u0) (va_A (kw ad c n u0) s.heap.size)) args s mc ms (va_A (kw ad c n u0) s.heap.size)) cells slots (kw ad c n u) pc lo st
set_option maxHeartbeats 4000000 in
set_option maxRecDepth 100000 in
theorem c_X3_abort (l : Launch) (hl : l.stackTraces = false) (D : va_G) (c : Nat → ClassId) (ad : Nat → Nat → Nat) (n : Nat) (hn : n ≤ 8) (u : kS) (a : Int32) (z : Nat) (I : Nat → Nat → kS → Prop) (hs : u 14 0 0 = nI z) (hz4 : z ≤ 400) (hI : ∀ t, t < 8 → a = nI t → u 16 t 0 ≠ 0 → kAbI n t (I t) ∧ I t z (ku u 17 t 0 1)) : kX l D c ad n yX3_abort (Cond.code yX3_abort cX3_abort 4 (some .int)) 7 151 2 12 u [.ref (ad 0 0), .int a] (fun v u9 => ∃ t, t < 8 ∧ a = nI t ∧ u 16 t 0 ≠ 0 ∧ (((kAb n t z (ku u 17 t 0 1) 0).2 = none ∧ v = some (.int (-2)) ∧ u9 = (kAb n t z (ku u 17 t 0 1) 0).1) ∨ (∃ d, (kAb n t z (ku u 17 t 0 1) 0).2 = some d ∧ v = some (.int (nI d)) ∧ u9 = kAbE (kAb n t z (ku u 17 t 0 1) 0).1 t))) (fun E => (E = sA ∧ ¬ kIn a 8) ∨ (E = sS ∧ ∃ t, t < 8 ∧ a = nI t ∧ u 16 t 0 = 0)) := by
  refine kx.mk (by decide) (by simp [Value.category]) (Nat.le_of_ble_eq_true rfl) ?_
  intro p e s m args below meth c9 cx hr hZ hno9
  refine kg_iload_n cx dX3_abort_0 rfl ?_
  refine kg_bipush (v := (nI 8)) cx dX3_abort_1 (by decide) ?_
  refine kx_callS (na := 2) cx hZ hno9 (c_X3_checkBelow l hl D c ad n u a 8 (by decide)) kcd_X3_checkBelow km_X3_41 kin_X3 kst_X3_checkBelow (by decide +kernel) rfl (by decide) (by decide) (by decide) rfl (Nat.le_of_ble_eq_true rfl) dX3_abort_3 (fun _ => kw_adr _ _) (fun E h => Or.inl h) (fun v9 u9 h9 => ?_)
  obtain ⟨⟨rfl, hi⟩, h9⟩ := h9
  subst u9
  obtain ⟨t, ht, rfl⟩ := hi
  refine kg_aload_n cx dX3_abort_6 rfl ?_
  refine kg_iload_n cx dX3_abort_7 rfl ?_
  refine kx_callV (ci := 3) (na := 1) cx hZ hno9 (c_X3_checkActive l hl D c ad n u t ht) 0 rfl rfl kcd_X3_checkActive km_X3_97 kin_X3 kim_X3_checkActive ksl_X3_checkActive (by decide +kernel) rfl (by decide) (by decide) (by decide) rfl (Nat.le_of_ble_eq_true rfl) dX3_abort_8 (fun _ => kw_adr _ _) (fun E h => Or.inr ⟨h.1, t, ht, rfl, h.2⟩) (fun v9 u9 h9 => ?_)
  obtain ⟨⟨rfl, ha⟩, h9⟩ := h9
  subst u9
  refine kg_aload_n cx dX3_abort_11 rfl ?_
  refine kg_get (ci := 3) cx 0 3 kfs_X3 rfl (by decide) rfl rfl kf_X3_38 dX3_abort_12 ?_
  refine kg_iload_n cx dX3_abort_15 rfl ?_
  refine kg_iconst (v := 1) cx dX3_abort_16 (by decide) ?_
  refine kg_zastN cx 6 1 t rfl rfl (rfl) (ht) (by decide) (by decide) (ks_abortBegun t _) dX3_abort_17 ?_
  refine kg_iconst (v := 0) cx dX3_abort_18 (by decide) ?_
  refine kg_istore_n cx dX3_abort_19 (by decide) ?_
  refine kg_aload_n cx dX3_abort_20 rfl ?_
  refine kg_get (ci := 3) cx 0 1 kfs_X3 rfl (by decide) rfl rfl kf_X3_30 dX3_abort_21 ?_
  refine kg_getN (ci := 1) cx 2 5 kfs_X1 rfl (by decide) rfl rfl (kfn_X3_100 cx.2.2.2.2.2.2.2.2) dX3_abort_24 ?_
  refine kg_top (nI z) ((ku_F (by decide)).trans hs) ?_
  refine kg_istore_n cx dX3_abort_27 (by decide) ?_
  obtain ⟨⟨hI0, hIs⟩, hIz⟩ := hI t ht rfl ha
  have loop : ∀ (k : Nat) (v : kS) (d : Nat), I t k v → kAb n t z (ku u 17 t 0 1) 0 = kAb n t k v d → kgX p l e 7 151 2 12 s m args below meth c9 4 D c ad n u (fun v u9 => ∃ t9, t9 < 8 ∧ nI t = nI t9 ∧ u 16 t9 0 ≠ 0 ∧ (((kAb n t9 z (ku u 17 t9 0 1) 0).2 = none ∧ v = some (.int (-2)) ∧ u9 = (kAb n t9 z (ku u 17 t9 0 1) 0).1) ∨ (∃ d, (kAb n t9 z (ku u 17 t9 0 1) 0).2 = some d ∧ v = some (.int (nI d)) ∧ u9 = kAbE (kAb n t9 z (ku u 17 t9 0 1) 0).1 t9))) (fun E => (E = sA ∧ ¬ kIn (nI t) 8) ∨ (E = sS ∧ ∃ t9, t9 < 8 ∧ nI t = nI t9 ∧ u 16 t9 0 = 0)) 2 12 v 28 [some (.ref (ad 0 0)), some (.int (nI t)), some (.int (nI d)), some (.int (nI k))] [] := by
    intro k
    induction k with
    | zero =>
      intro v d hv he
      obtain ⟨y, hy, hy4⟩ := hI0 v hv
      refine kg_iload_n cx dX3_abort_28 rfl ?_
      refine kg_iconst (v := 1) cx dX3_abort_29 (by decide) ?_
      refine kg_icmp_lt cx 77 dX3_abort_30 (by decide) (fun h1 => ?_) (fun h1 => ?_)
      · refine kg_aload_n cx dX3_abort_77 rfl ?_
        refine kg_get (ci := 3) cx 0 1 kfs_X3 rfl (by decide) rfl rfl kf_X3_30 dX3_abort_78 ?_
        refine kg_iconst (v := (nI 3)) cx dX3_abort_81 (by decide) ?_
        refine kg_iload_n cx dX3_abort_82 rfl ?_
        refine kg_callVN (ci := 1) (na := 2) cx (c_X1_appendLast l D c ad n v y t (nI 3) hy hy4 ht (by decide)) 2 rfl rfl kcd_X1_appendLast (kmn_X3_91 cx.2.2.2.2.2.2.2.2) kin_X1 kim_X1_appendLast ksl_X1_appendLast (by decide +kernel) rfl (by decide) (by decide) rfl (Nat.le_of_ble_eq_true rfl) dX3_abort_83 (fun _ => kw_adr _ _) (fun v9 u9 h9 => ?_)
        obtain ⟨rfl, h9⟩ := h9
        subst u9
        refine kg_pop cx dX3_abort_86 rfl ?_
        refine kg_aload_n cx dX3_abort_87 rfl ?_
        refine kg_get (ci := 3) cx 0 2 kfs_X3 rfl (by decide) rfl rfl kf_X3_34 dX3_abort_88 ?_
        refine kg_iload_n cx dX3_abort_91 rfl ?_
        refine kg_iconst (v := 0) cx dX3_abort_92 (by decide) ?_
        refine kg_zastN cx 5 1 t rfl rfl (rfl) (ht) (by decide) (by decide) (ks_active t _) dX3_abort_93 ?_
        refine kg_aload_n cx dX3_abort_94 rfl ?_
        refine kg_get (ci := 3) cx 0 3 kfs_X3 rfl (by decide) rfl rfl kf_X3_38 dX3_abort_95 ?_
        refine kg_iload_n cx dX3_abort_98 rfl ?_
        refine kg_iconst (v := 0) cx dX3_abort_99 (by decide) ?_
        refine kg_zastN cx 6 1 t rfl rfl (rfl) (ht) (by decide) (by decide) (ks_abortBegun t _) dX3_abort_100 ?_
        refine kg_iload_n cx dX3_abort_101 rfl ?_
        exact kx_ireturn cx hr (rfl) _ rfl (⟨t, ht, rfl, ha, Or.inr ⟨d, by rw [he]; rfl, rfl, by
            rw [he]
            show _ = kAbE v t
            unfold kAbE
            rw [hy, kNat_n (by omega)]⟩⟩) dX3_abort_102 (by decide)
      · exact absurd (by decide) h1
    | succ k ih =>
      intro v d hv he
      obtain ⟨y, t9, hy, hky, hy4, ht9, hT9, hno, hyes⟩ := hIs k v hv
      have hTn : kNat (v 9 (k + 1) 1) = t9 := by rw [hT9, kNat_n (by omega)]
      refine kg_iload_n cx dX3_abort_28 rfl ?_
      refine kg_iconst (v := 1) cx dX3_abort_29 (by decide) ?_
      refine kg_icmp_lt cx 77 dX3_abort_30 (by decide) (fun h1 => ?_) (fun h1 => ?_)
      · exact absurd h1 (nI_nlt (show 1 ≤ k + 1 by omega) (by omega))
      · refine kg_aload_n cx dX3_abort_33 rfl ?_
        refine kg_get (ci := 3) cx 0 1 kfs_X3 rfl (by decide) rfl rfl kf_X3_30 dX3_abort_34 ?_
        refine kg_iload_n cx dX3_abort_37 rfl ?_
        refine kg_callVN (ci := 1) (na := 1) cx (c_X1_isOpen l D c ad n v (k + 1) t9 (by omega) ht9 hT9) 2 rfl rfl kcd_X1_isOpen (kmn_X3_103 cx.2.2.2.2.2.2.2.2) kin_X1 kim_X1_isOpen ksl_X1_isOpen (by decide +kernel) rfl (by decide) (by decide) rfl (Nat.le_of_ble_eq_true rfl) dX3_abort_38 (fun _ => kw_adr _ _) (fun v9 u9 h9 => ?_)
        obtain ⟨rfl, h9⟩ := h9
        subst u9
        refine kg_if_eq cx 71 dX3_abort_41 (by decide) (fun h2 => ?_) (fun h2 => ?_)
        · have hn9 : ¬ (kOpen v (k + 1) t9 ∧ v 9 (k + 1) 1 = nI t) := fun q9 => absurd ((kb_1 q9.1).symm.trans h2) (by decide)
          refine kg_iinc (v := nI k) cx dX3_abort_71 rfl (pk_m1 k) (by decide) ?_
          refine kg_goto cx 28 dX3_abort_74 (by decide) ?_
          exact ih v d (hno hn9) (by rw [he, kAb_no (by rw [hTn]; exact hn9)])
        · have hop1 : kOpen v (k + 1) t9 := by
            by_cases q9 : kOpen v (k + 1) t9
            · exact q9
            · exact absurd (kb_0 q9) h2
          refine kg_aload_n cx dX3_abort_44 rfl ?_
          refine kg_get (ci := 3) cx 0 1 kfs_X3 rfl (by decide) rfl rfl kf_X3_30 dX3_abort_45 ?_
          refine kg_iload_n cx dX3_abort_48 rfl ?_
          refine kg_iconst (v := 1) cx dX3_abort_49 (by decide) ?_
          refine kg_callVN (ci := 1) (na := 2) cx (c_X1_value l D c ad n v (k + 1) 1 (by omega) (by decide)) 2 rfl rfl kcd_X1_value (kmn_X3_106 cx.2.2.2.2.2.2.2.2) kin_X1 kim_X1_value ksl_X1_value (by decide +kernel) rfl (by decide) (by decide) rfl (Nat.le_of_ble_eq_true rfl) dX3_abort_50 (fun _ => kw_adr _ _) (fun v9 u9 h9 => ?_)
          obtain ⟨rfl, h9⟩ := h9
          subst u9
          refine kg_iload_n cx dX3_abort_53 rfl ?_
          refine kg_icmp_ne cx 71 dX3_abort_54 (by decide) (fun h3 => ?_) (fun h3 => ?_)
          · have hn9 : ¬ (kOpen v (k + 1) t9 ∧ v 9 (k + 1) 1 = nI t) := fun q9 => h3 q9.2
            refine kg_iinc (v := nI k) cx dX3_abort_71 rfl (pk_m1 k) (by decide) ?_
            refine kg_goto cx 28 dX3_abort_74 (by decide) ?_
            exact ih v d (hno hn9) (by rw [he, kAb_no (by rw [hTn]; exact hn9)])
          · have hop : kOpen v (k + 1) t9 ∧ v 9 (k + 1) 1 = nI t := ⟨hop1, h3⟩
            obtain ⟨hy5, hfr, q, k9, hq, hq9, hk9, hk99, hnx⟩ := hyes hop
            have hop2 : kOpen v (k + 1) (kNat (v 9 (k + 1) 1)) ∧ v 9 (k + 1) 1 = nI t := by rw [hTn]; exact hop
            have eq9 : kNat (v 9 (k + 1) 2) = q := by rw [hq9, kNat_n (by omega)]
            have ek9 : kNat (v 9 (k + 1) 3) = k9 := by rw [hk99, kNat_n (by omega)]
            have ey9 : kNat (v 14 0 0) = y := by rw [hy, kNat_n (by omega)]
            refine kg_aload_n cx dX3_abort_57 rfl ?_
            refine kg_iload_n cx dX3_abort_58 rfl ?_
            refine kg_callV (ci := 3) (na := 1) cx (c_X3_undoInPool l D c ad n hn v (k + 1) t q k9 y (kNat (v 6 0 0)) (fun f => kNat (v 1 f 0)) hky hy5 hy ht h3 hq hq9 hk9 hk99 (hfr.h hn).1 (hfr.h hn).2 hfr.q) 0 rfl rfl kcd_X3_undoInPool km_X3_109 kin_X3 kim_X3_undoInPool ksl_X3_undoInPool (by decide +kernel) rfl (by decide) (by decide) rfl (Nat.le_of_ble_eq_true rfl) dX3_abort_59 (fun _ => kw_adr _ _) (fun v9 u9 h9 => ?_)
            obtain ⟨r9, rfl, hu9⟩ := h9
            rcases hu9 with ⟨u1, hb9, rfl, h9⟩ | ⟨f, u1, hf, hb9, rfl, h9⟩
            · obtain ⟨rfl, e2⟩ := kBring_fn hb9
              have e3 := kO_none e2 (fun f hf => by have := kBr_lt (hfr.h hn).1 hf; omega)
              subst u9
              refine kg_if_ne cx 68 dX3_abort_62 (by decide) (fun h5 => ?_) (fun h5 => ?_)
              · exact absurd rfl h5
              · refine kg_bipush (v := (-2)) cx dX3_abort_65 (by decide) ?_
                exact kx_ireturn cx hr (rfl) _ rfl (⟨t, ht, rfl, ha, Or.inl ⟨by rw [he, kAb_none hop2 (by rw [eq9]; exact e3)], rfl, by rw [he, kAb_none hop2 (by rw [eq9]; exact e3), eq9]⟩⟩) dX3_abort_67 (by decide)
            · obtain ⟨rfl, e2⟩ := kBring_fn hb9
              have e3 := kO_some (by omega) e2 (fun f hf => by have := kBr_lt (hfr.h hn).1 hf; omega)
              subst u9
              refine kg_if_ne cx 68 dX3_abort_62 (by decide) (fun h5 => ?_) (fun h5 => ?_)
              · refine kg_iinc (v := nI (d + 1)) cx dX3_abort_68 rfl (nI_1 d) (by decide) ?_
                refine kg_iinc (v := nI k) cx dX3_abort_71 rfl (pk_m1 k) (by decide) ?_
                refine kg_goto cx 28 dX3_abort_74 (by decide) ?_
                exact ih _ (d + 1) (hnx f e3) (by rw [he, kAb_some hop2 (by rw [eq9]; exact e3), eq9, ek9, ey9])
              · exact absurd h5 (by decide)
  exact loop z _ 0 hIz rfl
