def kEmR (v : kS) (f : Nat) : kS := ku (ku (ku (ku (ku v 1 f 0 (-1)) 2 f 0 0) 3 f 0 0) 4 f 0 0) 5 f 8 0
def kClR (v : kS) : Nat → kS
  | 0 => v
  | k + 1 => kEmR (kClR v k) k
theorem kEmR_F {v : kS} {f F a b : Nat} (h : 6 ≤ F ∨ F = 0) : kEmR v f F a b = v F a b := by
  have h1 : F ≠ 1 := by omega
  have h2 : F ≠ 2 := by omega
  have h3 : F ≠ 3 := by omega
  have h4 : F ≠ 4 := by omega
  have h5 : F ≠ 5 := by omega
  simp [kEmR, ku, h1, h2, h3, h4, h5]
theorem kClR_F {v : kS} {F a b : Nat} (h : 6 ≤ F ∨ F = 0) : ∀ k, kClR v k F a b = v F a b
  | 0 => rfl
  | k + 1 => by
    show kEmR _ _ F a b = _
    rw [kEmR_F h]
    exact kClR_F h k
/-- each of the first k TRANSACTIONS is taken as ACTIVE if its last record, of z, is no end -/
def kAct (v : kS) (z : Nat) : Nat → kS
  | 0 => v
  | t + 1 => ku (kAct v z t) 16 t 0 (kIso (kAct v z t) (nI t) z)
theorem kAct_F {v : kS} {z F a b : Nat} (h : F ≠ 16) : ∀ k, kAct v z k F a b = v F a b
  | 0 => rfl
  | k + 1 => by
    show ku _ _ _ _ _ F a b = _
    rw [ku_F h]
    exact kAct_F h k
theorem kIso_01 (u : kS) (t : Int32) : ∀ i, kIso u t i = 0 ∨ kIso u t i = 1
  | 0 => Or.inl rfl
  | i + 1 => by
    unfold kIso
    split
    · unfold kb
      split
      · exact Or.inr rfl
      · exact Or.inl rfl
    · exact kIso_01 u t i
/-- record i, of transaction t, is undone by the crash -/
abbrev kOpR (v : kS) (i t z : Nat) : Prop := v 9 i 0 = 0 ∧ v 22 i 0 = 0 ∧ v 16 t 0 ≠ 0 ∧ kIsl v i (z - i) ≠ 0
def kUnR1 (v : kS) (i p k z : Nat) : kS := ku (ku (ku (kTell v i z (v 0 p k)) 0 p 8 (nI (z + 1))) 0 p k (v 9 i 4)) 19 0 0 (v 19 0 0 + 1)
def kUnR (T Pg Nb : Nat → Nat) : Nat → kS → Nat → kS × Nat
  | 0, v, z => (v, z)
  | i + 1, v, z => if kOpR v (i + 1) (T (i + 1)) z then kUnR T Pg Nb i (kUnR1 v (i + 1) (Pg (i + 1)) (Nb (i + 1)) z) (z + 1) else kUnR T Pg Nb i v z
theorem kUnR_s {T Pg Nb : Nat → Nat} {i : Nat} {v : kS} {z : Nat} : kUnR T Pg Nb (i + 1) v z = if kOpR v (i + 1) (T (i + 1)) z then kUnR T Pg Nb i (kUnR1 v (i + 1) (Pg (i + 1)) (Nb (i + 1)) z) (z + 1) else kUnR T Pg Nb i v z := rfl
def kUnROk (T Pg Nb : Nat → Nat) : Nat → kS → Nat → Prop
  | 0, _, _ => True
  | i + 1, v, z => if kOpR v (i + 1) (T (i + 1)) z then z < 400 ∧ kUnROk T Pg Nb i (kUnR1 v (i + 1) (Pg (i + 1)) (Nb (i + 1)) z) (z + 1) else kUnROk T Pg Nb i v z
theorem kUnROk_s {T Pg Nb : Nat → Nat} {i : Nat} {v : kS} {z : Nat} : kUnROk T Pg Nb (i + 1) v z = if kOpR v (i + 1) (T (i + 1)) z then z < 400 ∧ kUnROk T Pg Nb i (kUnR1 v (i + 1) (Pg (i + 1)) (Nb (i + 1)) z) (z + 1) else kUnROk T Pg Nb i v z := rfl
theorem kUnR1_9 {v : kS} {i p k z j b : Nat} (h : j ≠ z + 1) : kUnR1 v i p k z 9 j b = v 9 j b := by simp [kUnR1, kTell, kRec, kApp, ku, h]
theorem kUnR1_14 {v : kS} {i p k z : Nat} : kUnR1 v i p k z 14 0 0 = nI (z + 1) := by simp [kUnR1, kTell, kRec, kApp, ku]
theorem kUnR_14 {T Pg Nb : Nat → Nat} : ∀ (i : Nat) (v : kS) (z : Nat), v 14 0 0 = nI z → (kUnR T Pg Nb i v z).1 14 0 0 = nI (kUnR T Pg Nb i v z).2
  | 0, _, _, h => h
  | i + 1, v, z, h => by
    rw [kUnR_s]
    split
    · exact kUnR_14 i _ _ kUnR1_14
    · exact kUnR_14 i _ _ h
/-- an END for each of the first k that are ACTIVE still, then none is -/
def kEnR (v : kS) (z : Nat) : Nat → kS × Nat
  | 0 => (v, z)
  | t + 1 => if (kEnR v z t).1 16 t 0 = 0 then (ku (ku (kEnR v z t).1 16 t 0 0) 17 t 0 0, (kEnR v z t).2) else (ku (ku (kRec (kEnR v z t).1 (kEnR v z t).2 (nI 3) (nI t)) 16 t 0 0) 17 t 0 0, (kEnR v z t).2 + 1)
theorem kEnR_s {v : kS} {z t : Nat} : kEnR v z (t + 1) = if (kEnR v z t).1 16 t 0 = 0 then (ku (ku (kEnR v z t).1 16 t 0 0) 17 t 0 0, (kEnR v z t).2) else (ku (ku (kRec (kEnR v z t).1 (kEnR v z t).2 (nI 3) (nI t)) 16 t 0 0) 17 t 0 0, (kEnR v z t).2 + 1) := rfl
theorem kEnR_14 {v : kS} {z : Nat} (h : v 14 0 0 = nI z) : ∀ t, (kEnR v z t).1 14 0 0 = nI (kEnR v z t).2
  | 0 => h
  | t + 1 => by
    have e := kEnR_14 h t
    rw [kEnR_s]
    split
    · dsimp only
      rw [ku_F (by decide), ku_F (by decide)]
      exact e
    · dsimp only
      simp [kRec, kApp, ku]
/-- the reference's crash up to its redoing, .. up to its undoing, .. -/
def kCR1 (w : kS) (fl z : Nat) (Pg Nb : Nat → Nat) : kS := kRedoR (ku (kClR (ku (kLose w fl (z - fl)) 14 0 0 (nI fl)) 8) 6 0 0 0) Pg Nb fl
def kCR2 (w : kS) (fl z : Nat) (Pg Nb : Nat → Nat) : kS := kAct (ku (kCR1 w fl z Pg Nb) 19 0 0 0) fl 8
def kCR3 (w : kS) (fl z : Nat) (T Pg Nb : Nat → Nat) : kS × Nat := kEnR (kUnR T Pg Nb fl (kCR2 w fl z Pg Nb) fl).1 (kUnR T Pg Nb fl (kCR2 w fl z Pg Nb) fl).2 8
def kCR4 (w : kS) (fl z : Nat) (T Pg Nb : Nat → Nat) : kS := ku (kCR3 w fl z T Pg Nb).1 15 0 0 (nI (kCR3 w fl z T Pg Nb).2)
def kCrashR (w : kS) (fl z : Nat) (T Pg Nb : Nat → Nat) : kS := ku (kCR4 w fl z T Pg Nb) 18 0 0 (kCR4 w fl z T Pg Nb 18 0 0 + 1)
theorem kCR1_F {w : kS} {fl z F a b : Nat} {Pg Nb : Nat → Nat} (h : F ≠ 0 ∧ 6 < F ∧ F ≠ 14 ∧ F ≠ 22) : kCR1 w fl z Pg Nb F a b = w F a b := by
  unfold kCR1
  rw [kRedoR_F h.1, ku_F (by omega), kClR_F (by omega), ku_F h.2.2.1, kLose_F h.2.2.2]
theorem kCR1_14 {w : kS} {fl z : Nat} {Pg Nb : Nat → Nat} : kCR1 w fl z Pg Nb 14 0 0 = nI fl := by
  unfold kCR1
  rw [kRedoR_F (by decide), ku_F (by decide), kClR_F (by omega), ku_s]
theorem kCR2_9 {w : kS} {fl z a b : Nat} {Pg Nb : Nat → Nat} : kCR2 w fl z Pg Nb 9 a b = w 9 a b := by
  unfold kCR2
  rw [kAct_F (by decide), ku_F (by decide), kCR1_F (by decide)]
theorem kCR2_14 {w : kS} {fl z : Nat} {Pg Nb : Nat → Nat} : kCR2 w fl z Pg Nb 14 0 0 = nI fl := by
  unfold kCR2
  rw [kAct_F (by decide), ku_F (by decide), kCR1_14]
set_option maxHeartbeats 4000000 in
set_option maxRecDepth 100000 in
theorem r_crash (l : Launch) (D : va_G) (c : Nat → ClassId) (rd : Nat → Nat) (u : kS) (w9 : kS) (hw : ku u 20 0 0 0 = w9) (fl z : Nat) (T Pg Nb : Nat → Nat) (hs : w9 14 0 0 = nI z) (hz : z ≤ 400) (hf : w9 15 0 0 = nI fl) (hfz : fl ≤ z) (hW : ∀ i, i ≤ z → 1 ≤ i → w9 9 i 0 = 1 → ∃ w, w ≤ 400 ∧ w9 9 i 6 = nI w) (hT : ∀ i, i ≤ fl → 1 ≤ i → w9 9 i 1 = nI (T i) ∧ T i < 8) (hP : ∀ i, i ≤ fl → 1 ≤ i → w9 9 i 0 < nI 2 → w9 9 i 2 = nI (Pg i) ∧ Pg i < 32 ∧ w9 9 i 3 = nI (Nb i) ∧ Nb i < 8) (hOk1 : kUnROk T Pg Nb fl (kCR2 w9 fl z Pg Nb) fl) (hOk2 : ∀ t, t < 8 → ¬ (kEnR (kUnR T Pg Nb fl (kCR2 w9 fl z Pg Nb) fl).1 (kUnR T Pg Nb fl (kCR2 w9 fl z Pg Nb) fl).2 t).1 16 t 0 = 0 → (kEnR (kUnR T Pg Nb fl (kCR2 w9 fl z Pg Nb) fl).1 (kUnR T Pg Nb fl (kCR2 w9 fl z Pg Nb) fl).2 t).2 < 400) : kR l D c rd yX4_crash (Cond.code yX4_crash cX4_crash 5 (some .int)) 2 45 u [.ref (rd 0)] (fun v u9 => v = some (.int (w9 14 0 0 - w9 15 0 0)) ∧ u9 = kCrashR w9 fl z T Pg Nb) := by
  refine kR.mk (by decide) (by simp [Value.category]) (Nat.le_of_ble_eq_true rfl) ?_
  intro p e s m args below meth c9 cx hr
  refine kg_aload_n cx dX4_crash_0 rfl ?_
  refine kg_iconst (v := 0) cx dX4_crash_1 (by decide) ?_
  refine kg_put (ci := 4) (ty := .int) cx 0 0 kfs_X4 tyX4 tyX4_ok nmX4 rfl (by decide) rfl (Nat.le_of_ble_eq_true rfl) kf_X4_69 rfl (by decide +kernel) rfl rfl (kq_refusal _) dX4_crash_2 ?_
  refine kg_eq (congrArg (kr rd c) hw) rfl rfl rfl ?_
  have ends : ∀ (k i : Nat), 8 - i = k → i ≤ 8 → kgR p l e 2 45 s m args below meth c9 5 D c rd u (fun v u9 => v = some (.int (w9 14 0 0 - w9 15 0 0)) ∧ u9 = kCrashR w9 fl z T Pg Nb) (kEnR (kUnR T Pg Nb fl (kCR2 w9 fl z Pg Nb) fl).1 (kUnR T Pg Nb fl (kCR2 w9 fl z Pg Nb) fl).2 i).1 230 [some (.ref (rd 0)), some (.int (w9 14 0 0 - w9 15 0 0)), none, some (.int (nI i)), none] [] := by
    intro k
    induction k with
    | zero =>
      intro i hk hi
      have e8 : i = 8 := by omega
      subst i
      refine kg_iload_n cx dX4_crash_230 rfl ?_
      refine kg_bipush (v := (nI 8)) cx dX4_crash_231 (by decide) ?_
      refine kg_icmp_ge cx 273 dX4_crash_233 (by decide) (fun h1 => ?_) (fun h1 => ?_)
      · refine kg_aload_n cx dX4_crash_273 rfl ?_
        refine kg_aload_n cx dX4_crash_274 rfl ?_
        refine kg_get (ci := 4) cx 0 11 kfs_X4 rfl (by decide) rfl rfl kf_X4_113 dX4_crash_275 ?_
        refine kg_top (nI (kCR3 w9 fl z T Pg Nb).2) (kEnR_14 (kUnR_14 _ _ _ kCR2_14) 8) ?_
        refine kg_put (ci := 4) (ty := .int) cx 0 12 kfs_X4 tyX4 tyX4_ok nmX4 rfl (by decide) rfl (Nat.le_of_ble_eq_true rfl) kf_X4_72 rfl (by decide +kernel) rfl rfl (kq_flushed _) dX4_crash_278 ?_
        refine kg_aload_n cx dX4_crash_281 rfl ?_
        refine kg_dup cx dX4_crash_282 rfl ?_
        refine kg_get (ci := 4) cx 0 25 kfs_X4 rfl (by decide) rfl rfl kf_X4_147 dX4_crash_283 ?_
        refine kg_iconst (v := 1) cx dX4_crash_286 (by decide) ?_
        refine kg_iadd cx dX4_crash_287 ?_
        refine kg_put (ci := 4) (ty := .int) cx 0 25 kfs_X4 tyX4 tyX4_ok nmX4 rfl (by decide) rfl (Nat.le_of_ble_eq_true rfl) kf_X4_147 rfl (by decide +kernel) rfl rfl (kq_crashes _) dX4_crash_288 ?_
        refine kg_iload_n cx dX4_crash_291 rfl ?_
        exact kg_ireturn cx hr (rfl) _ rfl (⟨rfl, rfl⟩) dX4_crash_292
      · exact absurd (Int32.le_refl _) h1
    | succ k ih =>
      intro i hk hi
      have hin : i < 8 := by omega
      refine kg_iload_n cx dX4_crash_230 rfl ?_
      refine kg_bipush (v := (nI 8)) cx dX4_crash_231 (by decide) ?_
      refine kg_icmp_ge cx 273 dX4_crash_233 (by decide) (fun h1 => ?_) (fun h1 => ?_)
      · exact absurd h1 (nI_ge hin (by omega))
      · refine kg_aload_n cx dX4_crash_236 rfl ?_
        refine kg_get (ci := 4) cx 0 21 kfs_X4 rfl (by decide) rfl rfl kf_X4_59 dX4_crash_237 ?_
        refine kg_iload_n cx dX4_crash_240 rfl ?_
        refine kg_zaldN cx 17 1 i rfl rfl (rfl) (hin) (by decide) (rfl) dX4_crash_241 ?_
        refine kg_if_eq cx 253 dX4_crash_242 (by decide) (fun h2 => ?_) (fun h2 => ?_)
        · refine kg_aload_n cx dX4_crash_253 rfl ?_
          refine kg_get (ci := 4) cx 0 21 kfs_X4 rfl (by decide) rfl rfl kf_X4_59 dX4_crash_254 ?_
          refine kg_iload_n cx dX4_crash_257 rfl ?_
          refine kg_iconst (v := 0) cx dX4_crash_258 (by decide) ?_
          refine kg_zastN cx 17 1 i rfl rfl (rfl) (hin) (by decide) (by decide) (kq_isActive i _) dX4_crash_259 ?_
          refine kg_aload_n cx dX4_crash_260 rfl ?_
          refine kg_get (ci := 4) cx 0 22 kfs_X4 rfl (by decide) rfl rfl kf_X4_62 dX4_crash_261 ?_
          refine kg_iload_n cx dX4_crash_264 rfl ?_
          refine kg_iconst (v := 0) cx dX4_crash_265 (by decide) ?_
          refine kg_zastN cx 18 1 i rfl rfl (rfl) (hin) (by decide) (by decide) (kq_isLeaving i _) dX4_crash_266 ?_
          refine kg_iinc (v := nI (i + 1)) cx dX4_crash_267 rfl (nI_1 i) (by decide) ?_
          refine kg_goto cx 230 dX4_crash_270 (by decide) ?_
          refine kg_lo (lo9 := [some (.ref (rd 0)), some (.int (w9 14 0 0 - w9 15 0 0)), none, some (.int (nI (i + 1))), none]) (fun j x9 hx => ?_) ?_
          · match j, hx with
            | 0, hx => exact hx
            | 1, hx => exact hx
            | 2, hx => cases hx
            | 3, hx => exact hx
            | 4, hx => cases hx
            | j + 5, hx => cases hx
          · have := ih (i + 1) (by omega) (by omega)
            rw [kEnR_s (t := i), if_pos h2] at this
            exact this
        · refine kg_aload_n cx dX4_crash_245 rfl ?_
          refine kg_iconst (v := (nI 3)) cx dX4_crash_246 (by decide) ?_
          refine kg_iload_n cx dX4_crash_247 rfl ?_
          refine kg_callV (ci := 4) (na := 2) cx (r_record l D c rd (kEnR (kUnR T Pg Nb fl (kCR2 w9 fl z Pg Nb) fl).1 (kUnR T Pg Nb fl (kCR2 w9 fl z Pg Nb) fl).2 i).1 (nI 3) (nI i) (kEnR (kUnR T Pg Nb fl (kCR2 w9 fl z Pg Nb) fl).1 (kUnR T Pg Nb fl (kCR2 w9 fl z Pg Nb) fl).2 i).2 (kEnR_14 (kUnR_14 _ _ _ kCR2_14) i) (hOk2 i hin h2)) 0 rfl rfl kcd_X4_record km_X4_122 kin_X4 kim_X4_record ksl_X4_record (by decide +kernel) rfl (by decide) (by decide) rfl (Nat.le_of_ble_eq_true rfl) dX4_crash_248 (fun _ => kr_adr _ _) (fun v9 u9 h9 => ?_)
          obtain ⟨rfl, h9⟩ := h9
          subst u9
          refine kg_istore cx dX4_crash_251 (by decide) ?_
          refine kg_aload_n cx dX4_crash_253 rfl ?_
          refine kg_get (ci := 4) cx 0 21 kfs_X4 rfl (by decide) rfl rfl kf_X4_59 dX4_crash_254 ?_
          refine kg_iload_n cx dX4_crash_257 rfl ?_
          refine kg_iconst (v := 0) cx dX4_crash_258 (by decide) ?_
          refine kg_zastN cx 17 1 i rfl rfl (rfl) (hin) (by decide) (by decide) (kq_isActive i _) dX4_crash_259 ?_
          refine kg_aload_n cx dX4_crash_260 rfl ?_
          refine kg_get (ci := 4) cx 0 22 kfs_X4 rfl (by decide) rfl rfl kf_X4_62 dX4_crash_261 ?_
          refine kg_iload_n cx dX4_crash_264 rfl ?_
          refine kg_iconst (v := 0) cx dX4_crash_265 (by decide) ?_
          refine kg_zastN cx 18 1 i rfl rfl (rfl) (hin) (by decide) (by decide) (kq_isLeaving i _) dX4_crash_266 ?_
          refine kg_iinc (v := nI (i + 1)) cx dX4_crash_267 rfl (nI_1 i) (by decide) ?_
          refine kg_goto cx 230 dX4_crash_270 (by decide) ?_
          refine kg_lo (lo9 := [some (.ref (rd 0)), some (.int (w9 14 0 0 - w9 15 0 0)), none, some (.int (nI (i + 1))), none]) (fun j x9 hx => ?_) ?_
          · match j, hx with
            | 0, hx => exact hx
            | 1, hx => exact hx
            | 2, hx => cases hx
            | 3, hx => exact hx
            | 4, hx => cases hx
            | j + 5, hx => cases hx
          · have := ih (i + 1) (by omega) (by omega)
            rw [kEnR_s (t := i), if_neg h2] at this
            exact this
  have undo : ∀ (k : Nat) (v : kS) (y : Nat), k ≤ fl → fl ≤ y → y ≤ 400 → v 14 0 0 = nI y → (∀ a b, a ≤ fl → v 9 a b = w9 9 a b) → kUnROk T Pg Nb k v y → (kUnR T Pg Nb fl (kCR2 w9 fl z Pg Nb) fl) = kUnR T Pg Nb k v y → kgR p l e 2 45 s m args below meth c9 5 D c rd u (fun v u9 => v = some (.int (w9 14 0 0 - w9 15 0 0)) ∧ u9 = kCrashR w9 fl z T Pg Nb) v 114 [some (.ref (rd 0)), some (.int (w9 14 0 0 - w9 15 0 0)), none, some (.int (nI k)), none] [] := by
    intro k
    induction k with
    | zero =>
      intro v y hi hy hy4 hs9 hR hok he
      refine kg_iload_n cx dX4_crash_114 rfl ?_
      refine kg_if_le cx 228 dX4_crash_115 (by decide) (fun h9 => ?_) (fun h9 => absurd h9 (by decide))
      refine kg_iconst (v := 0) cx dX4_crash_228 (by decide) ?_
      refine kg_istore_n cx dX4_crash_229 (by decide) ?_
      refine kg_lo (lo9 := [some (.ref (rd 0)), some (.int (w9 14 0 0 - w9 15 0 0)), none, some (.int (nI 0)), none]) (fun j x9 hx => ?_) ?_
      · match j, hx with
        | 0, hx => exact hx
        | 1, hx => exact hx
        | 2, hx => cases hx
        | 3, hx => exact hx
        | 4, hx => cases hx
        | j + 5, hx => cases hx
      · have := ends 8 0 rfl (by decide)
        rw [he] at this
        exact this
    | succ k ih =>
      intro v y hi hy hy4 hs9 hR hok he
      have ht9 := hT (k + 1) hi (by omega)
      rw [kUnROk_s] at hok
      rw [kUnR_s] at he
      refine kg_iload_n cx dX4_crash_114 rfl ?_
      refine kg_if_le cx 228 dX4_crash_115 (by decide) (fun h9 => absurd h9 (nI_nle (by omega) (by omega))) (fun h9 => ?_)
      refine kg_aload_n cx dX4_crash_118 rfl ?_
      refine kg_get (ci := 4) cx 0 13 kfs_X4 rfl (by decide) rfl rfl kf_X4_35 dX4_crash_119 ?_
      refine kg_iload_n cx dX4_crash_122 rfl ?_
      refine kg_ialdN cx 9 0 (k + 1) rfl rfl (rfl) (by omega) (by decide) (rfl) dX4_crash_123 ?_
      refine kg_if_ne cx 222 dX4_crash_124 (by decide) (fun h1 => ?_) (fun h1 => ?_)
      · rw [if_neg (fun h => h1 h.1)] at hok he
        refine kg_iinc (v := nI k) cx dX4_crash_222 rfl (pk_m1 k) (by decide) ?_
        refine kg_goto cx 114 dX4_crash_225 (by decide) ?_
        refine kg_lo (lo9 := [some (.ref (rd 0)), some (.int (w9 14 0 0 - w9 15 0 0)), none, some (.int (nI k)), none]) (fun j x9 hx => ?_) ?_
        · match j, hx with
          | 0, hx => exact hx
          | 1, hx => exact hx
          | 2, hx => cases hx
          | 3, hx => exact hx
          | 4, hx => cases hx
          | j + 5, hx => cases hx
        · exact ih v y (by omega) (by omega) hy4 hs9 hR hok he
      · refine kg_aload_n cx dX4_crash_127 rfl ?_
        refine kg_get (ci := 4) cx 0 20 kfs_X4 rfl (by decide) rfl rfl kf_X4_56 dX4_crash_128 ?_
        refine kg_iload_n cx dX4_crash_131 rfl ?_
        refine kg_zaldN cx 16 1 (k + 1) rfl rfl (rfl) (by omega) (by decide) (rfl) dX4_crash_132 ?_
        refine kg_if_ne cx 222 dX4_crash_133 (by decide) (fun h2 => ?_) (fun h2 => ?_)
        · rw [if_neg (fun h => h2 h.2.1)] at hok he
          refine kg_iinc (v := nI k) cx dX4_crash_222 rfl (pk_m1 k) (by decide) ?_
          refine kg_goto cx 114 dX4_crash_225 (by decide) ?_
          refine kg_lo (lo9 := [some (.ref (rd 0)), some (.int (w9 14 0 0 - w9 15 0 0)), none, some (.int (nI k)), none]) (fun j x9 hx => ?_) ?_
          · match j, hx with
            | 0, hx => exact hx
            | 1, hx => exact hx
            | 2, hx => cases hx
            | 3, hx => exact hx
            | 4, hx => cases hx
            | j + 5, hx => cases hx
          · exact ih v y (by omega) (by omega) hy4 hs9 hR hok he
        · refine kg_aload_n cx dX4_crash_136 rfl ?_
          refine kg_get (ci := 4) cx 0 21 kfs_X4 rfl (by decide) rfl rfl kf_X4_59 dX4_crash_137 ?_
          refine kg_aload_n cx dX4_crash_140 rfl ?_
          refine kg_get (ci := 4) cx 0 14 kfs_X4 rfl (by decide) rfl rfl kf_X4_38 dX4_crash_141 ?_
          refine kg_iload_n cx dX4_crash_144 rfl ?_
          refine kg_ialdN (v := (nI (T (k + 1)))) cx 10 0 (k + 1) rfl rfl (rfl) (by omega) (by decide) (by have := ht9.1; rw [← hR _ _ hi] at this; exact this) dX4_crash_145 ?_
          refine kg_zaldN cx 17 1 (T (k + 1)) rfl rfl (rfl) (ht9.2) (by decide) (rfl) dX4_crash_146 ?_
          refine kg_if_eq cx 222 dX4_crash_147 (by decide) (fun h3 => ?_) (fun h3 => ?_)
          · rw [if_neg (fun h => h.2.2.1 h3)] at hok he
            refine kg_iinc (v := nI k) cx dX4_crash_222 rfl (pk_m1 k) (by decide) ?_
            refine kg_goto cx 114 dX4_crash_225 (by decide) ?_
            refine kg_lo (lo9 := [some (.ref (rd 0)), some (.int (w9 14 0 0 - w9 15 0 0)), none, some (.int (nI k)), none]) (fun j x9 hx => ?_) ?_
            · match j, hx with
              | 0, hx => exact hx
              | 1, hx => exact hx
              | 2, hx => cases hx
              | 3, hx => exact hx
              | 4, hx => cases hx
              | j + 5, hx => cases hx
            · exact ih v y (by omega) (by omega) hy4 hs9 hR hok he
          · refine kg_aload_n cx dX4_crash_150 rfl ?_
            refine kg_iload_n cx dX4_crash_151 rfl ?_
            refine kg_callV (ci := 4) (na := 1) cx (r_isLatest l D c rd v (k + 1) y hs9 hy4 (by omega)) 0 rfl rfl kcd_X4_isLatest km_X4_144 kin_X4 kim_X4_isLatest ksl_X4_isLatest (by decide +kernel) rfl (by decide) (by decide) rfl (Nat.le_of_ble_eq_true rfl) dX4_crash_152 (fun _ => kr_adr _ _) (fun v9 u9 h9 => ?_)
            obtain ⟨rfl, h9⟩ := h9
            subst u9
            refine kg_if_eq cx 222 dX4_crash_155 (by decide) (fun h4 => ?_) (fun h4 => ?_)
            · rw [if_neg (fun h => h.2.2.2 h4)] at hok he
              refine kg_iinc (v := nI k) cx dX4_crash_222 rfl (pk_m1 k) (by decide) ?_
              refine kg_goto cx 114 dX4_crash_225 (by decide) ?_
              refine kg_lo (lo9 := [some (.ref (rd 0)), some (.int (w9 14 0 0 - w9 15 0 0)), none, some (.int (nI k)), none]) (fun j x9 hx => ?_) ?_
              · match j, hx with
                | 0, hx => exact hx
                | 1, hx => exact hx
                | 2, hx => cases hx
                | 3, hx => exact hx
                | 4, hx => cases hx
                | j + 5, hx => cases hx
              · exact ih v y (by omega) (by omega) hy4 hs9 hR hok he
            · have hop : kOpR v (k + 1) (T (k + 1)) y := ⟨h1, h2, h3, h4⟩
              rw [if_pos hop] at hok he
              have hp9 := hP (k + 1) hi (by omega) (by rw [← hR _ _ hi, h1]; decide)
              refine kg_bipush (v := (nI 8)) cx dX4_crash_158 (by decide) ?_
              refine kg_aload_n cx dX4_crash_160 rfl ?_
              refine kg_get (ci := 4) cx 0 15 kfs_X4 rfl (by decide) rfl rfl kf_X4_41 dX4_crash_161 ?_
              refine kg_iload_n cx dX4_crash_164 rfl ?_
              refine kg_ialdN (v := (nI (Pg (k + 1)))) cx 11 0 (k + 1) rfl rfl (rfl) (by omega) (by decide) (by have := hp9.1; rw [← hR _ _ hi] at this; exact this) dX4_crash_165 ?_
              refine kg_imul cx dX4_crash_166 ?_
              refine kg_top (nI (8 * Pg (k + 1))) (pk_mul 8 _) ?_
              refine kg_aload_n cx dX4_crash_167 rfl ?_
              refine kg_get (ci := 4) cx 0 16 kfs_X4 rfl (by decide) rfl rfl kf_X4_44 dX4_crash_168 ?_
              refine kg_iload_n cx dX4_crash_171 rfl ?_
              refine kg_ialdN (v := (nI (Nb (k + 1)))) cx 12 0 (k + 1) rfl rfl (rfl) (by omega) (by decide) (by have := hp9.2.2.1; rw [← hR _ _ hi] at this; exact this) dX4_crash_172 ?_
              refine kg_iadd cx dX4_crash_173 ?_
              refine kg_top (nI (8 * Pg (k + 1) + Nb (k + 1))) (nI_add _ _) ?_
              refine kg_istore cx dX4_crash_174 (by decide) ?_
              refine kg_aload_n cx dX4_crash_176 rfl ?_
              refine kg_get (ci := 4) cx 0 3 kfs_X4 rfl (by decide) rfl rfl kf_X4_13 dX4_crash_177 ?_
              refine kg_aload_n cx dX4_crash_180 rfl ?_
              refine kg_get (ci := 4) cx 0 15 kfs_X4 rfl (by decide) rfl rfl kf_X4_41 dX4_crash_181 ?_
              refine kg_iload_n cx dX4_crash_184 rfl ?_
              refine kg_ialdN (v := (nI (Pg (k + 1)))) cx 11 0 (k + 1) rfl rfl (rfl) (by omega) (by decide) (by have := hp9.1; rw [← hR _ _ hi] at this; exact this) dX4_crash_185 ?_
              refine kg_aload_n cx dX4_crash_186 rfl ?_
              refine kg_iload_n cx dX4_crash_187 rfl ?_
              refine kg_aload_n cx dX4_crash_188 rfl ?_
              refine kg_get (ci := 4) cx 0 2 kfs_X4 rfl (by decide) rfl rfl kf_X4_7 dX4_crash_189 ?_
              refine kg_iload cx dX4_crash_192 rfl ?_
              refine kg_ialdN (v := (v 0 (Pg (k + 1)) (Nb (k + 1)))) cx 1 0 (8 * Pg (k + 1) + Nb (k + 1)) rfl rfl (rfl) (by have := hp9.2.1; have := hp9.2.2.2; omega) (by decide) (by have := hp9.2.2.2; show v 0 ((8 * Pg (k + 1) + Nb (k + 1)) / 8) ((8 * Pg (k + 1) + Nb (k + 1)) % 8) = _; rw [show (8 * Pg (k + 1) + Nb (k + 1)) / 8 = Pg (k + 1) by omega, show (8 * Pg (k + 1) + Nb (k + 1)) % 8 = Nb (k + 1) by omega]) dX4_crash_194 ?_
              refine kg_callV (ci := 4) (na := 2) cx (r_tellUndo l D c rd v (k + 1) (v 0 (Pg (k + 1)) (Nb (k + 1))) y hs9 hok.1 (by omega)) 0 rfl rfl kcd_X4_tellUndo km_X4_129 kin_X4 kim_X4_tellUndo ksl_X4_tellUndo (by decide +kernel) rfl (by decide) (by decide) rfl (Nat.le_of_ble_eq_true rfl) dX4_crash_195 (fun _ => kr_adr _ _) (fun v9 u9 h9 => ?_)
              obtain ⟨rfl, h9⟩ := h9
              subst u9
              refine kg_iastN cx 2 0 (Pg (k + 1)) rfl rfl (rfl) (hp9.2.1) (by decide) (kq_diskLsn (Pg (k + 1)) _) dX4_crash_198 ?_
              refine kg_aload_n cx dX4_crash_199 rfl ?_
              refine kg_get (ci := 4) cx 0 2 kfs_X4 rfl (by decide) rfl rfl kf_X4_7 dX4_crash_200 ?_
              refine kg_iload cx dX4_crash_203 rfl ?_
              refine kg_aload_n cx dX4_crash_205 rfl ?_
              refine kg_get (ci := 4) cx 0 17 kfs_X4 rfl (by decide) rfl rfl kf_X4_47 dX4_crash_206 ?_
              refine kg_iload_n cx dX4_crash_209 rfl ?_
              refine kg_ialdN (v := (v 9 (k + 1) 4)) cx 13 0 (k + 1) rfl rfl (rfl) (by omega) (by decide) (by simp [kTell, kRec, kApp, ku, show k ≠ y by omega]) dX4_crash_210 ?_
              refine kg_iastN cx 1 0 (8 * Pg (k + 1) + Nb (k + 1)) rfl rfl (rfl) (by have := hp9.2.1; have := hp9.2.2.2; omega) (by decide) (kq_disk (Pg (k + 1)) (Nb (k + 1)) hp9.2.2.2 _) dX4_crash_211 ?_
              refine kg_aload_n cx dX4_crash_212 rfl ?_
              refine kg_dup cx dX4_crash_213 rfl ?_
              refine kg_get (ci := 4) cx 0 26 kfs_X4 rfl (by decide) rfl rfl kf_X4_138 dX4_crash_214 ?_
              refine kg_top (v 19 0 0) (by simp [kTell, kRec, kApp, ku]) ?_
              refine kg_iconst (v := 1) cx dX4_crash_217 (by decide) ?_
              refine kg_iadd cx dX4_crash_218 ?_
              refine kg_put (ci := 4) (ty := .int) cx 0 26 kfs_X4 tyX4 tyX4_ok nmX4 rfl (by decide) rfl (Nat.le_of_ble_eq_true rfl) kf_X4_138 rfl (by decide +kernel) rfl rfl (kq_undone _) dX4_crash_219 ?_
              refine kg_iinc (v := nI k) cx dX4_crash_222 rfl (pk_m1 k) (by decide) ?_
              refine kg_goto cx 114 dX4_crash_225 (by decide) ?_
              refine kg_lo (lo9 := [some (.ref (rd 0)), some (.int (w9 14 0 0 - w9 15 0 0)), none, some (.int (nI k)), none]) (fun j x9 hx => ?_) ?_
              · match j, hx with
                | 0, hx => exact hx
                | 1, hx => exact hx
                | 2, hx => cases hx
                | 3, hx => exact hx
                | 4, hx => cases hx
                | j + 5, hx => cases hx
              · exact ih (kUnR1 v (k + 1) (Pg (k + 1)) (Nb (k + 1)) y) (y + 1) (by omega) (by omega) (by omega) kUnR1_14 (fun a b ha => (kUnR1_9 (by omega)).trans (hR a b ha)) hok.2 he
  have act : ∀ (k i : Nat), 8 - i = k → i ≤ 8 → kgR p l e 2 45 s m args below meth c9 5 D c rd u (fun v u9 => v = some (.int (w9 14 0 0 - w9 15 0 0)) ∧ u9 = kCrashR w9 fl z T Pg Nb) (kAct (ku (kCR1 w9 fl z Pg Nb) 19 0 0 0) fl i) 89 [some (.ref (rd 0)), some (.int (w9 14 0 0 - w9 15 0 0)), some (.int (nI fl)), some (.int (nI i)), none] [] := by
    intro k
    induction k with
    | zero =>
      intro i hk hi
      have e8 : i = 8 := by omega
      subst i
      refine kg_iload_n cx dX4_crash_89 rfl ?_
      refine kg_bipush (v := (nI 8)) cx dX4_crash_90 (by decide) ?_
      refine kg_icmp_ge cx 112 dX4_crash_92 (by decide) (fun h1 => ?_) (fun h1 => ?_)
      · refine kg_iload_n cx dX4_crash_112 rfl ?_
        refine kg_istore_n cx dX4_crash_113 (by decide) ?_
        refine kg_lo (lo9 := [some (.ref (rd 0)), some (.int (w9 14 0 0 - w9 15 0 0)), none, some (.int (nI fl)), none]) (fun j x9 hx => ?_) ?_
        · match j, hx with
          | 0, hx => exact hx
          | 1, hx => exact hx
          | 2, hx => cases hx
          | 3, hx => exact hx
          | 4, hx => cases hx
          | j + 5, hx => cases hx
        · exact undo fl _ fl (Nat.le_refl _) (Nat.le_refl _) (by omega) kCR2_14 (fun a b _ => kCR2_9) hOk1 rfl
      · exact absurd (Int32.le_refl _) h1
    | succ k ih =>
      intro i hk hi
      have hin : i < 8 := by omega
      refine kg_iload_n cx dX4_crash_89 rfl ?_
      refine kg_bipush (v := (nI 8)) cx dX4_crash_90 (by decide) ?_
      refine kg_icmp_ge cx 112 dX4_crash_92 (by decide) (fun h1 => ?_) (fun h1 => ?_)
      · exact absurd h1 (nI_ge hin (by omega))
      · refine kg_aload_n cx dX4_crash_95 rfl ?_
        refine kg_get (ci := 4) cx 0 21 kfs_X4 rfl (by decide) rfl rfl kf_X4_59 dX4_crash_96 ?_
        refine kg_iload_n cx dX4_crash_99 rfl ?_
        refine kg_aload_n cx dX4_crash_100 rfl ?_
        refine kg_iload_n cx dX4_crash_101 rfl ?_
        refine kg_callV (ci := 4) (na := 1) cx (r_isOpen l D c rd (kAct (ku (kCR1 w9 fl z Pg Nb) 19 0 0 0) fl i) (nI i) fl ((kAct_F (by decide) i).trans ((ku_F (by decide)).trans kCR1_14)) (by omega)) 0 rfl rfl kcd_X4_isOpen km_X4_141 kin_X4 kim_X4_isOpen ksl_X4_isOpen (by decide +kernel) rfl (by decide) (by decide) rfl (Nat.le_of_ble_eq_true rfl) dX4_crash_102 (fun _ => kr_adr _ _) (fun v9 u9 h9 => ?_)
        obtain ⟨rfl, h9⟩ := h9
        subst u9
        refine kg_zastN cx 17 1 i rfl rfl (rfl) (hin) (by decide) (by rcases kIso_01 (kAct (ku (kCR1 w9 fl z Pg Nb) 19 0 0 0) fl i) (nI i) fl with h | h <;> rw [h] <;> decide) (kq_isActive i _) dX4_crash_105 ?_
        refine kg_iinc (v := nI (i + 1)) cx dX4_crash_106 rfl (nI_1 i) (by decide) ?_
        refine kg_goto cx 89 dX4_crash_109 (by decide) ?_
        exact ih (i + 1) (by omega) (by omega)
  have clr : ∀ (k i : Nat), 8 - i = k → i ≤ 8 → kgR p l e 2 45 s m args below meth c9 5 D c rd u (fun v u9 => v = some (.int (w9 14 0 0 - w9 15 0 0)) ∧ u9 = kCrashR w9 fl z T Pg Nb) (kClR (ku (kLose w9 fl (z - fl)) 14 0 0 (nI fl)) i) 21 [some (.ref (rd 0)), some (.int (w9 14 0 0 - w9 15 0 0)), some (.int (nI i)), none, none] [] := by
    intro k
    induction k with
    | zero =>
      intro i hk hi
      have e8 : i = 8 := by omega
      subst i
      refine kg_iload_n cx dX4_crash_21 rfl ?_
      refine kg_bipush (v := (nI 8)) cx dX4_crash_22 (by decide) ?_
      refine kg_icmp_ge cx 68 dX4_crash_24 (by decide) (fun h1 => ?_) (fun h1 => ?_)
      · have hP8 : ∀ i, i ≤ fl → 1 ≤ i → ku (kClR (ku (kLose w9 fl (z - fl)) 14 0 0 (nI fl)) 8) 6 0 0 0 9 i 0 < nI 2 → ku (kClR (ku (kLose w9 fl (z - fl)) 14 0 0 (nI fl)) 8) 6 0 0 0 9 i 2 = nI (Pg i) ∧ Pg i < 32 ∧ ku (kClR (ku (kLose w9 fl (z - fl)) 14 0 0 (nI fl)) 8) 6 0 0 0 9 i 3 = nI (Nb i) ∧ Nb i < 8 := by
          have e : ∀ a b, ku (kClR (ku (kLose w9 fl (z - fl)) 14 0 0 (nI fl)) 8) 6 0 0 0 9 a b = w9 9 a b := fun a b => by rw [ku_F (by decide), kClR_F (by omega), ku_F (by decide), kLose_F (by decide)]
          intro i a b d
          rw [e] at d
          rw [e, e]
          exact hP i a b d
        refine kg_aload_n cx dX4_crash_68 rfl ?_
        refine kg_iconst (v := 0) cx dX4_crash_69 (by decide) ?_
        refine kg_put (ci := 4) (ty := .int) cx 0 10 kfs_X4 tyX4 tyX4_ok nmX4 rfl (by decide) rfl (Nat.le_of_ble_eq_true rfl) kf_X4_82 rfl (by decide +kernel) rfl rfl (kq_hand _) dX4_crash_70 ?_
        refine kg_aload_n cx dX4_crash_73 rfl ?_
        refine kg_callV (ci := 4) (na := 0) cx (r_redo l D c rd (ku (kClR (ku (kLose w9 fl (z - fl)) 14 0 0 (nI fl)) 8) 6 0 0 0) fl (by rw [ku_F (by decide), kClR_F (by omega), ku_s]) (by omega) Pg Nb hP8) 0 rfl rfl kcd_X4_redo km_X4_135 kin_X4 kim_X4_redo ksl_X4_redo (by decide +kernel) rfl (by decide) (by decide) rfl (Nat.le_of_ble_eq_true rfl) dX4_crash_74 (fun _ => kr_adr _ _) (fun v9 u9 h9 => ?_)
        obtain ⟨rfl, h9⟩ := h9
        subst u9
        refine kg_aload_n cx dX4_crash_77 rfl ?_
        refine kg_iconst (v := 0) cx dX4_crash_78 (by decide) ?_
        refine kg_put (ci := 4) (ty := .int) cx 0 26 kfs_X4 tyX4 tyX4_ok nmX4 rfl (by decide) rfl (Nat.le_of_ble_eq_true rfl) kf_X4_138 rfl (by decide +kernel) rfl rfl (kq_undone _) dX4_crash_79 ?_
        refine kg_aload_n cx dX4_crash_82 rfl ?_
        refine kg_get (ci := 4) cx 0 11 kfs_X4 rfl (by decide) rfl rfl kf_X4_113 dX4_crash_83 ?_
        refine kg_top (nI fl) ((ku_F (by decide)).trans kCR1_14) ?_
        refine kg_istore_n cx dX4_crash_86 (by decide) ?_
        refine kg_iconst (v := 0) cx dX4_crash_87 (by decide) ?_
        refine kg_istore_n cx dX4_crash_88 (by decide) ?_
        exact act 8 0 rfl (by decide)
      · exact absurd (Int32.le_refl _) h1
    | succ k ih =>
      intro i hk hi
      have hin : i < 8 := by omega
      refine kg_iload_n cx dX4_crash_21 rfl ?_
      refine kg_bipush (v := (nI 8)) cx dX4_crash_22 (by decide) ?_
      refine kg_icmp_ge cx 68 dX4_crash_24 (by decide) (fun h1 => ?_) (fun h1 => ?_)
      · exact absurd h1 (nI_ge hin (by omega))
      · refine kg_aload_n cx dX4_crash_27 rfl ?_
        refine kg_get (ci := 4) cx 0 4 kfs_X4 rfl (by decide) rfl rfl kf_X4_16 dX4_crash_28 ?_
        refine kg_iload_n cx dX4_crash_31 rfl ?_
        refine kg_iconst (v := (-1)) cx dX4_crash_32 (by decide) ?_
        refine kg_iastN cx 3 0 i rfl rfl (rfl) (hin) (by decide) (kq_held i _) dX4_crash_33 ?_
        refine kg_aload_n cx dX4_crash_34 rfl ?_
        refine kg_get (ci := 4) cx 0 7 kfs_X4 rfl (by decide) rfl rfl kf_X4_25 dX4_crash_35 ?_
        refine kg_iload_n cx dX4_crash_38 rfl ?_
        refine kg_iconst (v := 0) cx dX4_crash_39 (by decide) ?_
        refine kg_iastN cx 6 0 i rfl rfl (rfl) (hin) (by decide) (kq_pins i _) dX4_crash_40 ?_
        refine kg_aload_n cx dX4_crash_41 rfl ?_
        refine kg_get (ci := 4) cx 0 8 kfs_X4 rfl (by decide) rfl rfl kf_X4_28 dX4_crash_42 ?_
        refine kg_iload_n cx dX4_crash_45 rfl ?_
        refine kg_iconst (v := 0) cx dX4_crash_46 (by decide) ?_
        refine kg_zastN cx 7 1 i rfl rfl (rfl) (hin) (by decide) (by decide) (kq_isDirty i _) dX4_crash_47 ?_
        refine kg_aload_n cx dX4_crash_48 rfl ?_
        refine kg_get (ci := 4) cx 0 9 kfs_X4 rfl (by decide) rfl rfl kf_X4_32 dX4_crash_49 ?_
        refine kg_iload_n cx dX4_crash_52 rfl ?_
        refine kg_iconst (v := 0) cx dX4_crash_53 (by decide) ?_
        refine kg_zastN cx 8 1 i rfl rfl (rfl) (hin) (by decide) (by decide) (kq_isMarked i _) dX4_crash_54 ?_
        refine kg_aload_n cx dX4_crash_55 rfl ?_
        refine kg_get (ci := 4) cx 0 6 kfs_X4 rfl (by decide) rfl rfl kf_X4_22 dX4_crash_56 ?_
        refine kg_iload_n cx dX4_crash_59 rfl ?_
        refine kg_iconst (v := 0) cx dX4_crash_60 (by decide) ?_
        refine kg_iastN cx 5 0 i rfl rfl (rfl) (hin) (by decide) (kq_frameLsn i _) dX4_crash_61 ?_
        refine kg_iinc (v := nI (i + 1)) cx dX4_crash_62 rfl (nI_1 i) (by decide) ?_
        refine kg_goto cx 21 dX4_crash_65 (by decide) ?_
        exact ih (i + 1) (by omega) (by omega)
  refine kg_aload_n cx dX4_crash_5 rfl ?_
  refine kg_get (ci := 4) cx 0 11 kfs_X4 rfl (by decide) rfl rfl kf_X4_113 dX4_crash_6 ?_
  refine kg_aload_n cx dX4_crash_9 rfl ?_
  refine kg_get (ci := 4) cx 0 12 kfs_X4 rfl (by decide) rfl rfl kf_X4_72 dX4_crash_10 ?_
  refine kg_isub cx dX4_crash_13 ?_
  refine kg_istore_n cx dX4_crash_14 (by decide) ?_
  refine kg_aload_n cx dX4_crash_15 rfl ?_
  refine kg_callV (ci := 4) (na := 0) cx (r_loseRecords l D c rd w9 fl z hs hz hf hfz hW) 0 rfl rfl kcd_X4_loseRecords km_X4_132 kin_X4 kim_X4_loseRecords ksl_X4_loseRecords (by decide +kernel) rfl (by decide) (by decide) rfl (Nat.le_of_ble_eq_true rfl) dX4_crash_16 (fun _ => kr_adr _ _) (fun v9 u9 h9 => ?_)
  obtain ⟨rfl, h9⟩ := h9
  subst u9
  refine kg_iconst (v := 0) cx dX4_crash_19 (by decide) ?_
  refine kg_istore_n cx dX4_crash_20 (by decide) ?_
  exact clr 8 0 rfl (by decide)
