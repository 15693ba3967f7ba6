/-- a frame's two cells, empty -/
def kfp (c : Nat → ClassId) (x : Nat × Nat) : va_W := [(x.1, .inr (0, [.ref x.2, .int (-1), .int 0, .int 0, .int 0])), (x.2, .inl (c 0, 9, .inl (fun _ => 0)))]
/-- Pool's cells: its object, the two arrays, the disk's rows, the frames -/
def kpw (c : Nat → ClassId) (n a q q2 : Nat) (r : Nat → Nat) (ps : List (Nat × Nat)) : va_W :=
  (a, .inr (2, [.ref q, .ref q2, .int 0, .int 0, .int 0])) :: (q, .inl (c 3, 32, .inr (.inr (.inr (.inr (fun i => if i < 32 then some (r i) else none)))))) :: (q2, .inl (c 2, n, .inr (.inr (.inr (.inr (fun i => (ps[i]?).map Prod.fst)))))) :: ((List.range 32).map (fun i => (r i, .inl (c 0, 9, .inl (fun _ => 0)))) ++ ps.flatMap (kfp c))
theorem kpw_len {c : Nat → ClassId} {n a q q2 : Nat} {r : Nat → Nat} {ps : List (Nat × Nat)} : (kpw c n a q q2 r ps).length = 35 + 2 * ps.length := by
  unfold kpw
  have : (ps.flatMap (kfp c)).length = 2 * ps.length := by
    induction ps with
    | nil => rfl
    | cons x t ih =>
      rw [List.flatMap_cons, List.length_append, ih]
      show 2 + _ = 2 * (t.length + 1)
      omega
  rw [List.length_cons, List.length_cons, List.length_cons, List.length_append, List.length_map, List.length_range, this]
  omega
theorem k_end {α : Type} {w : List α} {x : α} {t : List α} {n : Nat} (h : w.length = n) : (w ++ x :: t)[n]? = some x := by
  rw [List.getElem?_append_right (by omega), show n - w.length = 0 by omega]
  rfl
set_option maxHeartbeats 4000000 in
set_option maxRecDepth 100000 in
theorem i_X2 (l : Launch) (D : va_G) (c : Nat → ClassId) (a n : Nat) (hn1 : 1 ≤ n) (hn8 : n ≤ 8) : ki l yX2_init (Cond.code yX2_init cX2_init 3 none) 2 35 50 440 D (kty c) [(a, .inr (2, [.null, .null, .int 0, .int 0, .int 0]))] [.ref a, .int (nI n)] (fun q : Nat × Nat × (Nat → Nat) × List (Nat × Nat) => kpw c n a q.1 q.2.1 q.2.2.1 q.2.2.2) (fun q => q.2.2.2.length = n) := by
  refine ki.mk (by decide) rfl (by simp [Value.category]) (Nat.le_of_ble_eq_true rfl) ?_
  intro p e s m args below meth c9 cx hr hin hO
  refine kg_aload_n cx dX2_init_0 rfl ?_
  refine kg_objI cx km_X2_3 ⟨Nat.le_of_ble_eq_true rfl, Nat.le_of_ble_eq_true rfl⟩ dX2_init_1 ?_
  refine kg_aload_n cx dX2_init_4 rfl ?_
  refine kg_bipush (v := (nI 32)) cx dX2_init_5 (by decide) ?_
  refine kg_bipush (v := (nI 9)) cx dX2_init_7 (by decide) ?_
  refine kg_mna (N' := 32) (K' := 9) cx 3 0 rfl rfl kcl_X2_9 hO.2 kac_int (by decide) (by decide) (by decide) (by decide) (by decide) (by decide) (by decide) ⟨by decide, by decide⟩ dX2_init_9 (fun q r => ?_)
  refine kg_putF (ci := 2) (ty := (.array (.array .int))) cx 0 0 kfs_X2 tyX2 tyX2_ok nmX2 rfl (by decide) rfl (Nat.le_of_ble_eq_true rfl) kf_X2_11 rfl hin rfl (by decide +kernel) rfl rfl rfl dX2_init_13 ?_
  refine kg_aload_n cx dX2_init_16 rfl ?_
  refine kg_iload_n cx dX2_init_17 rfl ?_
  refine kg_newq (N' := n) cx 2 rfl kcl_X2_16 hO.1 (nI_pos (by omega)) (nI_clamp (by omega)) (by omega) ⟨(by decide), (by show 0 + 32 + 32 * 9 + n ≤ 440; omega)⟩ dX2_init_18 (fun q2 => ?_)
  refine kg_perm (ws9 := (a, .inr (2, [.ref q, .null, .int 0, .int 0, .int 0])) :: (q, .inl (c 3, 32, .inr (.inr (.inr (.inr (fun i => if i < 32 then some (r i) else none)))))) :: (q2, .inl (c 2, n, .inr (.inr (.inr (.inr (fun _ => none)))))) :: ((List.range 32).map (fun i => (r i, .inl (c 0, 9, .inl (fun _ => 0)))))) (List.Perm.cons _ (List.Perm.cons _ List.perm_append_comm)) ?_
  refine kg_putF (ci := 2) (ty := (.array (.object "ClockPool$Frame"))) cx 0 1 kfs_X2 tyX2 tyX2_ok nmX2 rfl (by decide) rfl (Nat.le_of_ble_eq_true rfl) kf_X2_18 rfl hin rfl (by decide +kernel) rfl rfl rfl dX2_init_21 ?_
  refine kg_iconst (v := 0) cx dX2_init_24 (by decide) ?_
  refine kg_istore_n cx dX2_init_25 (by decide) ?_
  refine kg_eq (ws9 := kpw c n a q q2 r []) (by unfold kpw; rw [List.flatMap_nil, List.append_nil]; rfl) rfl rfl rfl ?_
  have loop : ∀ (k : Nat) (ps : List (Nat × Nat)), ps.length + k = n → kg p l e (kx_rm 2 35 50 440) s m args below meth c9 3 D (va_A [(a, .inr (2, [.null, .null, .int 0, .int 0, .int 0]))] s.heap.size) (MQ below (ki_Q (fun q : Nat × Nat × (Nat → Nat) × List (Nat × Nat) => kpw c n a q.1 q.2.1 q.2.2.1 q.2.2.2) D (fun q => q.2.2.2.length = n) (va_A [(a, .inr (2, [.null, .null, .int 0, .int 0, .int 0]))] s.heap.size)) args s 50 440 (va_A [(a, .inr (2, [.null, .null, .int 0, .int 0, .int 0]))] s.heap.size)) (34 + 2 * ps.length) (320 + n + 14 * ps.length) (kpw c n a q q2 r ps) 26 [some (.ref a), some (.int (nI n)), some (.int (nI ps.length))] [] := by
    intro k
    induction k with
    | zero =>
      intro ps hk
      refine kg_iload_n cx dX2_init_26 rfl ?_
      refine kg_iload_n cx dX2_init_27 rfl ?_
      refine kg_icmp_ge cx 50 dX2_init_28 (by decide) (fun _ => ?_) (fun h9 => absurd (nI_le (show n ≤ ps.length by omega) (by omega)) h9)
      exact ki_return cx hr (q, q2, r, ps) rfl (by show ps.length = n; omega) ⟨by omega, by omega⟩ dX2_init_50
    | succ k ih =>
      intro ps hk
      have hlt : ps.length < n := by omega
      refine kg_iload_n cx dX2_init_26 rfl ?_
      refine kg_iload_n cx dX2_init_27 rfl ?_
      refine kg_icmp_ge cx 50 dX2_init_28 (by decide) (fun h9 => absurd h9 (nI_ge hlt (by omega))) (fun _ => ?_)
      refine kg_aload_n cx dX2_init_31 rfl ?_
      refine kg_get (ci := 2) cx 0 1 kfs_X2 rfl (by decide) rfl rfl kf_X2_18 dX2_init_32 ?_
      refine kg_iload_n cx dX2_init_35 rfl ?_
      refine kg_newo (ci := 0) cx kfs_X0 tyX0 tyX0_ok kcl_X2_16 kis_X0 kin_X0 rfl [.null, .int 0, .int 0, .int 0, .int 0] (by decide) ⟨(by show 34 + 2 * ps.length + 1 ≤ 50; omega), (by show 320 + n + 14 * ps.length + 5 ≤ 440; omega)⟩ dX2_init_36 (fun qf => ?_)
      refine kg_dup cx dX2_init_39 rfl ?_
      refine ki_callN (na := 0) cx hO (i_X0 l D c qf) rfl kcd_X0_init (kmn_X2_22 cx.2.2.2.2.2.2.2.2) kin_X0 kim_X0_init rfl (by decide +kernel) rfl ⟨by decide, by decide⟩ ⟨(by show 34 + 2 * ps.length + 1 + 1 ≤ 50; omega), (by show 320 + n + 14 * ps.length + 5 + 9 ≤ 440; omega)⟩ rfl (Nat.le_of_ble_eq_true rfl) dX2_init_40 (fun qr _ => ?_)
      have hup : va_up (fun i => (ps[i]?).map Prod.fst) ps.length (some qf) = fun i => ((ps ++ [(qf, qr)])[i]?).map Prod.fst := by
        funext i
        unfold va_up
        by_cases e : i = ps.length
        · subst e
          rw [if_pos rfl, k_end rfl]
          rfl
        · rw [if_neg e]
          dsimp only
          rcases Nat.lt_or_ge i ps.length with h | h
          · rw [List.getElem?_append_left h]
          · rw [List.getElem?_eq_none h, List.getElem?_eq_none (by rw [List.length_append]; show ps.length + 1 ≤ i; omega)]
      refine kg_astq (r := (RX0, TX0, 5)) cx 2 2 (35 + 2 * ps.length) 0 (ws9 := kpw c n a q q2 r (ps ++ [(qf, qr)])) rfl rfl (k_end kpw_len) rfl (vp_in_nI hlt (by omega)) ?_ dX2_init_43 ?_
      · rw [nI_clamp (by omega), hup]
        unfold kpw
        rw [List.flatMap_append]
        show _ :: _ :: _ :: ((_ ++ _) ++ [_, _]) = _ :: _ :: _ :: (_ ++ (_ ++ _))
        rw [List.append_assoc]
        rfl
      refine kg_iinc (v := nI (ps.length + 1)) cx dX2_init_44 rfl (nI_1 _) (by decide) ?_
      refine kg_goto cx 26 dX2_init_47 (by decide) ?_
      have h9 := ih (ps ++ [(qf, qr)]) (by rw [List.length_append]; show ps.length + 1 + k = n; omega)
      rw [List.length_append, show ps.length + [(qf, qr)].length = ps.length + 1 from rfl] at h9
      exact kg_widen (by omega) (by omega) h9
  exact kg_widen (by decide) (by show 0 + 32 + 32 * 9 + n ≤ 320 + n + 14 * 0; omega) (loop n [] (by show 0 + n = n; omega))
/-- how many frames: 1 to 8 -/
def kNf (k : Int32) : Nat := if k < 1 then 1 else if nI 8 < k then 8 else kNat k
theorem kNf_lo {k : Int32} (h : k < 1) : kNf k = 1 := if_pos h
theorem kNf_hi {k : Int32} (h : ¬ k < 1) (h2 : nI 8 < k) : kNf k = 8 := by unfold kNf; rw [if_neg h, if_pos h2]
theorem kNf_ix {k : Int32} (h : ¬ k < 1) (h2 : ¬ nI 8 < k) : ∃ j, 1 ≤ j ∧ j ≤ 8 ∧ k = nI j := by
  have hk0 : ¬ k < 0 := fun q => h (Int32.lt_trans q (by decide))
  obtain ⟨j, hj, rfl⟩ := nI_of hk0
  refine ⟨j, ?_, ?_, rfl⟩
  · have := (not_congr (nI_ltI (b := 1) hj (by decide))).mp h
    omega
  · have := (not_congr (nI_ltI (a := 8) (by decide) hj)).mp h2
    omega
theorem kNf_mid {k : Int32} (h : ¬ k < 1) (h2 : ¬ nI 8 < k) : nI (kNf k) = k := by
  obtain ⟨j, h3, h4, rfl⟩ := kNf_ix h h2
  unfold kNf
  rw [if_neg h, if_neg h2, kNat_n (by omega)]
theorem kNf_in (k : Int32) : 1 ≤ kNf k ∧ kNf k ≤ 8 := by
  by_cases h : k < 1
  · rw [kNf_lo h]; omega
  · by_cases h2 : nI 8 < k
    · rw [kNf_hi h h2]; omega
    · obtain ⟨j, h3, h4, rfl⟩ := kNf_ix h h2
      unfold kNf
      rw [if_neg h, if_neg h2, kNat_n (by omega)]
      omega
theorem kNf_c (k : Int32) : (if 1 < (if k < nI 8 then k else nI 8) then (if k < nI 8 then k else nI 8) else 1) = nI (kNf k) := by
  by_cases h : k < 1
  · rw [kNf_lo h, if_pos (Int32.lt_trans h (by decide)), if_neg (fun q => Int32.lt_irrefl (Int32.lt_trans h q))]
    rfl
  · by_cases h2 : nI 8 < k
    · rw [kNf_hi h h2, if_neg (fun q => Int32.lt_irrefl (Int32.lt_trans h2 q)), if_pos (by decide)]
    · rw [kNf_mid h h2]
      obtain ⟨j, h3, h4, rfl⟩ := kNf_ix h h2
      by_cases e8 : j = 8
      · subst e8; decide
      · rw [if_pos (nI_lt (show j < 8 by omega) (by decide))]
        by_cases e1 : j = 1
        · subst e1; decide
        · have h9 : (1 : Int32) < nI j := nI_lt (a := 1) (show 1 < j by omega) (by omega)
          rw [if_pos h9]
/-- what a new system holds -/
def kU0 : kS := fun F _ j => if F = 1 ∧ j = 0 then -1 else 0
theorem k_pl {c : Nat → ClassId} : ∀ ps : List (Nat × Nat), (ps.flatMap (kfp c)).Perm (ps.map (fun x => ((x.1, .inr (0, [.ref x.2, .int (-1), .int 0, .int 0, .int 0])) : Nat × va_E)) ++ ps.map (fun x => ((x.2, .inl (c 0, 9, .inl (fun _ => 0))) : Nat × va_E)))
  | [] => List.Perm.refl _
  | x :: t => by
    rw [List.flatMap_cons, List.map_cons, List.map_cons, List.cons_append]
    refine List.Perm.cons _ ?_
    exact (List.Perm.cons _ (k_pl t)).trans List.perm_middle.symm
theorem k_mapr {α : Type} {f : Nat × Nat → α} {ps : List (Nat × Nat)} {n : Nat} (h : ps.length = n) : ps.map f = (List.range n).map (fun i => f (ps.getD i (0, 0))) := by
  apply List.ext_getElem
  · rw [List.length_map, List.length_map, List.length_range, h]
  · intro i h1 h2
    rw [List.length_map] at h1
    rw [List.getElem_map, List.getElem_map, List.getElem_range, List.getD_eq_getElem?_getD, List.getElem?_eq_getElem h1]
    rfl
set_option maxHeartbeats 4000000 in
set_option maxRecDepth 100000 in
theorem i_X3 (l : Launch) (D : va_G) (c : Nat → ClassId) (a : Nat) (k : Int32) : ki l yX3_init (Cond.code yX3_init cX3_init 2 none) 3 57 59 3700 D (kty c) [(a, .inr (3, [.null, .null, .null, .null, .int 0, .int 0]))] [.ref a, .int k] (fun ad : Nat → Nat → Nat => kw ad c (kNf k) kU0) (fun ad => ad 0 0 = a) := by
  refine ki.mk (by decide) rfl (by simp [Value.category]) (Nat.le_of_ble_eq_true rfl) ?_
  intro p e s m args below meth c9 cx hr hin hO
  refine kg_aload_n cx dX3_init_0 rfl ?_
  refine kg_objI cx km_X3_3 ⟨Nat.le_of_ble_eq_true rfl, Nat.le_of_ble_eq_true rfl⟩ dX3_init_1 ?_
  refine kg_aload_n cx dX3_init_4 rfl ?_
  refine kg_newo (ci := 2) cx kfs_X2 tyX2 tyX2_ok kcl_X3_9 kis_X2 kin_X2 rfl [.null, .null, .int 0, .int 0, .int 0] (by decide) ⟨by decide, by decide⟩ dX3_init_5 (fun qp => ?_)
  refine kg_dup cx dX3_init_8 rfl ?_
  refine kg_iconst (v := 1) cx dX3_init_9 (by decide) ?_
  refine kg_bipush (v := (nI 8)) cx dX3_init_10 (by decide) ?_
  refine kg_iload_n cx dX3_init_12 rfl ?_
  refine kg_mmin cx km_X3_11 ⟨Nat.le_of_ble_eq_true rfl, Nat.le_of_ble_eq_true rfl⟩ (by decide) dX3_init_13 ?_
  refine kg_mmax cx km_X3_17 ⟨Nat.le_of_ble_eq_true rfl, Nat.le_of_ble_eq_true rfl⟩ (by decide) dX3_init_16 ?_
  refine kg_top (nI (kNf k)) (kNf_c k) ?_
  refine ki_callN (na := 1) (pre := [(a, .inr (3, [.null, .null, .null, .null, .int 0, .int 0]))]) cx hO (i_X2 l D c qp (kNf k) (kNf_in k).1 (kNf_in k).2) rfl kcd_X2_init (kmn_X3_20 cx.2.2.2.2.2.2.2.2) kin_X2 kim_X2_init rfl (by decide +kernel) rfl ⟨by decide, by decide⟩ ⟨by decide, by decide⟩ rfl (Nat.le_of_ble_eq_true rfl) dX3_init_19 (fun z hz => ?_)
  obtain ⟨q, q2, r, ps⟩ := z
  dsimp only at hz ⊢
  generalize hn : kNf k = n at hz ⊢
  refine kg_putF (ci := 3) (ty := (.object "ClockPool$Pool")) cx 0 0 kfs_X3 tyX3 tyX3_ok nmX3 rfl (by decide) rfl (Nat.le_of_ble_eq_true rfl) kf_X3_23 rfl hin rfl (by decide +kernel) rfl rfl (rfl : _ = (a, .inr (3, [.ref qp, .null, .null, .null, .int 0, .int 0])) :: kpw c n qp q q2 r ps) dX3_init_22 ?_
  refine kg_aload_n cx dX3_init_25 rfl ?_
  refine kg_newo (ci := 1) cx kfs_X1 tyX1 tyX1_ok kcl_X3_27 kis_X1 kin_X1 rfl [.null, .null, .null, .null, .null, .int 0, .int 0] (by decide) ⟨by decide, by decide⟩ dX3_init_26 (fun ql => ?_)
  refine kg_dup cx dX3_init_29 rfl ?_
  refine ki_callN (na := 0) cx hO (i_X1 l D c ql) rfl kcd_X1_init (kmn_X3_29 cx.2.2.2.2.2.2.2.2) kin_X1 kim_X1_init rfl (by decide +kernel) rfl ⟨by decide, by decide⟩ ⟨by decide, by decide⟩ rfl (Nat.le_of_ble_eq_true rfl) dX3_init_30 (fun z _ => ?_)
  obtain ⟨r7, r8, r9, r10, r11⟩ := z
  dsimp only
  refine kg_putF (ci := 3) (ty := (.object "ClockPool$Log")) cx 0 1 kfs_X3 tyX3 tyX3_ok nmX3 rfl (by decide) rfl (Nat.le_of_ble_eq_true rfl) kf_X3_30 rfl hin rfl (by decide +kernel) rfl rfl (rfl : _ = (a, .inr (3, [.ref qp, .ref ql, .null, .null, .int 0, .int 0])) :: (kpw c n qp q q2 r ps ++ [(ql, .inr (1, [.ref r7, .ref r8, .ref r9, .ref r10, .ref r11, .int 0, .int 0])), (r7, .inl (c 0, 2807, .inl (fun _ => 0))), (r8, .inl (c 1, 401, .inl (fun _ => 0))), (r9, .inl (c 0, 8, .inl (fun _ => 0))), (r10, .inl (c 0, 8, .inl (fun _ => 0))), (r11, .inl (c 0, 8, .inl (fun _ => 0)))])) dX3_init_33 ?_
  refine kg_aload_n cx dX3_init_36 rfl ?_
  refine kg_bipush (v := (nI 8)) cx dX3_init_37 (by decide) ?_
  refine kg_newa (atype := .boolean) (ty := .boolean) (N' := 8) cx 1 rfl rfl kac_boolean (fun _ h => h) (8, .inl (fun _ => 0)) (fun _ => rfl) (by decide) (by decide) (by decide) ⟨by decide, by decide⟩ dX3_init_39 (fun qa => ?_)
  refine kg_putF (ci := 3) (ty := (.array .boolean)) cx 0 2 kfs_X3 tyX3 tyX3_ok nmX3 rfl (by decide) rfl (Nat.le_of_ble_eq_true rfl) kf_X3_34 rfl hin rfl (by decide +kernel) rfl rfl (rfl : _ = (a, .inr (3, [.ref qp, .ref ql, .ref qa, .null, .int 0, .int 0])) :: ((kpw c n qp q q2 r ps ++ [(ql, .inr (1, [.ref r7, .ref r8, .ref r9, .ref r10, .ref r11, .int 0, .int 0])), (r7, .inl (c 0, 2807, .inl (fun _ => 0))), (r8, .inl (c 1, 401, .inl (fun _ => 0))), (r9, .inl (c 0, 8, .inl (fun _ => 0))), (r10, .inl (c 0, 8, .inl (fun _ => 0))), (r11, .inl (c 0, 8, .inl (fun _ => 0)))]) ++ [(qa, .inl (c 1, 8, .inl (fun _ => 0)))])) dX3_init_41 ?_
  refine kg_aload_n cx dX3_init_44 rfl ?_
  refine kg_bipush (v := (nI 8)) cx dX3_init_45 (by decide) ?_
  refine kg_newa (atype := .boolean) (ty := .boolean) (N' := 8) cx 1 rfl rfl kac_boolean (fun _ h => h) (8, .inl (fun _ => 0)) (fun _ => rfl) (by decide) (by decide) (by decide) ⟨by decide, by decide⟩ dX3_init_47 (fun qb => ?_)
  refine kg_putF (ci := 3) (ty := (.array .boolean)) cx 0 3 kfs_X3 tyX3 tyX3_ok nmX3 rfl (by decide) rfl (Nat.le_of_ble_eq_true rfl) kf_X3_38 rfl hin rfl (by decide +kernel) rfl rfl (rfl : _ = (a, .inr (3, [.ref qp, .ref ql, .ref qa, .ref qb, .int 0, .int 0])) :: (((kpw c n qp q q2 r ps ++ [(ql, .inr (1, [.ref r7, .ref r8, .ref r9, .ref r10, .ref r11, .int 0, .int 0])), (r7, .inl (c 0, 2807, .inl (fun _ => 0))), (r8, .inl (c 1, 401, .inl (fun _ => 0))), (r9, .inl (c 0, 8, .inl (fun _ => 0))), (r10, .inl (c 0, 8, .inl (fun _ => 0))), (r11, .inl (c 0, 8, .inl (fun _ => 0)))]) ++ [(qa, .inl (c 1, 8, .inl (fun _ => 0)))]) ++ [(qb, .inl (c 1, 8, .inl (fun _ => 0)))])) dX3_init_49 ?_
  have had : ∃ ad : Nat → Nat → Nat, ad = (fun j i => if j = 0 then a else if j = 1 then qp else if j = 2 then ql else if j = 3 then q else if j = 4 then q2 else if j = 5 then qa else if j = 6 then qb else if j = 7 then r7 else if j = 8 then r8 else if j = 9 then r9 else if j = 10 then r10 else if j = 11 then r11 else if j = 12 then r i else if j = 13 then (ps.getD i (0, 0)).1 else (ps.getD i (0, 0)).2) := ⟨_, rfl⟩
  obtain ⟨ad, had⟩ := had
  have hfr : (fun i => (ps[i]?).map Prod.fst) = fun i => if i < n then some (ad 13 i) else none := by
    funext i
    rw [had]
    by_cases h : i < n
    · rw [if_pos h, List.getElem?_eq_getElem (by omega)]
      show some _ = some (ps.getD i (0, 0)).1
      rw [List.getD_eq_getElem?_getD, List.getElem?_eq_getElem (by omega)]
      rfl
    · rw [if_neg h, List.getElem?_eq_none (by omega)]
      rfl
  have hk : kw ad c n kU0 = [(a, .inr (3, [.ref qp, .ref ql, .ref qa, .ref qb, .int 0, .int 0])), (qp, .inr (2, [.ref q, .ref q2, .int 0, .int 0, .int 0])), (ql, .inr (1, [.ref r7, .ref r8, .ref r9, .ref r10, .ref r11, .int 0, .int 0])), (q, .inl (c 3, 32, .inr (.inr (.inr (.inr (fun i => if i < 32 then some (r i) else none)))))), (q2, .inl (c 2, n, .inr (.inr (.inr (.inr (fun i => (ps[i]?).map Prod.fst)))))), (qa, .inl (c 1, 8, .inl (fun _ => 0))), (qb, .inl (c 1, 8, .inl (fun _ => 0))), (r7, .inl (c 0, 2807, .inl (fun _ => 0))), (r8, .inl (c 1, 401, .inl (fun _ => 0))), (r9, .inl (c 0, 8, .inl (fun _ => 0))), (r10, .inl (c 0, 8, .inl (fun _ => 0))), (r11, .inl (c 0, 8, .inl (fun _ => 0)))] ++ (((List.range 32).map (fun i => ((r i, .inl (c 0, 9, .inl (fun _ => 0))) : Nat × va_E))) ++ (ps.map (fun x => ((x.1, .inr (0, [.ref x.2, .int (-1), .int 0, .int 0, .int 0])) : Nat × va_E)) ++ ps.map (fun x => ((x.2, .inl (c 0, 9, .inl (fun _ => 0))) : Nat × va_E)))) := by
    rw [k_mapr hz, k_mapr hz, hfr]
    unfold kw
    subst had
    rfl
  refine kg_perm (ws9 := kw ad c n kU0) ?_ ?_
  · rw [hk]
    unfold kpw
    show (_ :: _ :: _ :: _ :: ((((((List.range 32).map (fun i => ((r i, .inl (c 0, 9, .inl (fun _ => 0))) : Nat × va_E))) ++ ps.flatMap (kfp c)) ++ [(ql, .inr (1, [.ref r7, .ref r8, .ref r9, .ref r10, .ref r11, .int 0, .int 0])), (r7, .inl (c 0, 2807, .inl (fun _ => 0))), (r8, .inl (c 1, 401, .inl (fun _ => 0))), (r9, .inl (c 0, 8, .inl (fun _ => 0))), (r10, .inl (c 0, 8, .inl (fun _ => 0))), (r11, .inl (c 0, 8, .inl (fun _ => 0)))]) ++ [(qa, .inl (c 1, 8, .inl (fun _ => 0)))]) ++ [(qb, .inl (c 1, 8, .inl (fun _ => 0)))])).Perm _
    refine List.Perm.trans (l₂ := _ :: _ :: _ :: _ :: (([(ql, .inr (1, [.ref r7, .ref r8, .ref r9, .ref r10, .ref r11, .int 0, .int 0])), (r7, .inl (c 0, 2807, .inl (fun _ => 0))), (r8, .inl (c 1, 401, .inl (fun _ => 0))), (r9, .inl (c 0, 8, .inl (fun _ => 0))), (r10, .inl (c 0, 8, .inl (fun _ => 0))), (r11, .inl (c 0, 8, .inl (fun _ => 0)))] ++ ([(qa, .inl (c 1, 8, .inl (fun _ => 0)))] ++ [(qb, .inl (c 1, 8, .inl (fun _ => 0)))])) ++ (((List.range 32).map (fun i => ((r i, .inl (c 0, 9, .inl (fun _ => 0))) : Nat × va_E))) ++ ps.flatMap (kfp c)))) (List.Perm.cons _ (List.Perm.cons _ (List.Perm.cons _ (List.Perm.cons _ (by rw [List.append_assoc, List.append_assoc]; exact List.perm_append_comm))))) ?_
    refine List.Perm.append (l₁ := [_, _, _, _, _, _, _, _, _, _, _, _]) ?_ (List.Perm.append (List.Perm.refl _) (k_pl ps))
    refine List.Perm.cons _ (List.Perm.cons _ ?_)
    refine List.Perm.trans (List.perm_middle (l₁ := [_, _])) (List.Perm.cons _ (List.Perm.cons _ (List.Perm.cons _ ?_)))
    refine List.Perm.trans (List.perm_middle (l₁ := [_, _, _, _, _])) (List.Perm.cons _ ?_)
    exact List.perm_middle (l₁ := [_, _, _, _, _])
  exact ki_return cx hr ad rfl (by rw [had]; rfl) ⟨by decide, by decide⟩ dX3_init_52
