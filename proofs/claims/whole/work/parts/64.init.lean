set_option maxHeartbeats 4000000 in
set_option maxRecDepth 100000 in
theorem i_X0 (l : Launch) (D : va_G) (c : Nat → ClassId) (a : Nat) : ki l yX0_init (Cond.code yX0_init cX0_init 1 none) 1 12 1 9 D (kty c) [(a, .inr (0, [.null, .int 0, .int 0, .int 0, .int 0]))] [.ref a] (fun q : Nat => [(a, .inr (0, [.ref q, .int (-1), .int 0, .int 0, .int 0])), (q, .inl (c 0, 9, .inl (fun _ => 0)))]) (fun _ => True) := by
  refine ki.mk (by decide) rfl (by simp [Value.category]) (Nat.le_of_ble_eq_true rfl) ?_
  intro p e s m args below meth c9 cx hr hin hO
  refine kg_aload_n cx dX0_init_0 rfl ?_
  refine kg_objI cx km_X0_3 ⟨Nat.le_of_ble_eq_true rfl, Nat.le_of_ble_eq_true rfl⟩ dX0_init_1 ?_
  refine kg_aload_n cx dX0_init_4 rfl ?_
  refine kg_bipush (v := (nI 9)) cx dX0_init_5 (by decide) ?_
  refine kg_newa (atype := .int) (ty := .int) (N' := 9) cx 0 rfl rfl kac_int (fun _ h => h) (9, .inl (fun _ => 0)) (fun _ => rfl) (by decide) (by decide) (by decide) ⟨by decide, by decide⟩ dX0_init_7 (fun q => ?_)
  refine kg_putF (ci := 0) (ty := (.array .int)) cx 0 0 kfs_X0 tyX0 tyX0_ok nmX0 rfl (by decide) rfl (Nat.le_of_ble_eq_true rfl) kf_X0_9 rfl hin rfl (by decide +kernel) rfl rfl rfl dX0_init_9 ?_
  refine kg_aload_n cx dX0_init_12 rfl ?_
  refine kg_iconst (v := (-1)) cx dX0_init_13 (by decide) ?_
  refine kg_put (ci := 0) (ty := .int) cx 0 1 kfs_X0 tyX0 tyX0_ok nmX0 rfl (by decide) rfl (Nat.le_of_ble_eq_true rfl) kf_X0_15 rfl (by decide +kernel) rfl rfl rfl dX0_init_14 ?_
  exact ki_return cx hr q rfl trivial ⟨by decide, by decide⟩ dX0_init_17
set_option maxHeartbeats 4000000 in
set_option maxRecDepth 100000 in
theorem i_X1 (l : Launch) (D : va_G) (c : Nat → ClassId) (a : Nat) : ki l yX1_init (Cond.code yX1_init cX1_init 1 none) 1 12 5 3232 D (kty c) [(a, .inr (1, [.null, .null, .null, .null, .null, .int 0, .int 0]))] [.ref a] (fun q : Nat × Nat × Nat × Nat × Nat => [(a, .inr (1, [.ref q.1, .ref q.2.1, .ref q.2.2.1, .ref q.2.2.2.1, .ref q.2.2.2.2, .int 0, .int 0])), (q.1, .inl (c 0, 2807, .inl (fun _ => 0))), (q.2.1, .inl (c 1, 401, .inl (fun _ => 0))), (q.2.2.1, .inl (c 0, 8, .inl (fun _ => 0))), (q.2.2.2.1, .inl (c 0, 8, .inl (fun _ => 0))), (q.2.2.2.2, .inl (c 0, 8, .inl (fun _ => 0)))]) (fun _ => True) := by
  refine ki.mk (by decide) rfl (by simp [Value.category]) (Nat.le_of_ble_eq_true rfl) ?_
  intro p e s m args below meth c9 cx hr hin hO
  refine kg_aload_n cx dX1_init_0 rfl ?_
  refine kg_objI cx km_X1_3 ⟨Nat.le_of_ble_eq_true rfl, Nat.le_of_ble_eq_true rfl⟩ dX1_init_1 ?_
  refine kg_aload_n cx dX1_init_4 rfl ?_
  refine kg_sipush (v := (nI 2807)) cx dX1_init_5 (by decide) ?_
  refine kg_newa (atype := .int) (ty := .int) (N' := 2807) cx 0 rfl rfl kac_int (fun _ h => h) (2807, .inl (fun _ => 0)) (fun _ => rfl) (by decide) (by decide) (by decide) ⟨by decide, by decide⟩ dX1_init_8 (fun q0 => ?_)
  refine kg_putF (ci := 1) (ty := (.array .int)) cx 0 0 kfs_X1 tyX1 tyX1_ok nmX1 rfl (by decide) rfl (Nat.le_of_ble_eq_true rfl) kf_X1_9 rfl hin rfl (by decide +kernel) rfl rfl rfl dX1_init_10 ?_
  refine kg_aload_n cx dX1_init_13 rfl ?_
  refine kg_sipush (v := (nI 401)) cx dX1_init_14 (by decide) ?_
  refine kg_newa (atype := .boolean) (ty := .boolean) (N' := 401) cx 1 rfl rfl kac_boolean (fun _ h => h) (401, .inl (fun _ => 0)) (fun _ => rfl) (by decide) (by decide) (by decide) ⟨by decide, by decide⟩ dX1_init_17 (fun q1 => ?_)
  refine kg_putF (ci := 1) (ty := (.array .boolean)) cx 0 1 kfs_X1 tyX1 tyX1_ok nmX1 rfl (by decide) rfl (Nat.le_of_ble_eq_true rfl) kf_X1_15 rfl hin rfl (by decide +kernel) rfl rfl rfl dX1_init_19 ?_
  refine kg_aload_n cx dX1_init_22 rfl ?_
  refine kg_bipush (v := (nI 8)) cx dX1_init_23 (by decide) ?_
  refine kg_newa (atype := .int) (ty := .int) (N' := 8) cx 0 rfl rfl kac_int (fun _ h => h) (8, .inl (fun _ => 0)) (fun _ => rfl) (by decide) (by decide) (by decide) ⟨by decide, by decide⟩ dX1_init_25 (fun q2 => ?_)
  refine kg_putF (ci := 1) (ty := (.array .int)) cx 0 2 kfs_X1 tyX1 tyX1_ok nmX1 rfl (by decide) rfl (Nat.le_of_ble_eq_true rfl) kf_X1_19 rfl hin rfl (by decide +kernel) rfl rfl rfl dX1_init_27 ?_
  refine kg_aload_n cx dX1_init_30 rfl ?_
  refine kg_bipush (v := (nI 8)) cx dX1_init_31 (by decide) ?_
  refine kg_newa (atype := .int) (ty := .int) (N' := 8) cx 0 rfl rfl kac_int (fun _ h => h) (8, .inl (fun _ => 0)) (fun _ => rfl) (by decide) (by decide) (by decide) ⟨by decide, by decide⟩ dX1_init_33 (fun q3 => ?_)
  refine kg_putF (ci := 1) (ty := (.array .int)) cx 0 3 kfs_X1 tyX1 tyX1_ok nmX1 rfl (by decide) rfl (Nat.le_of_ble_eq_true rfl) kf_X1_22 rfl hin rfl (by decide +kernel) rfl rfl rfl dX1_init_35 ?_
  refine kg_aload_n cx dX1_init_38 rfl ?_
  refine kg_bipush (v := (nI 8)) cx dX1_init_39 (by decide) ?_
  refine kg_newa (atype := .int) (ty := .int) (N' := 8) cx 0 rfl rfl kac_int (fun _ h => h) (8, .inl (fun _ => 0)) (fun _ => rfl) (by decide) (by decide) (by decide) ⟨by decide, by decide⟩ dX1_init_41 (fun q4 => ?_)
  refine kg_putF (ci := 1) (ty := (.array .int)) cx 0 4 kfs_X1 tyX1 tyX1_ok nmX1 rfl (by decide) rfl (Nat.le_of_ble_eq_true rfl) kf_X1_25 rfl hin rfl (by decide +kernel) rfl rfl rfl dX1_init_43 ?_
  exact ki_return cx hr (q0, q1, q2, q3, q4) rfl trivial ⟨by decide, by decide⟩ dX1_init_46
