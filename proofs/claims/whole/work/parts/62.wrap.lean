section KLW
/-- the system's cells and the law's out array -/
def kwo (ad : Nat → Nat → Nat) (c : Nat → ClassId) (n o : Nat) (u : kS) (f : Nat → Int64) : va_W := kw ad c n u ++ [(o, .inl (c 4, 1, .inr (.inl f)))]
variable {ad : Nat → Nat → Nat} {c : Nat → ClassId} {n o : Nat} {u : kS} {f : Nat → Int64}
theorem kw_len : (kw ad c n u).length = 44 + n + n := by
  simp only [kw, kw_f, List.length_append, List.length_map, List.length_range, List.length_cons, List.length_nil]
  omega
theorem kwo_at : (kwo ad c n o u f)[44 + n + n]? = some (o, .inl (c 4, 1, .inr (.inl f))) := by
  unfold kwo
  rw [List.getElem?_append_right (by rw [kw_len]; exact Nat.le_refl _), kw_len]
  simp
theorem kwo_0 : (kwo ad c n o u f)[0]? = some (ad 0 0, .inr (3, [.ref (ad 1 0), .ref (ad 2 0), .ref (ad 5 0), .ref (ad 6 0), .int (u 18 0 0), .int (u 19 0 0)])) := rfl
theorem kwo_set {f9 : Nat → Int64} : (kwo ad c n o u f).set (44 + n + n) (o, .inl (c 4, 1, .inr (.inl f9))) = kwo ad c n o u f9 := by
  unfold kwo
  rw [List.set_append_right _ _ (by rw [kw_len]; exact Nat.le_refl _), kw_len]
  simp
theorem kwo_adr (v : kS) (g : Nat → Int64) : (kwo ad c n o u f).map Prod.fst = (kwo ad c n o v g).map Prod.fst := by
  unfold kwo
  rw [List.map_append, List.map_append, kw_adr u v]
  rfl
theorem kwo_x {l : Launch} {D : va_G} {y : MethodName} {cd : Cond} {fr lc mc ms : Nat} {av : List Value} {post : Option Value → kS → Prop} {pe : String → Prop} (h : kX l D c ad n y cd fr lc mc ms u av post pe) (o : Nat) (f : Nat → Int64) : kx l y cd fr lc mc ms D (kty c) (kwo ad c n o u f) av (fun u => kwo ad c n o u f) post pe := kx_frame h [] [(o, .inl (c 4, 1, .inr (.inl f)))]
/-- what a helper answers for what was thrown -/
def kcode (E : String) : Int32 := if E = sA then 1 else nI 2
theorem kcode_A : kcode sA = 1 := if_pos rfl
theorem kcode_S : kcode sS = nI 2 := if_neg (by decide)
/-- a helper's end: 0 and the answer, or what was thrown and nothing changed -/
def kWp (u : kS) (post : Option Value → kS → Prop) (pe : String → Prop) (v : Option Value) (q : kS × (Nat → Int64)) : Prop := (∃ a, v = some (.int 0) ∧ post (some (.int a)) q.1 ∧ q.2 0 = a.toInt64) ∨ (∃ E, pe E ∧ q.1 = u ∧ v = some (.int (kcode E)))
def kWz (u : kS) (post : Option Value → kS → Prop) (pe : String → Prop) (v : Option Value) (q : kS × (Nat → Int64)) : Prop := (∃ a, v = some (.int 0) ∧ post (some (.int a)) q.1 ∧ q.2 0 = if a = 0 then 0 else 1) ∨ (∃ E, pe E ∧ q.1 = u ∧ v = some (.int (kcode E)))
theorem kl_cast {p : Program} {s : State} {m : MethodId} {args : Array Value} {meth : Method} {c9 : Code} {cc : ByteArray} {nL : Nat} {own : String} {D : va_G} {tys : List (ClassId × FieldType)} {A : Nat → Prop} (cx : kg_c p s m args meth c9 cc nL own D tys A) {E : String} (h1 : Cond.castable E E ∈ tables_1) : (Cond.castable E E).before args s = true := va_Nw.use rfl (cx.2.2.2.2.2.2.2.2 (Cond.castable E E) h1 rfl)
theorem kl_cA : Cond.castable sA sA ∈ tables_1 := by decide +kernel
theorem kl_cS : Cond.castable sS sS ∈ tables_1 := by decide +kernel
end KLW
set_option maxHeartbeats 4000000 in
set_option maxRecDepth 100000 in
theorem w_fetch (l : Launch) (D : va_G) (c : Nat → ClassId) (ad : Nat → Nat → Nat) (n o : Nat) (u : kS) (f : Nat → Int64) (x0 : Int32) {post : Option Value → kS → Prop} {pe : String → Prop} (hM : kX l D c ad n yX3_fetch (Cond.code yX3_fetch cX3_fetch 3 (some .int)) 7 126 1 6 u [.ref (ad 0 0), .int x0] post pe) (hv : ∀ v u9, post v u9 → ∃ a, v = some (.int a)) (hpe : ∀ E, pe E → E = sA) : kl l yL_fetch (Cond.codeWith yL_fetch cL_fetch 4 (some .int) [(0, 9, 12, 13)]) 8 148 1 6 D (kty c) (kwo ad c n o u f) [.ref (ad 0 0), .int x0, .ref o] (fun q : kS × (Nat → Int64) => kwo ad c n o q.1 q.2) (kWp u post pe) := by
  refine kl.mk (by decide) (by simp [Value.category]) (Nat.le_of_ble_eq_true rfl) ?_
  intro p e s m args below meth c9 cx hr hZ hY htab
  refine kg_aload_n cx dL_fetch_0 rfl ?_
  refine kg_iconst (v := 0) cx dL_fetch_1 (by decide) ?_
  refine kg_aload_n cx dL_fetch_2 rfl ?_
  refine kg_iload_n cx dL_fetch_3 rfl ?_
  refine kl_try (ci := 3) (na := 1) cx hZ hY (kwo_x hM o f) 0 rfl kwo_0 kcd_X3_fetch km_L_7 kin_X3 kim_X3_fetch ksl_X3_fetch (by decide +kernel) rfl (by decide) (by decide) rfl (Nat.le_of_ble_eq_true rfl) dL_fetch_4 (fun _ => kwo_adr _ _) (fun v9 u9 h9 => ?_) (fun E h9 => ?_)
  · obtain ⟨a, rfl⟩ := hv _ _ h9
    refine kg_i2l cx dL_fetch_7 ?_
    refine kg_last cx (44 + n + n) 4 rfl kwo_at (pk_in 0 1 (by decide)) kwo_set dL_fetch_8 ?_
    refine kg_goto cx 15 dL_fetch_9 (by decide) ?_
    refine kg_iconst (v := 0) cx dL_fetch_15 (by decide) ?_
    exact kg_ireturn cx hr rfl (u9, vp_updL f 0 a.toInt64) rfl (Or.inl ⟨a, rfl, h9, rfl⟩) dL_fetch_16
  · cases hpe E h9
    refine ⟨[], ⟨0, 9, 12, 13⟩, [], sA, htab, (fun z hz => by cases hz), by decide, by decide, cx.2.2.2.2.1 _ kcl_L_13, kl_cast cx kl_cA, fun q => ?_⟩
    refine kg_astore_n cx dL_fetch_12 (by decide) ?_
    refine kg_iconst (v := 1) cx dL_fetch_13 (by decide) ?_
    exact kg_ireturn cx hr rfl (u, f) rfl (Or.inr ⟨sA, h9, rfl, by rw [kcode_A]⟩) dL_fetch_14
set_option maxHeartbeats 4000000 in
set_option maxRecDepth 100000 in
theorem w_release (l : Launch) (D : va_G) (c : Nat → ClassId) (ad : Nat → Nat → Nat) (n o : Nat) (u : kS) (f : Nat → Int64) (x0 : Int32) {post : Option Value → kS → Prop} {pe : String → Prop} (hM : kX l D c ad n yX3_release (Cond.code yX3_release cX3_release 3 (some .int)) 7 104 2 12 u [.ref (ad 0 0), .int x0] post pe) (hv : ∀ v u9, post v u9 → ∃ a, v = some (.int a)) (hpe : ∀ E, pe E → E = sA ∨ E = sS) : kl l yL_release (Cond.codeWith yL_release cL_release 4 (some .int) [(0, 9, 12, 13), (0, 9, 15, 18)]) 8 126 2 12 D (kty c) (kwo ad c n o u f) [.ref (ad 0 0), .int x0, .ref o] (fun q : kS × (Nat → Int64) => kwo ad c n o q.1 q.2) (kWp u post pe) := by
  refine kl.mk (by decide) (by simp [Value.category]) (Nat.le_of_ble_eq_true rfl) ?_
  intro p e s m args below meth c9 cx hr hZ hY htab
  refine kg_aload_n cx dL_release_0 rfl ?_
  refine kg_iconst (v := 0) cx dL_release_1 (by decide) ?_
  refine kg_aload_n cx dL_release_2 rfl ?_
  refine kg_iload_n cx dL_release_3 rfl ?_
  refine kl_try (ci := 3) (na := 1) cx hZ hY (kwo_x hM o f) 0 rfl kwo_0 kcd_X3_release km_L_15 kin_X3 kim_X3_release ksl_X3_release (by decide +kernel) rfl (by decide) (by decide) rfl (Nat.le_of_ble_eq_true rfl) dL_release_4 (fun _ => kwo_adr _ _) (fun v9 u9 h9 => ?_) (fun E h9 => ?_)
  · obtain ⟨a, rfl⟩ := hv _ _ h9
    refine kg_i2l cx dL_release_7 ?_
    refine kg_last cx (44 + n + n) 4 rfl kwo_at (pk_in 0 1 (by decide)) kwo_set dL_release_8 ?_
    refine kg_goto cx 18 dL_release_9 (by decide) ?_
    refine kg_iconst (v := 0) cx dL_release_18 (by decide) ?_
    exact kg_ireturn cx hr rfl (u9, vp_updL f 0 a.toInt64) rfl (Or.inl ⟨a, rfl, h9, rfl⟩) dL_release_19
  · rcases hpe E h9 with rfl | rfl
    · refine ⟨[], ⟨0, 9, 12, 13⟩, [⟨0, 9, 15, 18⟩], sA, htab, (fun z hz => by cases hz), by decide, by decide, cx.2.2.2.2.1 _ kcl_L_13, kl_cast cx kl_cA, fun q => ?_⟩
      refine kg_astore_n cx dL_release_12 (by decide) ?_
      refine kg_iconst (v := 1) cx dL_release_13 (by decide) ?_
      exact kg_ireturn cx hr rfl (u, f) rfl (Or.inr ⟨sA, h9, rfl, by rw [kcode_A]⟩) dL_release_14
    · refine ⟨[⟨0, 9, 12, 13⟩], ⟨0, 9, 15, 18⟩, [], sS, htab, (fun z hz => by
        cases List.mem_singleton.mp hz
        exact Or.inr ⟨by decide, sA, cx.2.2.2.2.1 _ kcl_L_13, hY⟩), by decide, by decide, cx.2.2.2.2.1 _ kcl_L_18, kl_cast cx kl_cS, fun q => ?_⟩
      refine kg_astore_n cx dL_release_15 (by decide) ?_
      refine kg_iconst (v := (nI 2)) cx dL_release_16 (by decide) ?_
      exact kg_ireturn cx hr rfl (u, f) rfl (Or.inr ⟨sS, h9, rfl, by rw [kcode_S]⟩) dL_release_17
set_option maxHeartbeats 4000000 in
set_option maxRecDepth 100000 in
theorem w_get (l : Launch) (D : va_G) (c : Nat → ClassId) (ad : Nat → Nat → Nat) (n o : Nat) (u : kS) (f : Nat → Int64) (x0 x1 : Int32) {post : Option Value → kS → Prop} {pe : String → Prop} (hM : kX l D c ad n yX3_get (Cond.code yX3_get cX3_get 3 (some .int)) 7 104 3 18 u [.ref (ad 0 0), .int x0, .int x1] post pe) (hv : ∀ v u9, post v u9 → ∃ a, v = some (.int a)) (hpe : ∀ E, pe E → E = sA ∨ E = sS) : kl l yL_get (Cond.codeWith yL_get cL_get 5 (some .int) [(0, 10, 13, 13), (0, 10, 17, 18)]) 8 126 3 18 D (kty c) (kwo ad c n o u f) [.ref (ad 0 0), .int x0, .int x1, .ref o] (fun q : kS × (Nat → Int64) => kwo ad c n o q.1 q.2) (kWp u post pe) := by
  refine kl.mk (by decide) (by simp [Value.category]) (Nat.le_of_ble_eq_true rfl) ?_
  intro p e s m args below meth c9 cx hr hZ hY htab
  refine kg_aload_n cx dL_get_0 rfl ?_
  refine kg_iconst (v := 0) cx dL_get_1 (by decide) ?_
  refine kg_aload_n cx dL_get_2 rfl ?_
  refine kg_iload_n cx dL_get_3 rfl ?_
  refine kg_iload_n cx dL_get_4 rfl ?_
  refine kl_try (ci := 3) (na := 2) cx hZ hY (kwo_x hM o f) 0 rfl kwo_0 kcd_X3_get km_L_20 kin_X3 kim_X3_get ksl_X3_get (by decide +kernel) rfl (by decide) (by decide) rfl (Nat.le_of_ble_eq_true rfl) dL_get_5 (fun _ => kwo_adr _ _) (fun v9 u9 h9 => ?_) (fun E h9 => ?_)
  · obtain ⟨a, rfl⟩ := hv _ _ h9
    refine kg_i2l cx dL_get_8 ?_
    refine kg_last cx (44 + n + n) 4 rfl kwo_at (pk_in 0 1 (by decide)) kwo_set dL_get_9 ?_
    refine kg_goto cx 21 dL_get_10 (by decide) ?_
    refine kg_iconst (v := 0) cx dL_get_21 (by decide) ?_
    exact kg_ireturn cx hr rfl (u9, vp_updL f 0 a.toInt64) rfl (Or.inl ⟨a, rfl, h9, rfl⟩) dL_get_22
  · rcases hpe E h9 with rfl | rfl
    · refine ⟨[], ⟨0, 10, 13, 13⟩, [⟨0, 10, 17, 18⟩], sA, htab, (fun z hz => by cases hz), by decide, by decide, cx.2.2.2.2.1 _ kcl_L_13, kl_cast cx kl_cA, fun q => ?_⟩
      refine kg_astore cx dL_get_13 (by decide) ?_
      refine kg_iconst (v := 1) cx dL_get_15 (by decide) ?_
      exact kg_ireturn cx hr rfl (u, f) rfl (Or.inr ⟨sA, h9, rfl, by rw [kcode_A]⟩) dL_get_16
    · refine ⟨[⟨0, 10, 13, 13⟩], ⟨0, 10, 17, 18⟩, [], sS, htab, (fun z hz => by
        cases List.mem_singleton.mp hz
        exact Or.inr ⟨by decide, sA, cx.2.2.2.2.1 _ kcl_L_13, hY⟩), by decide, by decide, cx.2.2.2.2.1 _ kcl_L_18, kl_cast cx kl_cS, fun q => ?_⟩
      refine kg_astore cx dL_get_17 (by decide) ?_
      refine kg_iconst (v := (nI 2)) cx dL_get_19 (by decide) ?_
      exact kg_ireturn cx hr rfl (u, f) rfl (Or.inr ⟨sS, h9, rfl, by rw [kcode_S]⟩) dL_get_20
set_option maxHeartbeats 4000000 in
set_option maxRecDepth 100000 in
theorem w_set (l : Launch) (D : va_G) (c : Nat → ClassId) (ad : Nat → Nat → Nat) (n o : Nat) (u : kS) (f : Nat → Int64) (x0 x1 x2 x3 : Int32) {post : Option Value → kS → Prop} {pe : String → Prop} (hM : kX l D c ad n yX3_set (Cond.code yX3_set cX3_set 7 (some .int)) 8 124 6 36 u [.ref (ad 0 0), .int x0, .int x1, .int x2, .int x3] post pe) (hv : ∀ v u9, post v u9 → ∃ a, v = some (.int a)) (hpe : ∀ E, pe E → E = sA ∨ E = sS) : kl l yL_set (Cond.codeWith yL_set cL_set 7 (some .int) [(0, 14, 17, 13), (0, 14, 21, 18)]) 9 150 6 36 D (kty c) (kwo ad c n o u f) [.ref (ad 0 0), .int x0, .int x1, .int x2, .int x3, .ref o] (fun q : kS × (Nat → Int64) => kwo ad c n o q.1 q.2) (kWp u post pe) := by
  refine kl.mk (by decide) (by simp [Value.category]) (Nat.le_of_ble_eq_true rfl) ?_
  intro p e s m args below meth c9 cx hr hZ hY htab
  refine kg_aload cx dL_set_0 rfl ?_
  refine kg_iconst (v := 0) cx dL_set_2 (by decide) ?_
  refine kg_aload_n cx dL_set_3 rfl ?_
  refine kg_iload_n cx dL_set_4 rfl ?_
  refine kg_iload_n cx dL_set_5 rfl ?_
  refine kg_iload_n cx dL_set_6 rfl ?_
  refine kg_iload cx dL_set_7 rfl ?_
  refine kl_try (ci := 3) (na := 4) cx hZ hY (kwo_x hM o f) 0 rfl kwo_0 kcd_X3_set km_L_24 kin_X3 kim_X3_set ksl_X3_set (by decide +kernel) rfl (by decide) (by decide) rfl (Nat.le_of_ble_eq_true rfl) dL_set_9 (fun _ => kwo_adr _ _) (fun v9 u9 h9 => ?_) (fun E h9 => ?_)
  · obtain ⟨a, rfl⟩ := hv _ _ h9
    refine kg_i2l cx dL_set_12 ?_
    refine kg_last cx (44 + n + n) 4 rfl kwo_at (pk_in 0 1 (by decide)) kwo_set dL_set_13 ?_
    refine kg_goto cx 25 dL_set_14 (by decide) ?_
    refine kg_iconst (v := 0) cx dL_set_25 (by decide) ?_
    exact kg_ireturn cx hr rfl (u9, vp_updL f 0 a.toInt64) rfl (Or.inl ⟨a, rfl, h9, rfl⟩) dL_set_26
  · rcases hpe E h9 with rfl | rfl
    · refine ⟨[], ⟨0, 14, 17, 13⟩, [⟨0, 14, 21, 18⟩], sA, htab, (fun z hz => by cases hz), by decide, by decide, cx.2.2.2.2.1 _ kcl_L_13, kl_cast cx kl_cA, fun q => ?_⟩
      refine kg_astore cx dL_set_17 (by decide) ?_
      refine kg_iconst (v := 1) cx dL_set_19 (by decide) ?_
      exact kg_ireturn cx hr rfl (u, f) rfl (Or.inr ⟨sA, h9, rfl, by rw [kcode_A]⟩) dL_set_20
    · refine ⟨[⟨0, 14, 17, 13⟩], ⟨0, 14, 21, 18⟩, [], sS, htab, (fun z hz => by
        cases List.mem_singleton.mp hz
        exact Or.inr ⟨by decide, sA, cx.2.2.2.2.1 _ kcl_L_13, hY⟩), by decide, by decide, cx.2.2.2.2.1 _ kcl_L_18, kl_cast cx kl_cS, fun q => ?_⟩
      refine kg_astore cx dL_set_21 (by decide) ?_
      refine kg_iconst (v := (nI 2)) cx dL_set_23 (by decide) ?_
      exact kg_ireturn cx hr rfl (u, f) rfl (Or.inr ⟨sS, h9, rfl, by rw [kcode_S]⟩) dL_set_24
set_option maxHeartbeats 4000000 in
set_option maxRecDepth 100000 in
theorem w_commit (l : Launch) (D : va_G) (c : Nat → ClassId) (ad : Nat → Nat → Nat) (n o : Nat) (u : kS) (f : Nat → Int64) (x0 : Int32) {post : Option Value → kS → Prop} {pe : String → Prop} (hM : kX l D c ad n yX3_commit (Cond.code yX3_commit cX3_commit 3 (some .int)) 8 124 3 18 u [.ref (ad 0 0), .int x0] post pe) (hv : ∀ v u9, post v u9 → ∃ a, v = some (.int a)) (hpe : ∀ E, pe E → E = sA ∨ E = sS) : kl l yL_commit (Cond.codeWith yL_commit cL_commit 4 (some .int) [(0, 9, 12, 13), (0, 9, 15, 18)]) 9 146 3 18 D (kty c) (kwo ad c n o u f) [.ref (ad 0 0), .int x0, .ref o] (fun q : kS × (Nat → Int64) => kwo ad c n o q.1 q.2) (kWp u post pe) := by
  refine kl.mk (by decide) (by simp [Value.category]) (Nat.le_of_ble_eq_true rfl) ?_
  intro p e s m args below meth c9 cx hr hZ hY htab
  refine kg_aload_n cx dL_commit_0 rfl ?_
  refine kg_iconst (v := 0) cx dL_commit_1 (by decide) ?_
  refine kg_aload_n cx dL_commit_2 rfl ?_
  refine kg_iload_n cx dL_commit_3 rfl ?_
  refine kl_try (ci := 3) (na := 1) cx hZ hY (kwo_x hM o f) 0 rfl kwo_0 kcd_X3_commit km_L_28 kin_X3 kim_X3_commit ksl_X3_commit (by decide +kernel) rfl (by decide) (by decide) rfl (Nat.le_of_ble_eq_true rfl) dL_commit_4 (fun _ => kwo_adr _ _) (fun v9 u9 h9 => ?_) (fun E h9 => ?_)
  · obtain ⟨a, rfl⟩ := hv _ _ h9
    refine kg_i2l cx dL_commit_7 ?_
    refine kg_last cx (44 + n + n) 4 rfl kwo_at (pk_in 0 1 (by decide)) kwo_set dL_commit_8 ?_
    refine kg_goto cx 18 dL_commit_9 (by decide) ?_
    refine kg_iconst (v := 0) cx dL_commit_18 (by decide) ?_
    exact kg_ireturn cx hr rfl (u9, vp_updL f 0 a.toInt64) rfl (Or.inl ⟨a, rfl, h9, rfl⟩) dL_commit_19
  · rcases hpe E h9 with rfl | rfl
    · refine ⟨[], ⟨0, 9, 12, 13⟩, [⟨0, 9, 15, 18⟩], sA, htab, (fun z hz => by cases hz), by decide, by decide, cx.2.2.2.2.1 _ kcl_L_13, kl_cast cx kl_cA, fun q => ?_⟩
      refine kg_astore_n cx dL_commit_12 (by decide) ?_
      refine kg_iconst (v := 1) cx dL_commit_13 (by decide) ?_
      exact kg_ireturn cx hr rfl (u, f) rfl (Or.inr ⟨sA, h9, rfl, by rw [kcode_A]⟩) dL_commit_14
    · refine ⟨[⟨0, 9, 12, 13⟩], ⟨0, 9, 15, 18⟩, [], sS, htab, (fun z hz => by
        cases List.mem_singleton.mp hz
        exact Or.inr ⟨by decide, sA, cx.2.2.2.2.1 _ kcl_L_13, hY⟩), by decide, by decide, cx.2.2.2.2.1 _ kcl_L_18, kl_cast cx kl_cS, fun q => ?_⟩
      refine kg_astore_n cx dL_commit_15 (by decide) ?_
      refine kg_iconst (v := (nI 2)) cx dL_commit_16 (by decide) ?_
      exact kg_ireturn cx hr rfl (u, f) rfl (Or.inr ⟨sS, h9, rfl, by rw [kcode_S]⟩) dL_commit_17
set_option maxHeartbeats 4000000 in
set_option maxRecDepth 100000 in
theorem w_abort (l : Launch) (D : va_G) (c : Nat → ClassId) (ad : Nat → Nat → Nat) (n o : Nat) (u : kS) (f : Nat → Int64) (x0 : Int32) {post : Option Value → kS → Prop} {pe : String → Prop} (hM : kX l D c ad n yX3_abort (Cond.code yX3_abort cX3_abort 4 (some .int)) 7 151 2 12 u [.ref (ad 0 0), .int x0] post pe) (hv : ∀ v u9, post v u9 → ∃ a, v = some (.int a)) (hpe : ∀ E, pe E → E = sA ∨ E = sS) : kl l yL_abort (Cond.codeWith yL_abort cL_abort 4 (some .int) [(0, 9, 12, 13), (0, 9, 15, 18)]) 8 174 2 12 D (kty c) (kwo ad c n o u f) [.ref (ad 0 0), .int x0, .ref o] (fun q : kS × (Nat → Int64) => kwo ad c n o q.1 q.2) (kWp u post pe) := by
  refine kl.mk (by decide) (by simp [Value.category]) (Nat.le_of_ble_eq_true rfl) ?_
  intro p e s m args below meth c9 cx hr hZ hY htab
  refine kg_aload_n cx dL_abort_0 rfl ?_
  refine kg_iconst (v := 0) cx dL_abort_1 (by decide) ?_
  refine kg_aload_n cx dL_abort_2 rfl ?_
  refine kg_iload_n cx dL_abort_3 rfl ?_
  refine kl_try (ci := 3) (na := 1) cx hZ hY (kwo_x hM o f) 0 rfl kwo_0 kcd_X3_abort km_L_31 kin_X3 kim_X3_abort ksl_X3_abort (by decide +kernel) rfl (by decide) (by decide) rfl (Nat.le_of_ble_eq_true rfl) dL_abort_4 (fun _ => kwo_adr _ _) (fun v9 u9 h9 => ?_) (fun E h9 => ?_)
  · obtain ⟨a, rfl⟩ := hv _ _ h9
    refine kg_i2l cx dL_abort_7 ?_
    refine kg_last cx (44 + n + n) 4 rfl kwo_at (pk_in 0 1 (by decide)) kwo_set dL_abort_8 ?_
    refine kg_goto cx 18 dL_abort_9 (by decide) ?_
    refine kg_iconst (v := 0) cx dL_abort_18 (by decide) ?_
    exact kg_ireturn cx hr rfl (u9, vp_updL f 0 a.toInt64) rfl (Or.inl ⟨a, rfl, h9, rfl⟩) dL_abort_19
  · rcases hpe E h9 with rfl | rfl
    · refine ⟨[], ⟨0, 9, 12, 13⟩, [⟨0, 9, 15, 18⟩], sA, htab, (fun z hz => by cases hz), by decide, by decide, cx.2.2.2.2.1 _ kcl_L_13, kl_cast cx kl_cA, fun q => ?_⟩
      refine kg_astore_n cx dL_abort_12 (by decide) ?_
      refine kg_iconst (v := 1) cx dL_abort_13 (by decide) ?_
      exact kg_ireturn cx hr rfl (u, f) rfl (Or.inr ⟨sA, h9, rfl, by rw [kcode_A]⟩) dL_abort_14
    · refine ⟨[⟨0, 9, 12, 13⟩], ⟨0, 9, 15, 18⟩, [], sS, htab, (fun z hz => by
        cases List.mem_singleton.mp hz
        exact Or.inr ⟨by decide, sA, cx.2.2.2.2.1 _ kcl_L_13, hY⟩), by decide, by decide, cx.2.2.2.2.1 _ kcl_L_18, kl_cast cx kl_cS, fun q => ?_⟩
      refine kg_astore_n cx dL_abort_15 (by decide) ?_
      refine kg_iconst (v := (nI 2)) cx dL_abort_16 (by decide) ?_
      exact kg_ireturn cx hr rfl (u, f) rfl (Or.inr ⟨sS, h9, rfl, by rw [kcode_S]⟩) dL_abort_17
set_option maxHeartbeats 4000000 in
set_option maxRecDepth 100000 in
theorem w_flush (l : Launch) (D : va_G) (c : Nat → ClassId) (ad : Nat → Nat → Nat) (n o : Nat) (u : kS) (f : Nat → Int64) (x0 : Int32) {post : Option Value → kS → Prop} {pe : String → Prop} (hM : kX l D c ad n yX3_flush (Cond.code yX3_flush cX3_flush 2 (some .int)) 6 82 1 6 u [.ref (ad 0 0), .int x0] post pe) (hv : ∀ v u9, post v u9 → ∃ a, v = some (.int a)) (hpe : ∀ E, pe E → E = sA) : kl l yL_flush (Cond.codeWith yL_flush cL_flush 4 (some .int) [(0, 9, 12, 13)]) 7 103 1 6 D (kty c) (kwo ad c n o u f) [.ref (ad 0 0), .int x0, .ref o] (fun q : kS × (Nat → Int64) => kwo ad c n o q.1 q.2) (kWp u post pe) := by
  refine kl.mk (by decide) (by simp [Value.category]) (Nat.le_of_ble_eq_true rfl) ?_
  intro p e s m args below meth c9 cx hr hZ hY htab
  refine kg_aload_n cx dL_flush_0 rfl ?_
  refine kg_iconst (v := 0) cx dL_flush_1 (by decide) ?_
  refine kg_aload_n cx dL_flush_2 rfl ?_
  refine kg_iload_n cx dL_flush_3 rfl ?_
  refine kl_try (ci := 3) (na := 1) cx hZ hY (kwo_x hM o f) 0 rfl kwo_0 kcd_X3_flush km_L_34 kin_X3 kim_X3_flush ksl_X3_flush (by decide +kernel) rfl (by decide) (by decide) rfl (Nat.le_of_ble_eq_true rfl) dL_flush_4 (fun _ => kwo_adr _ _) (fun v9 u9 h9 => ?_) (fun E h9 => ?_)
  · obtain ⟨a, rfl⟩ := hv _ _ h9
    refine kg_i2l cx dL_flush_7 ?_
    refine kg_last cx (44 + n + n) 4 rfl kwo_at (pk_in 0 1 (by decide)) kwo_set dL_flush_8 ?_
    refine kg_goto cx 15 dL_flush_9 (by decide) ?_
    refine kg_iconst (v := 0) cx dL_flush_15 (by decide) ?_
    exact kg_ireturn cx hr rfl (u9, vp_updL f 0 a.toInt64) rfl (Or.inl ⟨a, rfl, h9, rfl⟩) dL_flush_16
  · cases hpe E h9
    refine ⟨[], ⟨0, 9, 12, 13⟩, [], sA, htab, (fun z hz => by cases hz), by decide, by decide, cx.2.2.2.2.1 _ kcl_L_13, kl_cast cx kl_cA, fun q => ?_⟩
    refine kg_astore_n cx dL_flush_12 (by decide) ?_
    refine kg_iconst (v := 1) cx dL_flush_13 (by decide) ?_
    exact kg_ireturn cx hr rfl (u, f) rfl (Or.inr ⟨sA, h9, rfl, by rw [kcode_A]⟩) dL_flush_14
set_option maxHeartbeats 4000000 in
set_option maxRecDepth 100000 in
theorem w_clean (l : Launch) (D : va_G) (c : Nat → ClassId) (ad : Nat → Nat → Nat) (n o : Nat) (u : kS) (f : Nat → Int64) (x0 : Int32) {post : Option Value → kS → Prop} {pe : String → Prop} (hM : kX l D c ad n yX3_clean (Cond.code yX3_clean cX3_clean 4 (some .boolean)) 7 103 1 6 u [.ref (ad 0 0), .int x0] post pe) (hv : ∀ v u9, post v u9 → ∃ a, v = some (.int a)) (hpe : ∀ E, pe E → E = sA) : kl l yL_clean (Cond.codeWith yL_clean cL_clean 4 (some .int) [(0, 16, 19, 13)]) 8 126 1 6 D (kty c) (kwo ad c n o u f) [.ref (ad 0 0), .int x0, .ref o] (fun q : kS × (Nat → Int64) => kwo ad c n o q.1 q.2) (kWz u post pe) := by
  refine kl.mk (by decide) (by simp [Value.category]) (Nat.le_of_ble_eq_true rfl) ?_
  intro p e s m args below meth c9 cx hr hZ hY htab
  refine kg_aload_n cx dL_clean_0 rfl ?_
  refine kg_iconst (v := 0) cx dL_clean_1 (by decide) ?_
  refine kg_aload_n cx dL_clean_2 rfl ?_
  refine kg_iload_n cx dL_clean_3 rfl ?_
  refine kl_try (ci := 3) (na := 1) cx hZ hY (kwo_x hM o f) 0 rfl kwo_0 kcd_X3_clean km_L_37 kin_X3 kim_X3_clean ksl_X3_clean (by decide +kernel) rfl (by decide) (by decide) rfl (Nat.le_of_ble_eq_true rfl) dL_clean_4 (fun _ => kwo_adr _ _) (fun v9 u9 h9 => ?_) (fun E h9 => ?_)
  · obtain ⟨a, rfl⟩ := hv _ _ h9
    refine kg_if_eq cx 14 dL_clean_7 (by decide) (fun ha => ?_) (fun ha => ?_)
    · refine kg_lconst (v := 0) cx dL_clean_14 (by decide) ?_
      refine kg_last cx (44 + n + n) 4 rfl kwo_at (pk_in 0 1 (by decide)) kwo_set dL_clean_15 ?_
      refine kg_goto cx 22 dL_clean_16 (by decide) ?_
      refine kg_iconst (v := 0) cx dL_clean_22 (by decide) ?_
      exact kg_ireturn cx hr rfl (u9, vp_updL f 0 0) rfl (Or.inl ⟨a, rfl, h9, by rw [if_pos ha]; rfl⟩) dL_clean_23
    · refine kg_lconst (v := 1) cx dL_clean_10 (by decide) ?_
      refine kg_goto cx 15 dL_clean_11 (by decide) ?_
      refine kg_last cx (44 + n + n) 4 rfl kwo_at (pk_in 0 1 (by decide)) kwo_set dL_clean_15 ?_
      refine kg_goto cx 22 dL_clean_16 (by decide) ?_
      refine kg_iconst (v := 0) cx dL_clean_22 (by decide) ?_
      exact kg_ireturn cx hr rfl (u9, vp_updL f 0 1) rfl (Or.inl ⟨a, rfl, h9, by rw [if_neg ha]; rfl⟩) dL_clean_23
  · cases hpe E h9
    refine ⟨[], ⟨0, 16, 19, 13⟩, [], sA, htab, (fun z hz => by cases hz), by decide, by decide, cx.2.2.2.2.1 _ kcl_L_13, kl_cast cx kl_cA, fun q => ?_⟩
    refine kg_astore_n cx dL_clean_19 (by decide) ?_
    refine kg_iconst (v := 1) cx dL_clean_20 (by decide) ?_
    exact kg_ireturn cx hr rfl (u, f) rfl (Or.inr ⟨sA, h9, rfl, by rw [kcode_A]⟩) dL_clean_21
set_option maxHeartbeats 4000000 in
set_option maxRecDepth 100000 in
theorem w_disk (l : Launch) (D : va_G) (c : Nat → ClassId) (ad : Nat → Nat → Nat) (n o : Nat) (u : kS) (f : Nat → Int64) (x0 x1 : Int32) {post : Option Value → kS → Prop} {pe : String → Prop} (hM : kX l D c ad n yX3_disk (Cond.code yX3_disk cX3_disk 3 (some .int)) 7 103 2 12 u [.ref (ad 0 0), .int x0, .int x1] post pe) (hv : ∀ v u9, post v u9 → ∃ a, v = some (.int a)) (hpe : ∀ E, pe E → E = sA) : kl l yL_disk (Cond.codeWith yL_disk cL_disk 5 (some .int) [(0, 10, 13, 13)]) 8 125 2 12 D (kty c) (kwo ad c n o u f) [.ref (ad 0 0), .int x0, .int x1, .ref o] (fun q : kS × (Nat → Int64) => kwo ad c n o q.1 q.2) (kWp u post pe) := by
  refine kl.mk (by decide) (by simp [Value.category]) (Nat.le_of_ble_eq_true rfl) ?_
  intro p e s m args below meth c9 cx hr hZ hY htab
  refine kg_aload_n cx dL_disk_0 rfl ?_
  refine kg_iconst (v := 0) cx dL_disk_1 (by decide) ?_
  refine kg_aload_n cx dL_disk_2 rfl ?_
  refine kg_iload_n cx dL_disk_3 rfl ?_
  refine kg_iload_n cx dL_disk_4 rfl ?_
  refine kl_try (ci := 3) (na := 2) cx hZ hY (kwo_x hM o f) 0 rfl kwo_0 kcd_X3_disk km_L_41 kin_X3 kim_X3_disk ksl_X3_disk (by decide +kernel) rfl (by decide) (by decide) rfl (Nat.le_of_ble_eq_true rfl) dL_disk_5 (fun _ => kwo_adr _ _) (fun v9 u9 h9 => ?_) (fun E h9 => ?_)
  · obtain ⟨a, rfl⟩ := hv _ _ h9
    refine kg_i2l cx dL_disk_8 ?_
    refine kg_last cx (44 + n + n) 4 rfl kwo_at (pk_in 0 1 (by decide)) kwo_set dL_disk_9 ?_
    refine kg_goto cx 17 dL_disk_10 (by decide) ?_
    refine kg_iconst (v := 0) cx dL_disk_17 (by decide) ?_
    exact kg_ireturn cx hr rfl (u9, vp_updL f 0 a.toInt64) rfl (Or.inl ⟨a, rfl, h9, rfl⟩) dL_disk_18
  · cases hpe E h9
    refine ⟨[], ⟨0, 10, 13, 13⟩, [], sA, htab, (fun z hz => by cases hz), by decide, by decide, cx.2.2.2.2.1 _ kcl_L_13, kl_cast cx kl_cA, fun q => ?_⟩
    refine kg_astore cx dL_disk_13 (by decide) ?_
    refine kg_iconst (v := 1) cx dL_disk_15 (by decide) ?_
    exact kg_ireturn cx hr rfl (u, f) rfl (Or.inr ⟨sA, h9, rfl, by rw [kcode_A]⟩) dL_disk_16
set_option maxHeartbeats 4000000 in
set_option maxRecDepth 100000 in
theorem w_frame (l : Launch) (D : va_G) (c : Nat → ClassId) (ad : Nat → Nat → Nat) (n o : Nat) (u : kS) (f : Nat → Int64) (x0 x1 : Int32) {post : Option Value → kS → Prop} {pe : String → Prop} (hM : kX l D c ad n yX3_frame (Cond.code yX3_frame cX3_frame 4 (some .int)) 7 103 2 12 u [.ref (ad 0 0), .int x0, .int x1] post pe) (hv : ∀ v u9, post v u9 → ∃ a, v = some (.int a)) (hpe : ∀ E, pe E → E = sA) : kl l yL_frame (Cond.codeWith yL_frame cL_frame 5 (some .int) [(0, 10, 13, 13)]) 8 126 2 12 D (kty c) (kwo ad c n o u f) [.ref (ad 0 0), .int x0, .int x1, .ref o] (fun q : kS × (Nat → Int64) => kwo ad c n o q.1 q.2) (kWp u post pe) := by
  refine kl.mk (by decide) (by simp [Value.category]) (Nat.le_of_ble_eq_true rfl) ?_
  intro p e s m args below meth c9 cx hr hZ hY htab
  refine kg_aload_n cx dL_frame_0 rfl ?_
  refine kg_iconst (v := 0) cx dL_frame_1 (by decide) ?_
  refine kg_aload_n cx dL_frame_2 rfl ?_
  refine kg_iload_n cx dL_frame_3 rfl ?_
  refine kg_iload_n cx dL_frame_4 rfl ?_
  refine kl_try (ci := 3) (na := 2) cx hZ hY (kwo_x hM o f) 0 rfl kwo_0 kcd_X3_frame km_L_44 kin_X3 kim_X3_frame ksl_X3_frame (by decide +kernel) rfl (by decide) (by decide) rfl (Nat.le_of_ble_eq_true rfl) dL_frame_5 (fun _ => kwo_adr _ _) (fun v9 u9 h9 => ?_) (fun E h9 => ?_)
  · obtain ⟨a, rfl⟩ := hv _ _ h9
    refine kg_i2l cx dL_frame_8 ?_
    refine kg_last cx (44 + n + n) 4 rfl kwo_at (pk_in 0 1 (by decide)) kwo_set dL_frame_9 ?_
    refine kg_goto cx 17 dL_frame_10 (by decide) ?_
    refine kg_iconst (v := 0) cx dL_frame_17 (by decide) ?_
    exact kg_ireturn cx hr rfl (u9, vp_updL f 0 a.toInt64) rfl (Or.inl ⟨a, rfl, h9, rfl⟩) dL_frame_18
  · cases hpe E h9
    refine ⟨[], ⟨0, 10, 13, 13⟩, [], sA, htab, (fun z hz => by cases hz), by decide, by decide, cx.2.2.2.2.1 _ kcl_L_13, kl_cast cx kl_cA, fun q => ?_⟩
    refine kg_astore cx dL_frame_13 (by decide) ?_
    refine kg_iconst (v := 1) cx dL_frame_15 (by decide) ?_
    exact kg_ireturn cx hr rfl (u, f) rfl (Or.inr ⟨sA, h9, rfl, by rw [kcode_A]⟩) dL_frame_16
set_option maxHeartbeats 4000000 in
set_option maxRecDepth 100000 in
theorem w_log (l : Launch) (D : va_G) (c : Nat → ClassId) (ad : Nat → Nat → Nat) (n o : Nat) (u : kS) (f : Nat → Int64) (x0 x1 : Int32) {post : Option Value → kS → Prop} {pe : String → Prop} (hM : kX l D c ad n yX3_log (Cond.code yX3_log cX3_log 3 (some .int)) 7 103 2 12 u [.ref (ad 0 0), .int x0, .int x1] post pe) (hv : ∀ v u9, post v u9 → ∃ a, v = some (.int a)) (hpe : ∀ E, pe E → E = sA) : kl l yL_log (Cond.codeWith yL_log cL_log 5 (some .int) [(0, 10, 13, 13)]) 8 125 2 12 D (kty c) (kwo ad c n o u f) [.ref (ad 0 0), .int x0, .int x1, .ref o] (fun q : kS × (Nat → Int64) => kwo ad c n o q.1 q.2) (kWp u post pe) := by
  refine kl.mk (by decide) (by simp [Value.category]) (Nat.le_of_ble_eq_true rfl) ?_
  intro p e s m args below meth c9 cx hr hZ hY htab
  refine kg_aload_n cx dL_log_0 rfl ?_
  refine kg_iconst (v := 0) cx dL_log_1 (by decide) ?_
  refine kg_aload_n cx dL_log_2 rfl ?_
  refine kg_iload_n cx dL_log_3 rfl ?_
  refine kg_iload_n cx dL_log_4 rfl ?_
  refine kl_try (ci := 3) (na := 2) cx hZ hY (kwo_x hM o f) 0 rfl kwo_0 kcd_X3_log km_L_47 kin_X3 kim_X3_log ksl_X3_log (by decide +kernel) rfl (by decide) (by decide) rfl (Nat.le_of_ble_eq_true rfl) dL_log_5 (fun _ => kwo_adr _ _) (fun v9 u9 h9 => ?_) (fun E h9 => ?_)
  · obtain ⟨a, rfl⟩ := hv _ _ h9
    refine kg_i2l cx dL_log_8 ?_
    refine kg_last cx (44 + n + n) 4 rfl kwo_at (pk_in 0 1 (by decide)) kwo_set dL_log_9 ?_
    refine kg_goto cx 17 dL_log_10 (by decide) ?_
    refine kg_iconst (v := 0) cx dL_log_17 (by decide) ?_
    exact kg_ireturn cx hr rfl (u9, vp_updL f 0 a.toInt64) rfl (Or.inl ⟨a, rfl, h9, rfl⟩) dL_log_18
  · cases hpe E h9
    refine ⟨[], ⟨0, 10, 13, 13⟩, [], sA, htab, (fun z hz => by cases hz), by decide, by decide, cx.2.2.2.2.1 _ kcl_L_13, kl_cast cx kl_cA, fun q => ?_⟩
    refine kg_astore cx dL_log_13 (by decide) ?_
    refine kg_iconst (v := 1) cx dL_log_15 (by decide) ?_
    exact kg_ireturn cx hr rfl (u, f) rfl (Or.inr ⟨sA, h9, rfl, by rw [kcode_A]⟩) dL_log_16
set_option maxHeartbeats 4000000 in
set_option maxRecDepth 100000 in
theorem w_count (l : Launch) (D : va_G) (c : Nat → ClassId) (ad : Nat → Nat → Nat) (n o : Nat) (u : kS) (f : Nat → Int64) (x0 : Int32) {post : Option Value → kS → Prop} {pe : String → Prop} (hM : kX l D c ad n yX3_count (Cond.code yX3_count cX3_count 2 (some .int)) 6 82 1 6 u [.ref (ad 0 0), .int x0] post pe) (hv : ∀ v u9, post v u9 → ∃ a, v = some (.int a)) (hpe : ∀ E, pe E → E = sA) : kl l yL_count (Cond.codeWith yL_count cL_count 4 (some .int) [(0, 9, 12, 13)]) 7 103 1 6 D (kty c) (kwo ad c n o u f) [.ref (ad 0 0), .int x0, .ref o] (fun q : kS × (Nat → Int64) => kwo ad c n o q.1 q.2) (kWp u post pe) := by
  refine kl.mk (by decide) (by simp [Value.category]) (Nat.le_of_ble_eq_true rfl) ?_
  intro p e s m args below meth c9 cx hr hZ hY htab
  refine kg_aload_n cx dL_count_0 rfl ?_
  refine kg_iconst (v := 0) cx dL_count_1 (by decide) ?_
  refine kg_aload_n cx dL_count_2 rfl ?_
  refine kg_iload_n cx dL_count_3 rfl ?_
  refine kl_try (ci := 3) (na := 1) cx hZ hY (kwo_x hM o f) 0 rfl kwo_0 kcd_X3_count km_L_50 kin_X3 kim_X3_count ksl_X3_count (by decide +kernel) rfl (by decide) (by decide) rfl (Nat.le_of_ble_eq_true rfl) dL_count_4 (fun _ => kwo_adr _ _) (fun v9 u9 h9 => ?_) (fun E h9 => ?_)
  · obtain ⟨a, rfl⟩ := hv _ _ h9
    refine kg_i2l cx dL_count_7 ?_
    refine kg_last cx (44 + n + n) 4 rfl kwo_at (pk_in 0 1 (by decide)) kwo_set dL_count_8 ?_
    refine kg_goto cx 15 dL_count_9 (by decide) ?_
    refine kg_iconst (v := 0) cx dL_count_15 (by decide) ?_
    exact kg_ireturn cx hr rfl (u9, vp_updL f 0 a.toInt64) rfl (Or.inl ⟨a, rfl, h9, rfl⟩) dL_count_16
  · cases hpe E h9
    refine ⟨[], ⟨0, 9, 12, 13⟩, [], sA, htab, (fun z hz => by cases hz), by decide, by decide, cx.2.2.2.2.1 _ kcl_L_13, kl_cast cx kl_cA, fun q => ?_⟩
    refine kg_astore_n cx dL_count_12 (by decide) ?_
    refine kg_iconst (v := 1) cx dL_count_13 (by decide) ?_
    exact kg_ireturn cx hr rfl (u, f) rfl (Or.inr ⟨sA, h9, rfl, by rw [kcode_A]⟩) dL_count_14
