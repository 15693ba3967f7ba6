section KF
variable {l : Launch} {y : MethodName} {cd : Cond} {fr lc mc ms : Nat} {D : va_G} {tys : List (ClassId × FieldType)} {w : va_W} {av : List Value} {S : Type} {wo : S → va_W} {post : Option Value → S → Prop} {pe : String → Prop}
theorem kf_at {pre w po : va_W} {k : Nat} {q : Nat × va_E} (h : w[k]? = some q) : (pre ++ (w ++ po))[pre.length + k]? = some q := by
  rw [List.getElem?_append_right (by omega), show pre.length + k - pre.length = k by omega, List.getElem?_append_left (List.getElem?_eq_some_iff.mp h).1]
  exact h
theorem kf_P {pre po : va_W} {H : Heap} (h : va_P D vwCl (pre ++ (w ++ po)) H) : va_P D vwCl w H := fun k q hk => h _ q (kf_at hk)
theorem kf_D {A : Nat → Prop} {pre po : va_W} (h : va_D A (pre ++ (w ++ po))) : va_D A w := ⟨fun i j p q hi hj e => by have := h.1 _ _ p q (kf_at hi) (kf_at hj) e; omega, fun k q hk => h.2 _ q (kf_at hk)⟩
theorem kf_A {pre po : va_W} {sz q : Nat} (h : va_A w sz q) : va_A (pre ++ (w ++ po)) sz q := by
  rcases h with ⟨k, e, h⟩ | h
  · exact Or.inl ⟨_, e, kf_at h⟩
  · exact Or.inr h
/-- what lies beside a callee's world is as it was -/
theorem kf_keep {A : Nat → Prop} {pre po w9 : va_W} {s t : State} (hP : va_P D vwCl (pre ++ (w ++ po)) s.heap) (hD : va_D A (pre ++ (w ++ po))) (hF : va_F (va_A w s.heap.size) s t) (h9 : va_P D vwCl w9 t.heap) : va_P D vwCl (pre ++ (w9 ++ po)) t.heap := by
  have hout : ∀ (i : Nat) (x : Nat × va_E), (pre ++ (w ++ po))[i]? = some x → (∀ k, pre.length + k = i → ¬ k < w.length) → t.heap[x.1]? = s.heap[x.1]? := by
    intro i x hi hn
    have hlt := (hP i x hi).lt
    refine hF.2 x.1 hlt ?_
    rintro (⟨k, e, hk⟩ | h)
    · have := hD.1 _ _ x (x.1, e) hi (kf_at hk) rfl
      exact hn k this.symm (List.getElem?_eq_some_iff.mp hk).1
    · omega
  have h1 : va_P D vwCl pre t.heap := by
    refine va_P.kept (H := s.heap) (fun k q hk => hP k q (by rw [List.getElem?_append_left (List.getElem?_eq_some_iff.mp hk).1]; exact hk)) (fun k q hk => ?_)
    have hl := (List.getElem?_eq_some_iff.mp hk).1
    exact hout k q (by rw [List.getElem?_append_left hl]; exact hk) (fun j hj _ => by omega)
  have e2 : ∀ k, (pre ++ (w ++ po))[pre.length + w.length + k]? = po[k]? := fun k => by
    rw [List.getElem?_append_right (by omega), List.getElem?_append_right (by omega)]
    congr 1
    omega
  have h2 : va_P D vwCl po t.heap := by
    refine va_P.kept (H := s.heap) (fun k q hk => hP _ q ((e2 k).trans hk)) (fun k q hk => ?_)
    exact hout _ q ((e2 k).trans hk) (fun j hj h => by omega)
  exact h1.app (h9.app h2)
theorem kf_F {A B : Nat → Prop} {s t : State} (h : va_F A s t) (hAB : ∀ q, A q → B q) : va_F B s t := ⟨h.1, fun q h1 h2 => h.2 q h1 (fun q9 => h2 (hAB q q9))⟩
/-- the frame rule -/
theorem kc_frame (h : kc l y cd fr lc D tys w av wo post) (pre po : va_W) : kc l y cd fr lc D tys (pre ++ (w ++ po)) av (fun u => pre ++ (wo u ++ po)) post := by
  intro sz p e ha hc hk s m args below hf happ hP hK
  obtain ⟨q0, q1, qP, qK, qD, qN⟩ := hP
  obtain ⟨n, o, h1, h2, h3, ⟨⟨v, u, hv, hp, hb⟩, hF⟩, L, hFE, hL⟩ := h sz p e ha hc hk s m args below hf happ ⟨q0, q1, kf_P qP, qK, kf_D qD, qN⟩ hK
  subst q1
  exact ⟨n, o, h1, h2, h3, ⟨⟨v, u, hv, hp, kf_keep qP qD hF hb⟩, kf_F hF (fun q => kf_A)⟩, L, hFE, fun q hq => kf_A (hL q hq)⟩
theorem kc_mono {post9 : Option Value → S → Prop} (h : kc l y cd fr lc D tys w av wo post) (hp9 : ∀ v u, post v u → post9 v u) : kc l y cd fr lc D tys w av wo post9 := by
  intro sz p e ha hc hk s m args below hf happ hP hK
  obtain ⟨n, o, h1, h2, h3, ⟨⟨v, u, hv, hp, hb⟩, hF⟩, L, hFE, hL⟩ := h sz p e ha hc hk s m args below hf happ hP hK
  exact ⟨n, o, h1, h2, h3, ⟨⟨v, u, hv, hp9 v u hp, hb⟩, hF⟩, L, hFE, hL⟩
theorem kx_frame (h : kx l y cd fr lc mc ms D tys w av wo post pe) (pre po : va_W) : kx l y cd fr lc mc ms D tys (pre ++ (w ++ po)) av (fun u => pre ++ (wo u ++ po)) post pe := by
  intro sz p e ha hc hk s m args below hf happ hP hK
  obtain ⟨q0, q1, qP, qK, qD, qN, qZ⟩ := hP
  obtain ⟨n, o, h1, h2, h3, h4⟩ := h sz p e ha hc hk s m args below hf happ ⟨q0, q1, kf_P qP, qK, kf_D qD, qN, qZ.narrow (fun q => kf_A)⟩ hK
  subst q1
  refine ⟨n, o, h1, h2, h3, ?_⟩
  rcases h4 with ⟨⟨⟨v, u, hv, hp, hb⟩, hF⟩, L, hFE, hL⟩ | ⟨q, ho, E, ce, L, ⟨x1, x2, x3⟩, x4, x5, x6, x7, x8, hL⟩
  · exact Or.inl ⟨⟨⟨v, u, hv, hp, kf_keep qP qD hF hb⟩, kf_F hF (fun q => kf_A)⟩, L, hFE, fun q hq => kf_A (hL q hq)⟩
  · exact Or.inr ⟨q, ho, E, ce, L, ⟨x1, kf_keep qP qD x3 x2, kf_F x3 (fun q => kf_A)⟩, x4, x5, x6, x7, x8, fun z hz => kf_A (hL z hz)⟩
/-- what the catching of the second handler needs -/
def kY (U : State) : Prop := va_Nc sS sA U
def kl_P (D : va_G) (tys : List (ClassId × FieldType)) (w : va_W) (sz : Nat) (av : List Value) : Array Value → State → Prop := va_Pc av (fun U => U.heap.size = sz ∧ va_P D vwCl w U.heap ∧ va_K D vwCl tys U ∧ va_D (fun _ => True) w ∧ kN U ∧ kZ (va_A w sz) U U.heap ∧ kY U)
theorem kl_P.blind {D : va_G} {tys : List (ClassId × FieldType)} {w : va_W} {sz : Nat} {av : List Value} : FrameBlind (kl_P D tys w sz av) := by
  intro a U g mk q
  obtain ⟨q0, q1, qP, qK, qD, qN, qZ, qY⟩ := q
  exact ⟨q0, q1, qP, va_K.moved (u := U) (U := U.calling g mk a) (Vm.Alike.refl U.vm) qK, qD, kN_same (s := U) (U := U.calling g mk a) rfl qN, kZ.moved (u := U) (U := U.calling g mk a) (Vm.Alike.refl U.vm) qZ, va_Nc.moved (u := U) (U := U.calling g mk a) (Vm.Alike.refl U.vm) qY⟩
/-- the contract of a helper of the law: it returns; what is thrown within it is caught there -/
def kl (l : Launch) (y : MethodName) (cd : Cond) (fr lc mc ms : Nat) (D : va_G) (tys : List (ClassId × FieldType)) (w : va_W) (av : List Value) {S : Type} (wo : S → va_W) (post : Option Value → S → Prop) : Prop :=
  ∀ sz : Nat, Met l y (cd :: kT) (kx_rm fr lc mc ms) (kl_P D tys w sz av) (kc_Q wo D post (va_A w sz)) mc ms (va_A w sz)
theorem kl_frame (h : kl l y cd fr lc mc ms D tys w av wo post) (pre po : va_W) : kl l y cd fr lc mc ms D tys (pre ++ (w ++ po)) av (fun u => pre ++ (wo u ++ po)) post := by
  intro sz p e ha hc hk s m args below hf happ hP hK
  obtain ⟨q0, q1, qP, qK, qD, qN, qZ, qY⟩ := hP
  obtain ⟨n, o, h1, h2, h3, ⟨⟨v, u, hv, hp, hb⟩, hF⟩, L, hFE, hL⟩ := h sz p e ha hc hk s m args below hf happ ⟨q0, q1, kf_P qP, qK, kf_D qD, qN, qZ.narrow (fun q => kf_A), qY⟩ hK
  subst q1
  exact ⟨n, o, h1, h2, h3, ⟨⟨v, u, hv, hp, kf_keep qP qD hF hb⟩, kf_F hF (fun q => kf_A)⟩, L, hFE, fun q hq => kf_A (hL q hq)⟩
theorem kl.mk {cc : ByteArray} {nL : Nat} {ret : Option FieldType} {hh : List (Nat × Nat × Nat × Nat)} (hy : plainName y.cls = true) (hav : ∀ v ∈ av, v.category = 1) (hlen : av.length ≤ nL)
    (body : ∀ (p : Program) (e : Env) (s : State) (m : MethodId) (args : Array Value) (below : List Frame) (meth : Method) (c : Code), kg_c p s m args meth c cc nL y.cls D tys (va_A w s.heap.size) → meth.sig.returnType = ret → kZ (va_A w s.heap.size) s s.heap → kY s → c.exceptionTable.toList = tableOf hh →
      kg p l e (kx_rm fr lc mc ms) s m args below meth c nL D (va_A w s.heap.size) (MQ below (kc_Q wo D post (va_A w s.heap.size)) args s mc ms (va_A w s.heap.size)) 0 0 w 0 (kg_in av nL) []) :
    kl l y (Cond.codeWith y cc nL ret hh) fr lc mc ms D tys w av wo post := by
  intro sz
  refine MetFree.of_bodyS (code := cc) (maxLocals := nL) (ret := ret) hy ?_ ?_
  · intro args s m h hn
    obtain ⟨m9, meth, c, hn9, h1, h2, h3, h4, -, h5, h6, -⟩ := Cond.codeWith_spec (atoms_spec (ws := Cond.codeWith y cc nL ret hh :: kT) h _ List.mem_cons_self)
    cases hn.symm.trans hn9
    exact ⟨meth, c, h1, h2, h3, h4, h5, h6⟩
  · intro p e s m args below meth c s₁ B hml hP _
    have hh0 : s₁.heap = s.heap := by rw [B.state]; rfl
    obtain ⟨rfl, hsz, qP, qK, qD, qN, qZ, qY⟩ := hP
    subst hsz
    have hts := atoms_spec (ws := Cond.codeWith y cc nL ret hh :: kT) B.pre
    have ht := vx_table (x := y) B (hts _ List.mem_cons_self)
    have key := body p e s m _ below meth c ⟨B.exec, B.bytes, hml, findClass_of_methodNamed B.named, fun w9 h9 => hts w9 (List.mem_cons_of_mem _ h9), qK, fun q h => Or.inr h, B.notSynchronized, qN⟩ B.returns qZ qY ht s.heap [] _ qP qD.self va_S.rf (kg_in_h hav hlen)
    rw [← lg_entry_eq] at key
    obtain ⟨t, a1, o, b1, b2, b3⟩ := key s₁ hh0 (Stand.of_body B)
    exact ⟨t, o, a1, b1, b2, b3⟩
end KF
section KFG
variable {p : Program} {l : Launch} {e : Env} {R : Room} {s : State} {m : MethodId} {args : Array Value} {below : List Frame} {meth : Method} {c : Code} {cells slots : Nat} {Q : State → Prop}
variable {cc : ByteArray} {nL : Nat} {own : String} {D : va_G} {tys : List (ClassId × FieldType)} {A : Nat → Prop} {ws : va_W} {pc : Nat} {lo : List (Option Value)} {st : List Value}
/-- behind a call that makes cells -/
theorem kg_runm {S : Type} {wo : S → va_W} {post : Option Value → S → Prop} {rest : List Value} {a : Array Value} {mc ms : Nat} (cx : kg_c p s m args meth c cc nL own D tys A)
    (hrun : ∀ (H : Heap) (locs : List Loc) (ls : Array Slot), va_P D vwCl ws H → va_D A ws → va_S A s.heap H locs → kg_h ls nL lo → va_Run p l e R s m args below meth c H locs cells slots mc ms (F0 m pc ls st) rest (kc_Q wo D post (va_A ws H.size) a) (va_A ws H.size))
    (hadr : ∀ u, (wo u).map Prod.fst = ws.map Prod.fst)
    (kk : ∀ (v : Option Value) (u : S), post v u → kg p l e R s m args below meth c nL D A Q (cells + mc) (slots + ms) (wo u) (pc + 3) lo (v.toList ++ rest)) : kg p l e R s m args below meth c nL D A Q cells slots ws pc lo st := by
  intro H locs ls hP hD hS hl T hT X
  obtain ⟨v, st₀, t, T', L, h0, X', hL, e1, e2, ⟨⟨v', u, hv, hp, hb⟩, hF⟩, st9⟩ := hrun H locs ls hP hD hS hl T hT X
  cases hv
  have hf := va_A_in hD hS cx.2.2.2.2.2.2.1
  obtain ⟨k1, k2, k3⟩ := vx_keep h0 e1 hS (fun q _ h => hf q h) hf hL hF
  obtain ⟨t2, a1, b1⟩ := kk v u hp T'.heap (locs ++ L) ls (by rw [e1]; exact hb) (va_D_adr (hadr u) hD) k3 hl T' rfl X'
  exact ⟨t2, st9 t2 a1, b1⟩
theorem kl_pre (cx : kg_c p s m args meth c cc nL own D tys A) (hZ : kZ A s s.heap) (hY : kY s) {H : Heap} {locs : List Loc} {av : List Value} (hP : va_P D vwCl ws H) (hD : va_D A ws) (hS : va_S A s.heap H locs) : ∀ U : State, U.heap = H → s.WarmedH U.vm → kl_P D tys ws H.size av av.toArray U := by
  intro U hU hW
  exact ⟨rfl, by rw [hU], by rw [hU]; exact hP, va_K.moved hW.alike cx.2.2.2.2.2.1, hD.weaken (fun _ _ _ _ => trivial), kN_moved hW cx.2.2.2.2.2.2.2.2, by rw [hU]; exact ((hZ.kept hS.2.1).moved hW.alike).narrow (va_A_in hD hS cx.2.2.2.2.2.2.1), va_Nc.moved hW.alike hY⟩
/-- a call of a helper of the law -/
theorem kl_callS (cx : kg_c p s m args meth c cc nL own D tys A) (hZ : kZ A s s.heap) (hY : kY s) {S : Type} {wo : S → va_W} {post : Option Value → S → Prop} {y : MethodName} {bytes : ByteArray} {maxL fr lc mc ms index na : Nat} {ret : Option FieldType} {hh : List (Nat × Nat × Nat × Nat)} {As rest : List Value}
    (hM : kl l y (Cond.codeWith y bytes maxL ret hh) fr lc mc ms D tys ws As wo post)
    (hcd : Cond.codeWith y bytes maxL ret hh ∈ kT) (hlk : Cond.methodLink own index y ∈ kT) (hini : Cond.initialized y.cls ∈ kT) (hstt : Cond.static y ∈ kT)
    (hd9 : y.cls ≠ "java/lang/invoke/MethodHandle" ∧ y.cls ≠ "java/lang/invoke/VarHandle" ∧ (parseMethodDescriptor y.desc).map (fun d => d.parameters.length) = some na) (hna : As.length = na)
    (hR : fr + 1 ≤ R.frames ∧ 8 + (maxL + 11) + lc ≤ R.locals) (hf : cells + mc ≤ R.cells ∧ slots + ms ≤ R.slots) (hst : st = As.reverse ++ rest) (hw : (rest.map fun v => v.category).sum ≤ 8) (hd : decode cc pc = .ok (.invokestatic index, 3))
    (hadr : ∀ u, (wo u).map Prod.fst = ws.map Prod.fst)
    (kk : ∀ (v : Option Value) (u : S), post v u → kg p l e R s m args below meth c nL D A Q (cells + mc) (slots + ms) (wo u) (pc + 3) lo (v.toList ++ rest)) : kg p l e R s m args below meth c nL D A Q cells slots ws pc lo st := by
  refine kg_runm (a := As.toArray) cx (fun H locs ls hP hD hS hl => ?_) hadr kk
  have ht := cx.2.2.2.2.1
  refine vx_runSW (Ts := kT) (As := As) (rest := rest) ⟨cx.1, cx.2.1, cx.2.2.1, cx.2.2.2.1, ht⟩ (hM H.size) (vx_cwSW (Ts := kT) na ht ?_ rfl rfl rfl hd9 hR) ⟨kl_P.blind, kl_pre cx hZ hY hP hD hS⟩ rfl hna hl.size hst (lv_room (rest := st) hw) hd hf
  intro w9 h9
  have hm : w9 ∈ kT := by
    unfold va_wsS at h9
    rcases List.mem_append.mp h9 with h | h
    · simp only [List.mem_cons, List.not_mem_nil, or_false] at h
      rcases h with rfl | rfl | rfl
      · exact hlk
      · exact hstt
      · exact hini
    · rcases List.mem_cons.mp h with rfl | h
      · exact hcd
      · exact h
  exact ⟨hm, good_of_word (List.mem_filter.mp hm).2⟩
/-- a call within a try -/
theorem kl_try (cx : kg_c p s m args meth c cc nL own D tys A) (hZ : kZ A s s.heap) (hY : kY s) {S : Type} {wo : S → va_W} {post : Option Value → S → Prop} {pe : String → Prop} {y : MethodName} {bytes : ByteArray} {maxL fr lc mc1 ms1 index ci N b na : Nat} {ret : Option FieldType} {C : String} {T : u_T} {fs As rest : List Value}
    (hM : kx l y (Cond.code y bytes maxL ret) fr lc mc1 ms1 D tys ws (.ref b :: As) wo post pe) (q0 : Nat) (hc : vwCl[ci]? = some (C, T, N)) (he : ws[q0]? = some (b, .inr (ci, fs)))
    (hcd : Cond.code y bytes maxL ret ∈ kT) (hlk : Cond.methodLink own index y ∈ kT) (hini : Cond.initialized y.cls ∈ kT) (him : Cond.instanceMethod y ∈ kT) (hsl : Cond.selects C y y ∈ kT)
    (hd9 : y.cls ≠ "java/lang/invoke/MethodHandle" ∧ y.cls ≠ "java/lang/invoke/VarHandle" ∧ (parseMethodDescriptor y.desc).map (fun d => d.parameters.length) = some na) (hna : As.length = na)
    (hR : fr + 1 ≤ R.frames ∧ 8 + (maxL + 11) + lc ≤ R.locals) (hf : cells + mc1 ≤ R.cells ∧ slots + ms1 ≤ R.slots) (hst : st = As.reverse ++ .ref b :: rest) (hw : (rest.map fun v => v.category).sum ≤ 8) (hd : decode cc pc = .ok (.invokevirtual index, 3))
    (hadr : ∀ u, (wo u).map Prod.fst = ws.map Prod.fst)
    (kk : ∀ (v : Option Value) (u : S), post v u → kg p l e R s m args below meth c nL D A Q (cells + mc1) (slots + ms1) (wo u) (pc + 3) lo (v.toList ++ rest))
    (kt : ∀ E, pe E → ∃ (pre : List ExceptionTableEntry) (x : ExceptionTableEntry) (suf : List ExceptionTableEntry) (name : String), c.exceptionTable.toList = pre ++ x :: suf ∧ (∀ z ∈ pre, covers z pc = false ∨ (z.catchType ≠ 0 ∧ ∃ nm : String, (Cond.classLink own z.catchType nm).before args s = true ∧ va_Nc E nm s)) ∧ covers x pc = true ∧ x.catchType ≠ 0 ∧ (Cond.classLink own x.catchType name).before args s = true ∧ (Cond.castable E name).before args s = true ∧ ∀ q : Nat, kg p l e R s m args below meth c nL D A Q (cells + mc1) (slots + ms1) ws x.handlerPc lo [.ref q]) :
    kg p l e R s m args below meth c nL D A Q cells slots ws pc lo st := by
  intro H locs ls hP hD hS hl T9 hT X
  have ht := cx.2.2.2.2.1
  have hf9 := va_A_in hD hS cx.2.2.2.2.2.2.1
  have hrun := vx_runV (p := p) (l := l) (e := e) (R := R) (below := below) (meth := meth) (locs := locs) (cells := cells) (slots := slots) (Ts := kT) (C := C) (b := b) (As := As) (rest := rest) (g := F0 m pc ls st) ⟨cx.1, cx.2.1, cx.2.2.1, cx.2.2.2.1, ht⟩ (hM H.size) ⟨callB_of (ws' := kT) na ht (kT_good hcd (List.mem_filter.mp hcd).2 (fun _ h => h)) rfl rfl rfl (ht _ hini) (ht _ hlk) hd9 hR, ht _ him, ht _ hsl⟩ ⟨kx_P.blind, va_recv cx.2.2.2.2.2.1 hP hc he, kx_pre cx hZ hP hD hS⟩ rfl hna hl.size hst (lv_room (rest := st) hw) hd hf
  rcases hrun T9 hT X with ⟨v, st₀, t, T', L, h0, X', hL, e1, e2, ⟨⟨v', u, hv, hp, hb⟩, hF⟩, st9⟩ | ⟨q, st₀, t, T', L, E, ce, h0, X', hL, e1, e2, ⟨hp, hb, hF⟩, hce, hcv, hcl, st9⟩
  · cases hv
    obtain ⟨k1, k2, k3⟩ := vx_keep h0 e1 hS (fun q _ h => hf9 q h) hf9 hL hF
    obtain ⟨t2, a1, b1⟩ := kk v u hp T'.heap (locs ++ L) ls (by rw [e1]; exact hb) (va_D_adr (hadr u) hD) k3 hl T' rfl X'
    exact ⟨t2, st9 t2 a1, b1⟩
  · obtain ⟨k1, k2, k3⟩ := vx_keep h0 e1 hS (fun q _ h => hf9 q h) hf9 hL hF
    obtain ⟨pre, x, suf, name, c1, c2, c3, c4, c5, c6, c7⟩ := kt E hp
    obtain ⟨t2, a1, b1⟩ := vx_catch (ls := ls) (rest := rest) (pc := pc) (H := T'.heap) cx.2.2.2.1 pre x suf c1 c2 c3 c4 c5 c6 (by rw [e1]; exact hce) hcv hcl (c7 q T'.heap (locs ++ L) ls (by rw [e1]; exact hb) hD k3 hl) T' rfl X'
    exact ⟨t2, st9.trans a1, b1⟩
end KFG
