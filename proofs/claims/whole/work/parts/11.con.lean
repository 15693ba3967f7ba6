section KC
/-- where a method starts: its arguments, its world, the tables -/
def kc_P (D : va_G) (tys : List (ClassId × FieldType)) (w : va_W) (sz : Nat) (av : List Value) : Array Value → State → Prop := va_Pc av (fun U => U.heap.size = sz ∧ va_P D vwCl w U.heap ∧ va_K D vwCl tys U ∧ va_D (fun _ => True) w ∧ kN U)
theorem kc_P.blind {D : va_G} {tys : List (ClassId × FieldType)} {w : va_W} {sz : Nat} {av : List Value} : FrameBlind (kc_P D tys w sz av) := by
  intro a U g mk q
  obtain ⟨q0, q1, qP, qK, qD, qN⟩ := q
  exact ⟨q0, q1, qP, va_K.moved (u := U) (U := U.calling g mk a) (Vm.Alike.refl U.vm) qK, qD, kN_same (s := U) (U := U.calling g mk a) rfl qN⟩
/-- where it ends: the answer and the new world by 'post', nothing but its cells changed -/
def kc_Q {S : Type} (wo : S → va_W) (D : va_G) (post : Option Value → S → Prop) (A : Nat → Prop) : Array Value → State → Outcome → State → Prop := fun _ st oc t => (∃ (v : Option Value) (u : S), oc = .returned v ∧ post v u ∧ va_P D vwCl (wo u) t.heap) ∧ va_F A st t
abbrev kc_rm (fr lc : Nat) : Room := { frames := fr, cells := 0, slots := 0, locals := lc }
/-- a method's contract: from any heap that holds the world w it returns, and makes nothing -/
def kc (l : Launch) (y : MethodName) (cd : Cond) (fr lc : Nat) (D : va_G) (tys : List (ClassId × FieldType)) (w : va_W) (av : List Value) {S : Type} (wo : S → va_W) (post : Option Value → S → Prop) : Prop :=
  ∀ sz : Nat, Met l y (cd :: kT) (kc_rm fr lc) (kc_P D tys w sz av) (kc_Q wo D post (va_A w sz)) 0 0 (va_A w sz)
/-- the locals at a method's start -/
def kg_in (av : List Value) (nL : Nat) : List (Option Value) := av.map some ++ List.replicate (nL - av.length) none
theorem lg_len1 : ∀ (av : List Value), (∀ v ∈ av, v.category = 1) → (lg_sl av).length = av.length
  | [], _ => rfl
  | v :: t, h => by
    have h1 := h v List.mem_cons_self
    have h2 := lg_len1 t (fun w hw => h w (List.mem_cons_of_mem _ hw))
    simp only [lg_sl, List.flatMap_cons, List.length_append] at h2 ⊢
    rw [h2]
    simp [h1]
    omega
theorem lv_args1 : ∀ (av : List Value) (k : Nat), (∀ v ∈ av, v.category = 1) → ∀ (i : Nat) (v : Value), av[i]? = some v → (k + i, v) ∈ lv_args k av
  | [], k, _, i, v, hi => by simp at hi
  | w :: t, k, h, i, v, hi => by
    have h1 := h w List.mem_cons_self
    cases i with
    | zero =>
      rw [List.getElem?_cons_zero] at hi
      cases hi
      exact List.mem_cons_self
    | succ j =>
      rw [List.getElem?_cons_succ] at hi
      have h2 := lv_args1 t (k + 1) (fun w hw => h w (List.mem_cons_of_mem _ hw)) j v hi
      have e : k + (j + 1) = k + 1 + j := by omega
      rw [e]
      unfold lv_args
      rw [if_neg (by omega)]
      exact List.mem_cons_of_mem _ h2
theorem kg_in_h {av : List Value} {nL : Nat} (hav : ∀ v ∈ av, v.category = 1) (hlen : av.length ≤ nL) : kg_h ((lg_sl av ++ List.replicate (nL - (lg_sl av).length) Slot.unset).toArray) nL (kg_in av nL) := by
  refine ⟨lv_args 0 av, lv_entry av (by rw [lg_len1 av hav]; exact hlen), fun i v hi => ?_⟩
  have h1 : av[i]? = some v := by
    unfold kg_in at hi
    by_cases hl : i < av.length
    · rw [List.getElem?_append_left (by simpa using hl)] at hi
      rw [List.getElem?_map] at hi
      cases hx : av[i]? with
      | none => rw [hx] at hi; cases hi
      | some x => rw [hx] at hi; cases hi; rfl
    · rw [List.getElem?_append_right (by simpa using Nat.not_lt.mp hl)] at hi
      rw [List.getElem?_replicate] at hi
      split at hi <;> cases hi
  have h2 := lv_args1 av 0 hav i v h1
  rw [Nat.zero_add] at h2
  exact ⟨h2, hav v (List.mem_of_getElem? h1)⟩
theorem kc.mk {l : Launch} {y : MethodName} {cc : ByteArray} {nL fr lc : Nat} {ret : Option FieldType} {D : va_G} {tys : List (ClassId × FieldType)} {w : va_W} {av : List Value} {S : Type} {wo : S → va_W} {post : Option Value → S → Prop}
    (hy : plainName y.cls = true) (hav : ∀ v ∈ av, v.category = 1) (hlen : av.length ≤ nL)
    (body : ∀ (p : Program) (e : Env) (s : State) (m : MethodId) (args : Array Value) (below : List Frame) (meth : Method) (c : Code), kg_c p s m args meth c cc nL y.cls D tys (va_A w s.heap.size) → meth.sig.returnType = ret →
      kg p l e (kc_rm fr lc) s m args below meth c nL D (va_A w s.heap.size) (MQ below (kc_Q wo D post (va_A w s.heap.size)) args s 0 0 (va_A w s.heap.size)) 0 0 w 0 (kg_in av nL) []) :
    kc l y (Cond.code y cc nL ret) fr lc D tys w av wo post := by
  intro sz
  refine Met.ofW (cc := cc) (maxL := nL) (ret := ret) hy rfl ?_
  intro p e s m args below meth c s₁ B hml hv
  obtain ⟨rfl, hsz, hP, hK, hD0, hN⟩ := hv
  subst hsz
  have hts := atoms_spec (ws := Cond.code y cc nL ret :: kT) B.pre
  rw [lg_entry_eq]
  exact body p e s m _ below meth c ⟨B.exec, B.bytes, hml, findClass_of_methodNamed B.named, fun w9 h9 => hts w9 (List.mem_cons_of_mem _ h9), hK, fun q h => Or.inr h, B.notSynchronized, hN⟩ B.returns s.heap [] _ hP hD0.self va_S.rf (kg_in_h hav hlen)
theorem va_D_adr {A : Nat → Prop} {w w9 : va_W} (h : w9.map Prod.fst = w.map Prod.fst) (hD : va_D A w) : va_D A w9 := by
  have key : ∀ (k : Nat) (q : Nat × va_E), w9[k]? = some q → ∃ q0, w[k]? = some q0 ∧ q0.1 = q.1 := by
    intro k q hk
    have h1 : (w9.map Prod.fst)[k]? = some q.1 := by rw [List.getElem?_map, hk]; rfl
    rw [h, List.getElem?_map] at h1
    cases hx : w[k]? with
    | none => rw [hx] at h1; cases h1
    | some x => rw [hx] at h1; exact ⟨x, rfl, Option.some.inj h1⟩
  refine ⟨fun i j x y hi hj hxy => ?_, fun k q hk => ?_⟩
  · obtain ⟨x0, a1, a2⟩ := key i x hi
    obtain ⟨y0, b1, b2⟩ := key j y hj
    exact hD.1 i j x0 y0 a1 b1 (a2.trans (hxy.trans b2.symm))
  · obtain ⟨q0, a1, a2⟩ := key k q hk
    rw [← a2]
    exact hD.2 k q0 a1
variable {p : Program} {l : Launch} {e : Env} {R : Room} {s : State} {m : MethodId} {args : Array Value} {below : List Frame} {meth : Method} {c : Code} {cells slots : Nat} {Q : State → Prop}
variable {cc : ByteArray} {nL : Nat} {own : String} {D : va_G} {tys : List (ClassId × FieldType)} {A : Nat → Prop} {ws : va_W} {pc : Nat} {lo : List (Option Value)} {st : List Value}
theorem va_A_in {A : Nat → Prop} {ws : va_W} {H0 H : Heap} {locs : List Loc} (hD : va_D A ws) (hS : va_S A H0 H locs) (hA : ∀ q : Nat, H0.size ≤ q → A q) : ∀ q, va_A ws H.size q → A q := by
  intro q h
  rcases h with ⟨k, e9, h⟩ | h
  · exact hD.2 k (q, e9) h
  · exact hA q (Nat.le_trans hS.1 h)
/-- behind a call that had the whole world -/
theorem kg_run {S : Type} {wo : S → va_W} {post : Option Value → S → Prop} {rest : List Value} {a : Array Value} (cx : kg_c p s m args meth c cc nL own D tys A)
    (hrun : ∀ (H : Heap) (locs : List Loc) (ls : Array Slot), va_P D vwCl ws H → va_D A ws → va_S A s.heap H locs → kg_h ls nL lo → va_Run p l e R s m args below meth c H locs cells slots 0 0 (F0 m pc ls st) rest (kc_Q wo D post (va_A ws H.size) a) (va_A ws H.size))
    (hadr : ∀ u, (wo u).map Prod.fst = ws.map Prod.fst)
    (kk : ∀ (v : Option Value) (u : S), post v u → kg p l e R s m args below meth c nL D A Q cells slots (wo u) (pc + 3) lo (v.toList ++ rest)) : kg p l e R s m args below meth c nL D A Q cells slots ws pc lo st := by
  intro H locs ls hP hD hS hl T hT X
  obtain ⟨v, st₀, t, T', L, h0, X', hL, e1, e2, ⟨⟨v', u, hv, hp, hb⟩, hF⟩, st9⟩ := hrun H locs ls hP hD hS hl T hT X
  cases hv
  have hf := va_A_in hD hS cx.2.2.2.2.2.2.1
  obtain ⟨k1, k2, k3⟩ := vx_keep h0 e1 hS (fun q _ h => hf q h) hf hL hF
  obtain ⟨t2, a1, b1⟩ := kk v u hp T'.heap (locs ++ L) ls (by rw [e1]; exact hb) (va_D_adr (hadr u) hD) k3 hl T' rfl X'
  exact ⟨t2, st9 t2 a1, b1⟩
theorem kc_pre (cx : kg_c p s m args meth c cc nL own D tys A) {H : Heap} {av : List Value} (hP : va_P D vwCl ws H) (hD : va_D A ws) : ∀ U : State, U.heap = H → s.WarmedH U.vm → kc_P D tys ws H.size av av.toArray U := by
  intro U hU hW
  exact ⟨rfl, by rw [hU], by rw [hU]; exact hP, va_K.moved hW.alike cx.2.2.2.2.2.1, hD.weaken (fun _ _ _ _ => trivial), kN_moved hW cx.2.2.2.2.2.2.2.2⟩
theorem kc_room {k : Nat} {rest : List Value} {ls : Array Slot} (h : (rest.map fun v => v.category).sum ≤ 8) : 2 * (F0 m pc ls st).monitorRoom + (rest.map fun v => v.category).sum ≤ 8 := lv_room (rest := st) h
theorem kg_callV (cx : kg_c p s m args meth c cc nL own D tys A) {S : Type} {wo : S → va_W} {post : Option Value → S → Prop} {y : MethodName} {bytes : ByteArray} {maxL fr lc index ci N b na : Nat} {ret : Option FieldType} {C : String} {T : u_T} {fs As rest : List Value}
    (hM : kc l y (Cond.code y bytes maxL ret) fr lc D tys ws (.ref b :: As) wo post) (q0 : Nat) (hc : vwCl[ci]? = some (C, T, N)) (he : ws[q0]? = some (b, .inr (ci, fs)))
    (hcd : Cond.code y bytes maxL ret ∈ kT) (hlk : Cond.methodLink own index y ∈ kT) (hini : Cond.initialized y.cls ∈ kT) (him : Cond.instanceMethod y ∈ kT) (hsl : Cond.selects C y y ∈ kT)
    (hd9 : y.cls ≠ "java/lang/invoke/MethodHandle" ∧ y.cls ≠ "java/lang/invoke/VarHandle" ∧ (parseMethodDescriptor y.desc).map (fun d => d.parameters.length) = some na) (hna : As.length = na)
    (hR : fr + 1 ≤ R.frames ∧ 8 + (maxL + 11) + lc ≤ R.locals) (hf : cells ≤ R.cells ∧ slots ≤ R.slots) (hst : st = As.reverse ++ .ref b :: rest) (hw : (rest.map fun v => v.category).sum ≤ 8) (hd : decode cc pc = .ok (.invokevirtual index, 3))
    (hadr : ∀ u, (wo u).map Prod.fst = ws.map Prod.fst)
    (kk : ∀ (v : Option Value) (u : S), post v u → kg p l e R s m args below meth c nL D A Q cells slots (wo u) (pc + 3) lo (v.toList ++ rest)) : kg p l e R s m args below meth c nL D A Q cells slots ws pc lo st := by
  refine kg_run (a := (Value.ref b :: As).toArray) cx (fun H locs ls hP hD hS hl => ?_) hadr kk
  have ht := cx.2.2.2.2.1
  exact va_runV (Ts := kT) (C := C) (b := b) (As := As) (rest := rest) ⟨cx.1, cx.2.1, cx.2.2.1, cx.2.2.2.1, ht⟩ (hM H.size) ⟨callB_of (ws' := kT) na ht (kT_good hcd (List.mem_filter.mp hcd).2 (fun _ h => h)) rfl rfl rfl (ht _ hini) (ht _ hlk) hd9 hR, ht _ him, ht _ hsl⟩ ⟨kc_P.blind, va_recv cx.2.2.2.2.2.1 hP hc he, kc_pre cx hP hD⟩ rfl hna hl.size hst (lv_room (rest := st) hw) hd hf
theorem kg_callVN (cx : kg_c p s m args meth c cc nL own D tys A) {S : Type} {wo : S → va_W} {post : Option Value → S → Prop} {y : MethodName} {bytes : ByteArray} {maxL fr lc index ci N b na : Nat} {ret : Option FieldType} {C host : String} {T : u_T} {fs As rest : List Value}
    (hM : kc l y (Cond.code y bytes maxL ret) fr lc D tys ws (.ref b :: As) wo post) (q0 : Nat) (hc : vwCl[ci]? = some (C, T, N)) (he : ws[q0]? = some (b, .inr (ci, fs)))
    (hcd : Cond.code y bytes maxL ret ∈ kT) (hlk : va_Nw (Cond.methodLinkNest own index y host) s) (hini : Cond.initialized y.cls ∈ kT) (him : Cond.instanceMethod y ∈ kT) (hsl : Cond.selects C y y ∈ kT)
    (hd9 : y.cls ≠ "java/lang/invoke/MethodHandle" ∧ y.cls ≠ "java/lang/invoke/VarHandle" ∧ (parseMethodDescriptor y.desc).map (fun d => d.parameters.length) = some na) (hna : As.length = na)
    (hR : fr + 1 ≤ R.frames ∧ 8 + (maxL + 11) + lc ≤ R.locals) (hf : cells ≤ R.cells ∧ slots ≤ R.slots) (hst : st = As.reverse ++ .ref b :: rest) (hw : (rest.map fun v => v.category).sum ≤ 8) (hd : decode cc pc = .ok (.invokevirtual index, 3))
    (hadr : ∀ u, (wo u).map Prod.fst = ws.map Prod.fst)
    (kk : ∀ (v : Option Value) (u : S), post v u → kg p l e R s m args below meth c nL D A Q cells slots (wo u) (pc + 3) lo (v.toList ++ rest)) : kg p l e R s m args below meth c nL D A Q cells slots ws pc lo st := by
  refine kg_run (a := (Value.ref b :: As).toArray) cx (fun H locs ls hP hD hS hl => ?_) hadr kk
  have ht := cx.2.2.2.2.1
  exact va_runVN (Ts := kT) (C := C) (b := b) (As := As) (rest := rest) ⟨cx.1, cx.2.1, cx.2.2.1, cx.2.2.2.1, ht⟩ (hM H.size) ⟨va_cnB (ws' := kT) na ht (kT_good hcd (List.mem_filter.mp hcd).2 (fun _ h => h)) rfl rfl rfl hlk (ht _ hini) hd9 hR, ht _ him, ht _ hsl⟩ ⟨kc_P.blind, va_recv cx.2.2.2.2.2.1 hP hc he, kc_pre cx hP hD⟩ rfl hna hl.size hst (lv_room (rest := st) hw) hd hf
theorem kg_callS (cx : kg_c p s m args meth c cc nL own D tys A) {S : Type} {wo : S → va_W} {post : Option Value → S → Prop} {y : MethodName} {bytes : ByteArray} {maxL fr lc index na : Nat} {ret : Option FieldType} {As rest : List Value}
    (hM : kc l y (Cond.code y bytes maxL ret) fr lc D tys ws As wo post)
    (hcd : Cond.code y bytes maxL ret ∈ kT) (hlk : Cond.methodLink own index y ∈ kT) (hini : Cond.initialized y.cls ∈ kT) (hstt : Cond.static y ∈ kT)
    (hd9 : y.cls ≠ "java/lang/invoke/MethodHandle" ∧ y.cls ≠ "java/lang/invoke/VarHandle" ∧ (parseMethodDescriptor y.desc).map (fun d => d.parameters.length) = some na) (hna : As.length = na)
    (hR : fr + 1 ≤ R.frames ∧ 8 + (maxL + 11) + lc ≤ R.locals) (hf : cells ≤ R.cells ∧ slots ≤ R.slots) (hst : st = As.reverse ++ rest) (hw : (rest.map fun v => v.category).sum ≤ 8) (hd : decode cc pc = .ok (.invokestatic index, 3))
    (hadr : ∀ u, (wo u).map Prod.fst = ws.map Prod.fst)
    (kk : ∀ (v : Option Value) (u : S), post v u → kg p l e R s m args below meth c nL D A Q cells slots (wo u) (pc + 3) lo (v.toList ++ rest)) : kg p l e R s m args below meth c nL D A Q cells slots ws pc lo st := by
  refine kg_run (a := As.toArray) cx (fun H locs ls hP hD hS hl => ?_) hadr kk
  have ht := cx.2.2.2.2.1
  exact va_runS (Ts := kT) (As := As) (rest := rest) ⟨cx.1, cx.2.1, cx.2.2.1, cx.2.2.2.1, ht⟩ (hM H.size) ⟨callB_of (ws' := kT) na ht (kT_good hcd (List.mem_filter.mp hcd).2 (fun _ h => h)) rfl rfl rfl (ht _ hini) (ht _ hlk) hd9 hR, ht _ hstt⟩ ⟨kc_P.blind, kc_pre cx hP hD⟩ rfl hna hl.size hst (lv_room (rest := st) hw) hd hf
theorem kg_ireturn (cx : kg_c p s m args meth c cc nL own D tys A) {S : Type} {wo : S → va_W} {post : Option Value → S → Prop} {ty : FieldType} {v : Int32} (hr : meth.sig.returnType = some ty) (hn : narrow ty (.int v) = .int v) (u : S) (hu : ws = wo u) (hp : post (some (.int v)) u) (hd : decode cc pc = .ok (.ireturn, 1)) : kg p l e R s m args below meth c nL D A (MQ below (kc_Q wo D post A) args s cells slots A) cells slots ws pc lo [.int v] := by
  subst hu
  intro H locs ls hP hD hS hl
  exact W.zret cx.1 cx.2.1 hr hn (fun t ht hW => ⟨⟨_, u, rfl, hp, by rw [ht]; exact hP⟩, hS.F ht⟩) hS.2.2 hd cx.2.2.2.2.2.2.2.1
theorem kg_return (cx : kg_c p s m args meth c cc nL own D tys A) {S : Type} {wo : S → va_W} {post : Option Value → S → Prop} (hr : meth.sig.returnType = none) (u : S) (hu : ws = wo u) (hp : post none u) (hd : decode cc pc = .ok (.return_, 1)) : kg p l e R s m args below meth c nL D A (MQ below (kc_Q wo D post A) args s cells slots A) cells slots ws pc lo [] := by
  subst hu
  intro H locs ls hP hD hS hl
  exact W.vret cx.1 cx.2.1 hr (fun t ht hW => ⟨⟨_, u, rfl, hp, by rw [ht]; exact hP⟩, hS.F ht⟩) hS.2.2 hd cx.2.2.2.2.2.2.2.1
end KC
