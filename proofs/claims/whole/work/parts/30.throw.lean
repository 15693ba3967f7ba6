section KX
/-- what a throw needs of the statics of Throwable: null or some reference, outside of A -/
def kZ (A : Nat → Prop) (U : State) (H : Heap) : Prop := vx_Zq Bundle.tN "UNASSIGNED_STACK" Bundle.steD A U H ∧ vx_Zq Bundle.tN "SUPPRESSED_SENTINEL" Bundle.listD A U H
theorem kZ.moved {A : Nat → Prop} {u U : State} {H : Heap} (hvm : u.vm.Alike U.vm) (h : kZ A u H) : kZ A U H := ⟨h.1.moved hvm, h.2.moved hvm⟩
theorem kZ.kept {A : Nat → Prop} {U : State} {H H1 : Heap} (h : kZ A U H) (hq : ∀ a : Nat, a < H.size → ¬ A a → H1[a]? = H[a]?) : kZ A U H1 := ⟨h.1.kept hq, h.2.kept hq⟩
theorem kZ.narrow {A B : Nat → Prop} {U : State} {H : Heap} (h : kZ A U H) (hAB : ∀ q, B q → A q) : kZ B U H := ⟨h.1.narrow hAB, h.2.narrow hAB⟩
def kx_P (D : va_G) (tys : List (ClassId × FieldType)) (w : va_W) (sz : Nat) (av : List Value) : Array Value → State → Prop := va_Pc av (fun U => U.heap.size = sz ∧ va_P D vwCl w U.heap ∧ va_K D vwCl tys U ∧ va_D (fun _ => True) w ∧ kN U ∧ kZ (va_A w sz) U U.heap)
theorem kx_P.blind {D : va_G} {tys : List (ClassId × FieldType)} {w : va_W} {sz : Nat} {av : List Value} : FrameBlind (kx_P D tys w sz av) := by
  intro a U g mk q
  obtain ⟨q0, q1, qP, qK, qD, qN, qZ⟩ := q
  exact ⟨q0, q1, qP, va_K.moved (u := U) (U := U.calling g mk a) (Vm.Alike.refl U.vm) qK, qD, kN_same (s := U) (U := U.calling g mk a) rfl qN, kZ.moved (u := U) (U := U.calling g mk a) (Vm.Alike.refl U.vm) qZ⟩
/-- where a method has thrown E: that is told by pe, its world is as it was -/
def kx_X (pe : String → Prop) (D : va_G) (w : va_W) (A : Nat → Prop) : String → State → State → Prop := fun E st t => pe E ∧ va_P D vwCl w t.heap ∧ va_F A st t
abbrev kx_rm (fr lc mc ms : Nat) : Room := { frames := fr, cells := mc, slots := ms, locals := lc }
/-- the contract of a method that returns, or throws and leaves its world -/
def kx (l : Launch) (y : MethodName) (cd : Cond) (fr lc mc ms : Nat) (D : va_G) (tys : List (ClassId × FieldType)) (w : va_W) (av : List Value) {S : Type} (wo : S → va_W) (post : Option Value → S → Prop) (pe : String → Prop) : Prop :=
  ∀ sz : Nat, vx_Met l y (cd :: kT) (kx_rm fr lc mc ms) (kx_P D tys w sz av) (kc_Q wo D post (va_A w sz)) (kx_X pe D w (va_A w sz)) mc ms (va_A w sz)
theorem kx.mk {l : Launch} {y : MethodName} {cc : ByteArray} {nL fr lc mc ms : Nat} {ret : Option FieldType} {D : va_G} {tys : List (ClassId × FieldType)} {w : va_W} {av : List Value} {S : Type} {wo : S → va_W} {post : Option Value → S → Prop} {pe : String → Prop}
    (hy : plainName y.cls = true) (hav : ∀ v ∈ av, v.category = 1) (hlen : av.length ≤ nL)
    (body : ∀ (p : Program) (e : Env) (s : State) (m : MethodId) (args : Array Value) (below : List Frame) (meth : Method) (c : Code), kg_c p s m args meth c cc nL y.cls D tys (va_A w s.heap.size) → meth.sig.returnType = ret → kZ (va_A w s.heap.size) s s.heap → (∀ x ∈ c.exceptionTable.toList, False) →
      kg p l e (kx_rm fr lc mc ms) s m args below meth c nL D (va_A w s.heap.size) (vx_MQ below (kc_Q wo D post (va_A w s.heap.size)) (kx_X pe D w (va_A w s.heap.size)) args s mc ms (va_A w s.heap.size)) 0 0 w 0 (kg_in av nL) []) :
    kx l y (Cond.code y cc nL ret) fr lc mc ms D tys w av wo post pe := by
  intro sz
  refine vx_ofW (cc := cc) (maxL := nL) (ret := ret) hy rfl ?_
  intro p e s m args below meth c s₁ B hml hno hv
  obtain ⟨rfl, hsz, hP, hK, hD0, hN, hZ⟩ := hv
  subst hsz
  have hts := atoms_spec (ws := Cond.code y cc nL ret :: kT) B.pre
  rw [lg_entry_eq]
  exact body p e s m _ below meth c ⟨B.exec, B.bytes, hml, findClass_of_methodNamed B.named, fun w9 h9 => hts w9 (List.mem_cons_of_mem _ h9), hK, fun q h => Or.inr h, B.notSynchronized, hN⟩ B.returns hZ hno s.heap [] _ hP hD0.self va_S.rf (kg_in_h hav hlen)
variable {p : Program} {l : Launch} {e : Env} {R : Room} {s : State} {m : MethodId} {args : Array Value} {below : List Frame} {meth : Method} {c : Code} {cells slots : Nat}
variable {cc : ByteArray} {nL : Nat} {own : String} {D : va_G} {tys : List (ClassId × FieldType)} {A : Nat → Prop} {ws : va_W} {pc : Nat} {lo : List (Option Value)} {st : List Value}
variable {S0 : Type} {wo0 : S0 → va_W} {post0 : Option Value → S0 → Prop} {pe0 : String → Prop} {mc ms : Nat}
theorem kx_run {S : Type} {wo : S → va_W} {post : Option Value → S → Prop} {pe : String → Prop} {rest : List Value} {a : Array Value} {mc1 ms1 : Nat} (cx : kg_c p s m args meth c cc nL own D tys A) (hno : ∀ x ∈ c.exceptionTable.toList, False)
    (hrun : ∀ (H : Heap) (locs : List Loc) (ls : Array Slot), va_P D vwCl ws H → va_D A ws → va_S A s.heap H locs → kg_h ls nL lo → vx_Run p l e R s m args below meth c H locs cells slots mc1 ms1 (F0 m pc ls st) rest (kc_Q wo D post (va_A ws H.size) a) (kx_X pe D ws (va_A ws H.size)) (va_A ws H.size))
    (hadr : ∀ u, (wo u).map Prod.fst = ws.map Prod.fst) (hpe : ∀ E, pe E → pe0 E) (hmc : cells + mc1 ≤ mc ∧ slots + ms1 ≤ ms)
    (kk : ∀ (v : Option Value) (u : S), post v u → kg p l e R s m args below meth c nL D A (vx_MQ below (kc_Q wo0 D post0 A) (kx_X pe0 D ws A) args s mc ms A) (cells + mc1) (slots + ms1) (wo u) (pc + 3) lo (v.toList ++ rest)) :
    kg p l e R s m args below meth c nL D A (vx_MQ below (kc_Q wo0 D post0 A) (kx_X pe0 D ws A) args s mc ms A) cells slots ws pc lo st := by
  intro H locs ls hP hD hS hl T hT X
  have hf := va_A_in hD hS cx.2.2.2.2.2.2.1
  rcases hrun H locs ls hP hD hS hl T hT X with ⟨v, st₀, t, T', L, h0, X', hL, e1, e2, ⟨⟨v', u, hv, hp, hb⟩, hF⟩, st9⟩ | ⟨q, st₀, t, T', L, E, ce, h0, X', hL, e1, e2, ⟨hp, hb, hF⟩, hce, hcv, hcl, st9⟩
  · cases hv
    obtain ⟨k1, k2, k3⟩ := vx_keep h0 e1 hS (fun q _ h => hf q h) hf hL hF
    obtain ⟨t2, a1, b1⟩ := kk v u hp T'.heap (locs ++ L) ls (by rw [e1]; exact hb) (va_D_adr (hadr u) hD) k3 hl T' rfl X'
    exact ⟨t2, st9 t2 a1, b1⟩
  · obtain ⟨k1, k2, k3⟩ := vx_keep h0 e1 hS (fun q _ h => hf q h) hf hL hF
    obtain ⟨t2, a1, b1⟩ := vx_out (Qc := kc_Q wo0 D post0 A) (XC := kx_X pe0 D ws A) (free := A) (mc := mc) (ms := ms) (args := args) (ls := ls) (rest := rest) (pc := pc) (fun x hx => (hno x hx).elim) cx.2.2.2.2.2.2.2.1 (H := T'.heap) (by rw [e1]; exact hce) hcv hcl (fun t9 ht9 ha9 => ⟨hpe E hp, by rw [ht9, e1]; exact hb, k3.F ht9⟩) k3.2.2 hmc.1 hmc.2 T' rfl X'
    exact ⟨t2, st9.trans a1, b1⟩
theorem kx_pre (cx : kg_c p s m args meth c cc nL own D tys A) (hZ : kZ A s s.heap) {H : Heap} {locs : List Loc} {av : List Value} (hP : va_P D vwCl ws H) (hD : va_D A ws) (hS : va_S A s.heap H locs) : ∀ U : State, U.heap = H → s.WarmedH U.vm → kx_P D tys ws H.size av av.toArray U := by
  intro U hU hW
  exact ⟨rfl, by rw [hU], by rw [hU]; exact hP, va_K.moved hW.alike cx.2.2.2.2.2.1, hD.weaken (fun _ _ _ _ => trivial), kN_moved hW cx.2.2.2.2.2.2.2.2, by rw [hU]; exact ((hZ.kept hS.2.1).moved hW.alike).narrow (va_A_in hD hS cx.2.2.2.2.2.2.1)⟩
theorem kx_callV (cx : kg_c p s m args meth c cc nL own D tys A) (hZ : kZ A s s.heap) (hno : ∀ x ∈ c.exceptionTable.toList, False) {S : Type} {wo : S → va_W} {post : Option Value → S → Prop} {pe : String → Prop} {y : MethodName} {bytes : ByteArray} {maxL fr lc mc1 ms1 index ci N b na : Nat} {ret : Option FieldType} {C : String} {T : u_T} {fs As rest : List Value}
    (hM : kx l y (Cond.code y bytes maxL ret) fr lc mc1 ms1 D tys ws (.ref b :: As) wo post pe) (q0 : Nat) (hc : vwCl[ci]? = some (C, T, N)) (he : ws[q0]? = some (b, .inr (ci, fs)))
    (hcd : Cond.code y bytes maxL ret ∈ kT) (hlk : Cond.methodLink own index y ∈ kT) (hini : Cond.initialized y.cls ∈ kT) (him : Cond.instanceMethod y ∈ kT) (hsl : Cond.selects C y y ∈ kT)
    (hd9 : y.cls ≠ "java/lang/invoke/MethodHandle" ∧ y.cls ≠ "java/lang/invoke/VarHandle" ∧ (parseMethodDescriptor y.desc).map (fun d => d.parameters.length) = some na) (hna : As.length = na)
    (hR : fr + 1 ≤ R.frames ∧ 8 + (maxL + 11) + lc ≤ R.locals) (hf : cells + mc1 ≤ R.cells ∧ slots + ms1 ≤ R.slots) (hmc : cells + mc1 ≤ mc ∧ slots + ms1 ≤ ms) (hst : st = As.reverse ++ .ref b :: rest) (hw : (rest.map fun v => v.category).sum ≤ 8) (hd : decode cc pc = .ok (.invokevirtual index, 3))
    (hadr : ∀ u, (wo u).map Prod.fst = ws.map Prod.fst) (hpe : ∀ E, pe E → pe0 E)
    (kk : ∀ (v : Option Value) (u : S), post v u → kg p l e R s m args below meth c nL D A (vx_MQ below (kc_Q wo0 D post0 A) (kx_X pe0 D ws A) args s mc ms A) (cells + mc1) (slots + ms1) (wo u) (pc + 3) lo (v.toList ++ rest)) :
    kg p l e R s m args below meth c nL D A (vx_MQ below (kc_Q wo0 D post0 A) (kx_X pe0 D ws A) args s mc ms A) cells slots ws pc lo st := by
  refine kx_run (a := (Value.ref b :: As).toArray) cx hno (fun H locs ls hP hD hS hl => ?_) hadr hpe hmc kk
  have ht := cx.2.2.2.2.1
  exact vx_runV (Ts := kT) (C := C) (b := b) (As := As) (rest := rest) ⟨cx.1, cx.2.1, cx.2.2.1, cx.2.2.2.1, ht⟩ (hM H.size) ⟨callB_of (ws' := kT) na ht (kT_good hcd (List.mem_filter.mp hcd).2 (fun _ h => h)) rfl rfl rfl (ht _ hini) (ht _ hlk) hd9 hR, ht _ him, ht _ hsl⟩ ⟨kx_P.blind, va_recv cx.2.2.2.2.2.1 hP hc he, kx_pre cx hZ hP hD hS⟩ rfl hna hl.size hst (lv_room (rest := st) hw) hd hf
theorem kx_callS (cx : kg_c p s m args meth c cc nL own D tys A) (hZ : kZ A s s.heap) (hno : ∀ x ∈ c.exceptionTable.toList, False) {S : Type} {wo : S → va_W} {post : Option Value → S → Prop} {pe : String → Prop} {y : MethodName} {bytes : ByteArray} {maxL fr lc mc1 ms1 index na : Nat} {ret : Option FieldType} {As rest : List Value}
    (hM : kx l y (Cond.code y bytes maxL ret) fr lc mc1 ms1 D tys ws As wo post pe)
    (hcd : Cond.code y bytes maxL ret ∈ kT) (hlk : Cond.methodLink own index y ∈ kT) (hini : Cond.initialized y.cls ∈ kT) (hstt : Cond.static y ∈ kT)
    (hd9 : y.cls ≠ "java/lang/invoke/MethodHandle" ∧ y.cls ≠ "java/lang/invoke/VarHandle" ∧ (parseMethodDescriptor y.desc).map (fun d => d.parameters.length) = some na) (hna : As.length = na)
    (hR : fr + 1 ≤ R.frames ∧ 8 + (maxL + 11) + lc ≤ R.locals) (hf : cells + mc1 ≤ R.cells ∧ slots + ms1 ≤ R.slots) (hmc : cells + mc1 ≤ mc ∧ slots + ms1 ≤ ms) (hst : st = As.reverse ++ rest) (hw : (rest.map fun v => v.category).sum ≤ 8) (hd : decode cc pc = .ok (.invokestatic index, 3))
    (hadr : ∀ u, (wo u).map Prod.fst = ws.map Prod.fst) (hpe : ∀ E, pe E → pe0 E)
    (kk : ∀ (v : Option Value) (u : S), post v u → kg p l e R s m args below meth c nL D A (vx_MQ below (kc_Q wo0 D post0 A) (kx_X pe0 D ws A) args s mc ms A) (cells + mc1) (slots + ms1) (wo u) (pc + 3) lo (v.toList ++ rest)) :
    kg p l e R s m args below meth c nL D A (vx_MQ below (kc_Q wo0 D post0 A) (kx_X pe0 D ws A) args s mc ms A) cells slots ws pc lo st := by
  refine kx_run (a := As.toArray) cx hno (fun H locs ls hP hD hS hl => ?_) hadr hpe hmc kk
  have ht := cx.2.2.2.2.1
  exact vx_runS (Ts := kT) (As := As) (rest := rest) ⟨cx.1, cx.2.1, cx.2.2.1, cx.2.2.2.1, ht⟩ (hM H.size) ⟨callB_of (ws' := kT) na ht (kT_good hcd (List.mem_filter.mp hcd).2 (fun _ h => h)) rfl rfl rfl (ht _ hini) (ht _ hlk) hd9 hR, ht _ hstt⟩ ⟨kx_P.blind, kx_pre cx hZ hP hD hS⟩ rfl hna hl.size hst (lv_room (rest := st) hw) hd hf
/-- the superclasses of the two exceptions, up to Exception -/
abbrev kx_n : List String := ["java/lang/RuntimeException", "java/lang/Exception"]
/-- 'throw new E()', in the world with which the method began -/
theorem kx_throw (cx : kg_c p s m args meth c cc nL own D tys A) (hZ : kZ A s s.heap) (hno : ∀ x ∈ c.exceptionTable.toList, False) (hl : l.stackTraces = false) {cls : String} {ik ic : Nat}
    (hcls : Bundle.fit cls = true) (hnames : ∀ n ∈ kx_n, Bundle.fit n = true) (hik : Cond.classLink own ik cls ∈ kT) (hini : Cond.initialized cls ∈ kT) (hg : ∀ w ∈ (vx_at0 own ic cls kx_n).filter goodWord, w ∈ kT) (hb : ∀ w ∈ (vx_at0 own ic cls kx_n).filter (fun w => !goodWord w), w ∈ tables_1 ∧ kN_is w = true ∧ w.onTables = true)
    (hgood : ∀ w ∈ Cond.classLink own ik cls :: Cond.initialized cls :: vx_at0 own ic cls kx_n, vx_ot w = true)
    (d0 : decode cc pc = .ok (.new ik, 3)) (d3 : decode cc (pc + 3) = .ok (.dup, 1)) (d4 : decode cc (pc + 4) = .ok (.invokespecial ic, 3)) (d7 : decode cc (pc + 7) = .ok (.athrow, 1))
    (hR : 5 < R.frames ∧ (st.map fun v => v.category).sum + 81 ≤ R.locals) (hf : cells + 1 ≤ R.cells ∧ slots + 6 ≤ R.slots) (hmc : cells + 1 ≤ mc ∧ slots + 6 ≤ ms) (hpe : pe0 cls) :
    kg p l e R s m args below meth c nL D A (vx_MQ below (kc_Q wo0 D post0 A) (kx_X pe0 D ws A) args s mc ms A) cells slots ws pc lo st := by
  intro H locs ls hP hD hS hl9
  have ht := cx.2.2.2.2.1
  refine vx_throw0 (names := kx_n) cx.1 cx.2.1 hl cx.2.2.2.1 hcls hnames (ht _ hik) (ht _ hini) (fun w hw => ?_) hgood hZ.1 hZ.2 hS (hl9.size.trans cx.2.2.1.symm) d0 d3 d4 d7 (fun x hx => (hno x hx).elim) hR.1 hR.2 hf.1 hf.2 cx.2.2.2.2.2.2.2.1 (fun t ha h1 h2 => ⟨hpe, hP.kept (fun k q hk => h2 q.1 (hP k q hk).lt), ?_⟩) hS.2.2 hmc.1 hmc.2
  · by_cases g : goodWord w = true
    · exact ht _ (hg w (List.mem_filter.mpr ⟨hw, g⟩))
    · have h9 := hb w (List.mem_filter.mpr ⟨hw, by simpa using g⟩)
      exact va_Nw.use h9.2.2 (cx.2.2.2.2.2.2.2.2 w h9.1 h9.2.1)
  · exact ⟨Nat.le_trans hS.1 h1, fun q g1 g2 => by rw [h2 q (Nat.lt_of_lt_of_le g1 hS.1)]; exact hS.2.1 q g1 g2⟩
theorem kx_ireturn (cx : kg_c p s m args meth c cc nL own D tys A) {X : String → State → State → Prop} {S : Type} {wo : S → va_W} {post : Option Value → S → Prop} {ty : FieldType} {v : Int32} (hr : meth.sig.returnType = some ty) (hn : narrow ty (.int v) = .int v) (u : S) (hu : ws = wo u) (hp : post (some (.int v)) u) (hd : decode cc pc = .ok (.ireturn, 1)) (hmc : cells ≤ mc ∧ slots ≤ ms) : kg p l e R s m args below meth c nL D A (vx_MQ below (kc_Q wo D post A) X args s mc ms A) cells slots ws pc lo [.int v] := by
  subst hu
  intro H locs ls hP hD hS hl
  refine W.widen hmc.1 hmc.2 (vx_ret ?_)
  exact W.zret cx.1 cx.2.1 hr hn (fun t ht hW => ⟨⟨_, u, rfl, hp, by rw [ht]; exact hP⟩, hS.F ht⟩) hS.2.2 hd cx.2.2.2.2.2.2.2.1
theorem kx_return (cx : kg_c p s m args meth c cc nL own D tys A) {X : String → State → State → Prop} {S : Type} {wo : S → va_W} {post : Option Value → S → Prop} (hr : meth.sig.returnType = none) (u : S) (hu : ws = wo u) (hp : post none u) (hd : decode cc pc = .ok (.return_, 1)) (hmc : cells ≤ mc ∧ slots ≤ ms) : kg p l e R s m args below meth c nL D A (vx_MQ below (kc_Q wo D post A) X args s mc ms A) cells slots ws pc lo [] := by
  subst hu
  intro H locs ls hP hD hS hl
  refine W.widen hmc.1 hmc.2 (vx_ret ?_)
  exact W.vret cx.1 cx.2.1 hr (fun t ht hW => ⟨⟨_, u, rfl, hp, by rw [ht]; exact hP⟩, hS.F ht⟩) hS.2.2 hd cx.2.2.2.2.2.2.2.1
theorem kx_areturn (cx : kg_c p s m args meth c cc nL own D tys A) {X : String → State → State → Prop} {S : Type} {wo : S → va_W} {post : Option Value → S → Prop} {C : String} {a : Nat} (hr : meth.sig.returnType = some (.object C)) (u : S) (hu : ws = wo u) (hp : post (some (.ref a)) u) (hd : decode cc pc = .ok (.areturn, 1)) (hmc : cells ≤ mc ∧ slots ≤ ms) : kg p l e R s m args below meth c nL D A (vx_MQ below (kc_Q wo D post A) X args s mc ms A) cells slots ws pc lo [.ref a] := by
  subst hu
  intro H locs ls hP hD hS hl
  refine W.widen hmc.1 hmc.2 (vx_ret ?_)
  exact W.aret cx.1 cx.2.1 hr (Or.inl ⟨_, rfl⟩) (Or.inr ⟨_, rfl⟩) (fun t ht hW => ⟨⟨_, u, rfl, hp, by rw [ht]; exact hP⟩, hS.F ht⟩) hS.2.2 hd cx.2.2.2.2.2.2.2.1
end KX
theorem kx_gA : ∀ w ∈ (vx_at0 RX3 114 "java/lang/IllegalArgumentException" kx_n).filter goodWord, w ∈ kT := by
  have h : ∀ w ∈ (vx_at0 RX3 114 "java/lang/IllegalArgumentException" kx_n).filter goodWord, w ∈ lw_tbl := by decide +kernel
  exact fun w hw => List.mem_filter.mpr ⟨h w hw, (List.mem_filter.mp hw).2⟩
theorem kx_gS : ∀ w ∈ (vx_at0 RX3 172 "java/lang/IllegalStateException" kx_n).filter goodWord, w ∈ kT := by
  have h : ∀ w ∈ (vx_at0 RX3 172 "java/lang/IllegalStateException" kx_n).filter goodWord, w ∈ lw_tbl := by decide +kernel
  exact fun w hw => List.mem_filter.mpr ⟨h w hw, (List.mem_filter.mp hw).2⟩
theorem kx_bA : ∀ w ∈ (vx_at0 RX3 114 "java/lang/IllegalArgumentException" kx_n).filter (fun w => !goodWord w), w ∈ tables_1 ∧ kN_is w = true ∧ w.onTables = true := by decide +kernel
theorem kx_bS : ∀ w ∈ (vx_at0 RX3 172 "java/lang/IllegalStateException" kx_n).filter (fun w => !goodWord w), w ∈ tables_1 ∧ kN_is w = true ∧ w.onTables = true := by decide +kernel
theorem kx_oA : ∀ w ∈ Cond.classLink RX3 112 "java/lang/IllegalArgumentException" :: Cond.initialized "java/lang/IllegalArgumentException" :: vx_at0 RX3 114 "java/lang/IllegalArgumentException" kx_n, vx_ot w = true := by decide +kernel
theorem kx_oS : ∀ w ∈ Cond.classLink RX3 170 "java/lang/IllegalStateException" :: Cond.initialized "java/lang/IllegalStateException" :: vx_at0 RX3 172 "java/lang/IllegalStateException" kx_n, vx_ot w = true := by decide +kernel
theorem kx_f : ∀ n ∈ kx_n, Bundle.fit n = true := by decide +kernel
theorem kx_fA : Bundle.fit "java/lang/IllegalArgumentException" = true := by decide +kernel
theorem kx_fS : Bundle.fit "java/lang/IllegalStateException" = true := by decide +kernel
