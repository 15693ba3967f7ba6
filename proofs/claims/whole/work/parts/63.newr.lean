theorem va_AOA.moved {t : FieldType} {u U : State} (hvm : u.vm.Alike U.vm) (h : va_AOA t u) : va_AOA t U := by
  obtain ⟨comp, c, k, h1, h2, h3, h4, h5⟩ := arrayOver_specB h
  obtain ⟨k', hk', he⟩ := hvm.2.2 _ _ h3
  have hi : (U.vm.classes.findIdx? fun (x : Class) => match x.kind with | .array component _ => component == comp | _ => false) = some c := by
    have e0 : U.vm.bare = u.vm.bare := by first | exact hvm.bare_eq | exact hvm.bare_eq.symm
    have e1 := va_idx_bare U.vm comp
    have e2 := va_idx_bare u.vm comp
    rw [e0] at e1
    exact (e1.symm.trans e2).trans h2
  have hkind : k'.kind = .array comp (.array t) := by rw [he]; exact h4
  have f1 : U.vm.findClass (FieldType.array t).toString = some comp := by rw [hvm.findClass]; exact h1
  have f2 : U.vm.findClass ("[" ++ (FieldType.array t).toString) = some c := by rw [hvm.findClass]; exact h5
  unfold va_AOA Cond.before Cond.holds
  simp only [Cond.value]
  rw [f1, Option.bind_some]
  refine (congrArg (fun o : Option Nat => (o.bind (fun c => (U.vm.classes[c]?).map fun (k : Class) => match k.kind with | .array _ ty => decide (ty = FieldType.array t) && decide (U.vm.findClass ("[" ++ (FieldType.array t).toString) = some c) | _ => false) == some true)) hi).trans ?_
  simp [hk', hkind, f2]
section KNR
variable {p : Program} {l : Launch} {e : Env} {R : Room} {s : State} {m : MethodId} {args : Array Value} {below : List Frame} {meth : Method} {c : Code} {cells slots : Nat} {Q : State → Prop}
variable {cc : ByteArray} {nL : Nat} {own : String} {D : va_G} {tys : List (ClassId × FieldType)} {A : Nat → Prop} {ws : va_W} {pc : Nat} {lo : List (Option Value)} {st : List Value}
/-- a new array of numbers -/
theorem kg_newa (cx : kg_c p s m args meth c cc nL own D tys A) {atype : ArrayType} {ty : FieldType} {cA : ClassId} (t0 : Nat) (ht : tys[t0]? = some (cA, ty)) (hty : newarray.typeOf atype = ty) (harr : Cond.arrayClass ty ∈ kT) (hra : ∀ x, va_RA s x ty → s.vm.findClass ("[" ++ ty.toString) = some x) {n : Int32} {N' : Nat} (a0 : vp_A) (ha : ∀ cA : ClassId, vp_cell cA a0 = arrV cA N' (fun _ => defaultValue ty)) (hn : ¬ n < 0) (hN : n.toNatClampNeg = N') (hbytes : N' * componentBytes ty ≤ 536870912) (hf : cells + 1 ≤ R.cells ∧ slots + N' ≤ R.slots) (hd : decode cc pc = .ok (.newarray atype, 2))
    (kk : ∀ q : Nat, kg p l e R s m args below meth c nL D A Q (cells + 1) (slots + N') (ws ++ [(q, .inl (cA, a0))]) (pc + 2) lo (.ref q :: st)) : kg p l e R s m args below meth c nL D A Q cells slots ws pc lo (.int n :: st) := by
  intro H locs ls hP hD hS hl
  have hK := cx.2.2.2.2.2.1
  refine va_newa cx.1 cx.2.1 (by rw [hty]; exact cx.2.2.2.2.1 _ harr) hty hK hP hD hS cx.2.2.2.2.2.2.1 ha hn hN hbytes hf.1 hf.2 hd (fun q cB H1 hK1 hP1 hD1 hS1 => ?_)
  have e1 := hra _ (hK1.2 tys.length (cB, ty) (by rw [List.getElem?_append_right (Nat.le_refl _)]; simp)).2
  have e2 := hra _ (hK.2 t0 _ ht).2
  cases Option.some.inj (e1.symm.trans e2)
  exact kk q H1 locs ls hP1 hD1 hS1 hl
/-- a new object -/
theorem kg_newo (cx : kg_c p s m args meth c cc nL own D tys A) {C : String} {T : u_T} {N ci index : Nat} (hin : ∀ w ∈ u_ws C T N, w ∈ kT) (ty : Nat → FieldType) (hty : ∀ k, k < N → parseFieldDescriptor (T k).2.2.1 = some (ty k)) (hcl : Cond.classLink own index C ∈ kT) (hinst : Cond.instantiable C N ∈ kT) (hini : Cond.initialized C ∈ kT) (hc : vwCl[ci]? = some (C, T, N)) (fs : List Value) (hfs : ∀ j, j < N → defaultValue (ty j) = vp_V fs j) (hf : cells + 1 ≤ R.cells ∧ slots + N ≤ R.slots) (hd : decode cc pc = .ok (.new index, 3))
    (kk : ∀ q : Nat, kg p l e R s m args below meth c nL D A Q (cells + 1) (slots + N) (ws ++ [(q, .inr (ci, fs))]) (pc + 3) lo (.ref q :: st)) : kg p l e R s m args below meth c nL D A Q cells slots ws pc lo st := by
  intro H locs ls hP hD hS hl
  exact va_new cx.1 cx.2.1 cx.2.2.2.2.1 hin ty hty cx.2.2.2.1 (cx.2.2.2.2.1 _ hcl) (cx.2.2.2.2.1 _ hinst) (cx.2.2.2.2.1 _ hini) cx.2.2.2.2.2.1 hP hD hS cx.2.2.2.2.2.2.1 hc hfs hf.1 hf.2 hd (fun q H1 hP1 hD1 hS1 => kk q H1 locs ls hP1 hD1 hS1 hl)
/-- a new array of references -/
theorem kg_newq (cx : kg_c p s m args meth c cc nL own D tys A) {C : String} {index : Nat} {cA : ClassId} (t0 : Nat) (ht : tys[t0]? = some (cA, .object C)) (hcl : Cond.classLink own index C ∈ kT) (hover : va_AO C s) {n : Int32} {N' : Nat} (hn : ¬ n < 0) (hN : n.toNatClampNeg = N') (hbytes : N' * 4 ≤ 536870912) (hf : cells + 1 ≤ R.cells ∧ slots + N' ≤ R.slots) (hd : decode cc pc = .ok (.anewarray index, 3))
    (kk : ∀ q : Nat, kg p l e R s m args below meth c nL D A Q (cells + 1) (slots + N') (ws ++ [(q, .inl (cA, N', .inr (.inr (.inr (.inr (fun _ => none))))))]) (pc + 3) lo (.ref q :: st)) : kg p l e R s m args below meth c nL D A Q cells slots ws pc lo (.int n :: st) := by
  intro H locs ls hP hD hS hl
  have hK := cx.2.2.2.2.2.1
  refine va_newq cx.1 cx.2.1 cx.2.2.2.1 (cx.2.2.2.2.1 _ hcl) hover hK hP hD hS cx.2.2.2.2.2.2.1 hn hN hbytes hf.1 hf.2 hd (fun q cB H1 hK1 hP1 hD1 hS1 => ?_)
  obtain ⟨-, -, -, -, -, e1⟩ := (hK1.2 tys.length (cB, .object C) (by rw [List.getElem?_append_right (Nat.le_refl _)]; simp)).2
  obtain ⟨-, -, -, -, -, e2⟩ := (hK.2 t0 _ ht).2
  cases Option.some.inj (e1.symm.trans e2)
  exact kk q H1 locs ls hP1 hD1 hS1 hl
/-- new int[n][k] -/
theorem kg_mna (cx : kg_c p s m args meth c cc nL own D tys A) {index : Nat} {cA cI : ClassId} (t0 t1 : Nat) (ht : tys[t0]? = some (cA, .array .int)) (ht1 : tys[t1]? = some (cI, .int)) (hcl : Cond.classLink own index "[[I" ∈ kT) (hover : va_AOA .int s) (harr : Cond.arrayClass .int ∈ kT) {n k : Int32} {N' K' : Nat} (hn : ¬ n < 0) (hk : ¬ k < 0) (hN : n.toNatClampNeg = N') (hM : k.toNatClampNeg = K')
    (hb1 : N' * 4 ≤ 536870912) (hb2 : K' * componentBytes .int ≤ 536870912) (hb3 : K' ≤ 536870912) (hf : cells + (1 + N') ≤ R.cells ∧ slots + (N' + N' * K') ≤ R.slots) (hd : decode cc pc = .ok (.multianewarray index 2, 4))
    (kk : ∀ (q : Nat) (r : Nat → Nat), kg p l e R s m args below meth c nL D A Q (cells + 1 + N') (slots + N' + N' * K') ((ws ++ [(q, .inl (cA, N', .inr (.inr (.inr (.inr (fun i => if i < N' then some (r i) else none))))))]) ++ (List.range N').map (fun i => (r i, .inl (cI, K', .inl (fun _ => 0))))) (pc + 4) lo (.ref q :: st)) : kg p l e R s m args below meth c nL D A Q cells slots ws pc lo (.int k :: .int n :: st) := by
  intro H locs ls hP hD hS hl
  have hK := cx.2.2.2.2.2.1
  have e2 : s.vm.findClass ("[" ++ (FieldType.array .int).toString) = some cA := (hK.2 t0 _ ht).2
  have e3 : s.vm.findClass (FieldType.array .int).toString = some cI := (hK.2 t1 _ ht1).2
  refine va_mna (X := ws) (L := []) (f := fun _ => .inr (0, [])) (z := (K', .inl (fun _ => 0))) cx.1 cx.2.1 cx.2.2.2.1 (cx.2.2.2.2.1 _ hcl) hover (cx.2.2.2.2.1 _ harr) e3 hK (by show va_P D vwCl (ws ++ []) H; rw [List.append_nil]; exact hP) (by show va_D A (ws ++ []); rw [List.append_nil]; exact hD) hS cx.2.2.2.2.2.2.1 hn hk hN hM hb1 hb2 hb3 rfl rfl hf.1 hf.2 (fun cB => by rw [vp_cell_i]; exact arrV_new _ _ _) hd (fun q r cB H1 hinj hnl hK1 hP1 hD1 hS1 => ?_)
  have e1 : s.vm.findClass ("[" ++ (FieldType.array .int).toString) = some cB := (hK1.2 tys.length (cB, .array .int) (by rw [List.getElem?_append_right (Nat.le_refl _)]; simp)).2
  cases Option.some.inj (e1.symm.trans e2)
  have ew : va_pl ([] ++ (List.range N').map r) (vr_up (fun _ => .inr (0, [])) ((List.range N').map r) (.inl (cI, K', .inl (fun _ => 0)))) = (List.range N').map (fun i => (r i, .inl (cI, K', .inl (fun _ => 0)))) := by
    unfold va_pl
    rw [List.nil_append, List.map_map]
    refine List.map_congr_left (fun i hi => ?_)
    show (r i, vr_up _ _ _ (r i)) = _
    rw [vr_up_in (List.mem_map.mpr ⟨i, hi, rfl⟩)]
  rw [ew] at hP1 hD1
  exact kk q r H1 locs ls hP1 hD1 hS1 hl
/-- an object into an array -/
theorem kg_astq (cx : kg_c p s m args meth c cc nL own D tys A) (q0 t0 qk ci : Nat) {cA : ClassId} {r : vw_C} {a n v : Nat} {vs : List Value} {f : Nat → Option Nat} {ws9 : va_W} (ha : ws[q0]? = some (a, .inl (cA, n, .inr (.inr (.inr (.inr f)))))) (ht : tys[t0]? = some (cA, .object r.1)) (hv : ws[qk]? = some (v, .inr (ci, vs))) (hc : vwCl[ci]? = some r) {i : Int32} (hin : vp_in i n) (hset : ws.set q0 (a, .inl (cA, n, .inr (.inr (.inr (.inr (va_up f i.toNatClampNeg (some v))))))) = ws9) (hd : decode cc pc = .ok (.aastore, 1))
    (kk : kg p l e R s m args below meth c nL D A Q cells slots ws9 (pc + 1) lo st) : kg p l e R s m args below meth c nL D A Q cells slots ws pc lo (.ref v :: .int i :: .ref a :: st) := by
  intro H locs ls hP hD hS hl
  exact va_astq cx.1 cx.2.1 cx.2.2.2.2.2.1 hP hD hS q0 t0 qk ci ha ht hv hc hin hd (fun H1 locs1 hP1 hD1 hS1 => kk H1 locs1 ls (hset ▸ hP1) (hset ▸ hD1) hS1 hl)
/-- Object.<init> -/
theorem kg_objI (cx : kg_c p s m args meth c cc nL own D tys A) {idx a : Nat} (hlk : Cond.methodLink own idx objectInit ∈ kT) (hR : 1 ≤ R.frames ∧ (st.map fun v => v.category).sum + 12 ≤ R.locals) (hd : decode cc pc = .ok (.invokespecial idx, 3)) (kk : kg p l e R s m args below meth c nL D A Q cells slots ws (pc + 3) lo st) : kg p l e R s m args below meth c nL D A Q cells slots ws pc lo (.ref a :: st) := by
  intro H locs ls hP hD hS hl
  refine W.objInit cx.1 cx.2.1 cx.2.2.2.1 (cx.2.2.2.2.1 _ hlk) (cx.2.2.2.2.1 _ kim_objectInit) (cx.2.2.2.2.1 _ kcd_objectInit) rfl (hl.size.trans cx.2.2.1.symm) rfl hd hR.1 ?_ (kk H locs ls hP hD hS hl)
  have : (F0 m pc ls (Value.ref a :: st)).monitorRoom = 0 := rfl
  rw [this]
  have := hR.2
  omega
/-- the same cells in another order -/
theorem kg_perm {ws9 : va_W} (h : ws.Perm ws9) (kk : kg p l e R s m args below meth c nL D A Q cells slots ws9 pc lo st) : kg p l e R s m args below meth c nL D A Q cells slots ws pc lo st := by
  intro H locs ls hP hD hS hl
  refine kk H locs ls (fun k q hk => ?_) ?_ hS hl
  · obtain ⟨j, hj⟩ := List.getElem?_of_mem (h.mem_iff.mpr (List.mem_of_getElem? hk))
    exact hP j q hj
  · have hnd : (ws.map Prod.fst).Nodup := by
      refine List.pairwise_iff_getElem.mpr (fun i j hi hj hij he => ?_)
      rw [List.length_map] at hi hj
      rw [List.getElem_map, List.getElem_map] at he
      have := hD.1 i j ws[i] ws[j] (List.getElem?_eq_getElem hi) (List.getElem?_eq_getElem hj) he
      omega
    have hnd9 := ((h.map Prod.fst).nodup_iff).mp hnd
    refine ⟨fun i j x y hi hj hxy => ?_, fun k q hk => ?_⟩
    · have hi9 : (ws9.map Prod.fst)[i]? = some x.1 := by rw [List.getElem?_map, hi]; rfl
      have hj9 : (ws9.map Prod.fst)[j]? = some x.1 := by rw [List.getElem?_map, hj, hxy]; rfl
      exact (List.getElem?_inj (by rw [List.length_map]; exact (List.getElem?_eq_some_iff.mp hi).1) hnd9).mp (hi9.trans hj9.symm)
    · obtain ⟨j, hj⟩ := List.getElem?_of_mem (h.mem_iff.mpr (List.mem_of_getElem? hk))
      exact hD.2 j q hj
/-- an array's numbers, told by another function -/
theorem kg_cell {q0 a n : Nat} {cA : ClassId} {f g : Nat → Int32} {ws9 : va_W} (ha : ws[q0]? = some (a, .inl (cA, n, .inl f))) (hg : ∀ j, j < n → g j = f j) (hset : ws.set q0 (a, .inl (cA, n, .inl g)) = ws9) (kk : kg p l e R s m args below meth c nL D A Q cells slots ws9 pc lo st) : kg p l e R s m args below meth c nL D A Q cells slots ws pc lo st := by
  intro H locs ls hP hD hS hl
  subst hset
  have hce : vp_cell cA (n, .inl g) = vp_cell cA (n, .inl f) := by
    rw [vp_cell_i, vp_cell_i]
    unfold arrV
    congr 1
    apply Array.ext
    · simp
    · intro i h1 h2
      simp at h1
      simp [hg i h1]
  refine kk H locs ls (fun k q hk => ?_) (va_D_adr (k_set_adr ha) hD) hS hl
  by_cases e : k = q0
  · subst e
    rw [List.getElem?_set_self (List.getElem?_eq_some_iff.mp ha).1] at hk
    cases hk
    show H[a]? = some (vp_cell cA (n, .inl g))
    rw [hce]
    exact hP k _ ha
  · rw [List.getElem?_set_ne (Ne.symm e)] at hk
    exact hP k q hk
end KNR
section KNI
/-- what constructors need of the arrays' classes -/
def kOv (U : State) : Prop := va_AO RX0 U ∧ va_AOA .int U
theorem kOv.moved {u U : State} (hvm : u.vm.Alike U.vm) (h : kOv u) : kOv U := ⟨va_AO.moved hvm h.1, va_AOA.moved hvm h.2⟩
def ki_P (D : va_G) (tys : List (ClassId × FieldType)) (w : va_W) (sz : Nat) (av : List Value) : Array Value → State → Prop := va_Pc av (fun U => U.heap.size = sz ∧ va_P D vwCl w U.heap ∧ va_K D vwCl tys U ∧ va_D (fun _ => True) w ∧ kN U ∧ kOv U)
theorem ki_P.blind {D : va_G} {tys : List (ClassId × FieldType)} {w : va_W} {sz : Nat} {av : List Value} : FrameBlind (ki_P D tys w sz av) := by
  intro a U g mk q
  obtain ⟨q0, q1, qP, qK, qD, qN, qO⟩ := q
  exact ⟨q0, q1, qP, va_K.moved (u := U) (U := U.calling g mk a) (Vm.Alike.refl U.vm) qK, qD, kN_same (s := U) (U := U.calling g mk a) rfl qN, kOv.moved (u := U) (U := U.calling g mk a) (Vm.Alike.refl U.vm) qO⟩
def ki_Q {S : Type} (wo : S → va_W) (D : va_G) (post : S → Prop) (A : Nat → Prop) : Array Value → State → Outcome → State → Prop := fun _ st oc t => (∃ u : S, oc = .returned none ∧ post u ∧ va_P D vwCl (wo u) t.heap ∧ va_D A (wo u)) ∧ va_F A st t
/-- the contract of a constructor -/
def ki (l : Launch) (y : MethodName) (cd : Cond) (fr lc mc ms : Nat) (D : va_G) (tys : List (ClassId × FieldType)) (w : va_W) (av : List Value) {S : Type} (wo : S → va_W) (post : S → Prop) : Prop :=
  ∀ sz : Nat, Met l y (cd :: kT) (kx_rm fr lc mc ms) (ki_P D tys w sz av) (ki_Q wo D post (va_A w sz)) mc ms (va_A w sz)
variable {l : Launch} {y : MethodName} {fr lc mc ms : Nat} {D : va_G} {tys : List (ClassId × FieldType)} {w : va_W} {av : List Value} {S : Type} {wo : S → va_W} {post : S → Prop}
theorem ki.mk {cc : ByteArray} {nL : Nat} (hy : plainName y.cls = true) (hyn : y.name = "<init>") (hav : ∀ v ∈ av, v.category = 1) (hlen : av.length ≤ nL)
    (body : ∀ (p : Program) (e : Env) (s : State) (m : MethodId) (args : Array Value) (below : List Frame) (meth : Method) (c : Code), kg_c p s m args meth c cc nL y.cls D tys (va_A w s.heap.size) → meth.sig.returnType = none → meth.name = "<init>" → kOv s →
      kg p l e (kx_rm fr lc mc ms) s m args below meth c nL D (va_A w s.heap.size) (MQ below (ki_Q wo D post (va_A w s.heap.size)) args s mc ms (va_A w s.heap.size)) 0 0 w 0 (kg_in av nL) []) :
    ki l y (Cond.code y cc nL none) fr lc mc ms D tys w av wo post := by
  intro sz
  refine Met.ofW (cc := cc) (maxL := nL) (ret := none) hy rfl ?_
  intro p e s m args below meth c s₁ B hml hv
  obtain ⟨rfl, hsz, hP, hK, hD0, hN, hO⟩ := hv
  subst hsz
  have hts := atoms_spec (ws := Cond.code y cc nL none :: kT) B.pre
  have hin : meth.name = "<init>" := ((name_of_methodNamed B.named B.method).1).trans hyn
  rw [lg_entry_eq]
  exact body p e s m _ below meth c ⟨B.exec, B.bytes, hml, findClass_of_methodNamed B.named, fun w9 h9 => hts w9 (List.mem_cons_of_mem _ h9), hK, fun q h => Or.inr h, B.notSynchronized, hN⟩ B.returns hin hO s.heap [] _ hP hD0.self va_S.rf (kg_in_h hav hlen)
/-- the frame rule for a constructor: its object is the last of the cells -/
theorem ki_frame {cd : Cond} (h : ki l y cd fr lc mc ms D tys w av wo post) (pre : va_W) : ki l y cd fr lc mc ms D tys (pre ++ w) av (fun u => pre ++ wo u) post := by
  intro sz p e ha hc hk s m args below hf happ hP hK
  obtain ⟨q0, q1, qP, qK, qD, qN, qO⟩ := hP
  have qP' : va_P D vwCl (pre ++ (w ++ [])) s.heap := by rw [List.append_nil]; exact qP
  have qD' : va_D (fun _ => True) (pre ++ (w ++ [])) := by rw [List.append_nil]; exact qD
  obtain ⟨n, o, h1, h2, h3, ⟨⟨u, hv, hp, hb, hbD⟩, hF⟩, L, hFE, hL⟩ := h sz p e ha hc hk s m args below hf happ ⟨q0, q1, kf_P qP', qK, kf_D qD', qN, qO⟩ hK
  subst q1
  have hsub : ∀ q, va_A w s.heap.size q → va_A (pre ++ w) s.heap.size q := fun q hq => by
    have := kf_A (pre := pre) (po := []) hq
    rw [List.append_nil] at this
    exact this
  have hb9 := kf_keep qP' qD' hF hb
  rw [List.append_nil] at hb9
  have hpre : ∀ (i : Nat) (x : Nat × va_E), pre[i]? = some x → (pre ++ w)[i]? = some x := fun i x hx => by rw [List.getElem?_append_left (List.getElem?_eq_some_iff.mp hx).1]; exact hx
  refine ⟨n, o, h1, h2, h3, ⟨⟨u, hv, hp, hb9, ?_⟩, kf_F hF hsub⟩, L, hFE, fun q hq => hsub _ (hL q hq)⟩
  refine va_D.app ⟨fun i j x y hi hj hxy => qD.1 i j x y (hpre i x hi) (hpre j y hj) hxy, fun k q hk => Or.inl ⟨k, q.2, hpre k q hk⟩⟩ ⟨hbD.1, fun k q hk => hsub _ (hbD.2 k q hk)⟩ ?_
  intro i j x z hi hj hxz
  rcases hbD.2 j z hj with ⟨k, e9, hk9⟩ | hk9
  · have hk' : (pre ++ w)[pre.length + k]? = some (z.1, e9) := by
      rw [List.getElem?_append_right (by omega), show pre.length + k - pre.length = k by omega]
      exact hk9
    have := qD.1 i (pre.length + k) x (z.1, e9) (hpre i x hi) hk' hxz
    have := (List.getElem?_eq_some_iff.mp hi).1
    omega
  · have := (qP i x (hpre i x hi)).lt
    omega
variable {p : Program} {e : Env} {R : Room} {s : State} {m : MethodId} {args : Array Value} {below : List Frame} {meth : Method} {c : Code} {cells slots : Nat} {Q : State → Prop}
variable {cc : ByteArray} {nL : Nat} {own : String} {A : Nat → Prop} {ws : va_W} {pc : Nat} {lo : List (Option Value)} {st : List Value}
theorem ki_pre (cx : kg_c p s m args meth c cc nL own D tys A) (hO : kOv s) {H : Heap} (hP : va_P D vwCl ws H) (hD : va_D A ws) : ∀ U : State, U.heap = H → s.WarmedH U.vm → ki_P D tys ws H.size av av.toArray U := by
  intro U hU hW
  exact ⟨rfl, by rw [hU], by rw [hU]; exact hP, va_K.moved hW.alike cx.2.2.2.2.2.1, hD.weaken (fun _ _ _ _ => trivial), kN_moved hW cx.2.2.2.2.2.2.2.2, kOv.moved hW.alike hO⟩
theorem ki_run {rest : List Value} {a : Array Value} (cx : kg_c p s m args meth c cc nL own D tys A)
    (hrun : ∀ (H : Heap) (locs : List Loc) (ls : Array Slot), va_P D vwCl ws H → va_D A ws → va_S A s.heap H locs → kg_h ls nL lo → va_Run p l e R s m args below meth c H locs cells slots mc ms (F0 m pc ls st) rest (ki_Q wo D post (va_A ws H.size) a) (va_A ws H.size))
    (kk : ∀ u : S, post u → kg p l e R s m args below meth c nL D A Q (cells + mc) (slots + ms) (wo u) (pc + 3) lo rest) : kg p l e R s m args below meth c nL D A Q cells slots ws pc lo st := by
  intro H locs ls hP hD hS hl T hT X
  obtain ⟨v, st₀, t, T', L, h0, X', hL, e1, e2, ⟨⟨u, hv, hp, hb, hbD⟩, hF⟩, st9⟩ := hrun H locs ls hP hD hS hl T hT X
  cases hv
  have hf := va_A_in hD hS cx.2.2.2.2.2.2.1
  obtain ⟨k1, k2, k3⟩ := vx_keep h0 e1 hS (fun q _ h => hf q h) hf hL hF
  obtain ⟨t2, a1, b1⟩ := kk u hp T'.heap (locs ++ L) ls (by rw [e1]; exact hb) (hbD.weaken (fun _ q _ h => hf q.1 h)) k3 hl T' rfl X'
  exact ⟨t2, st9 t2 a1, b1⟩
/-- a constructor's call, the object last of the cells -/
theorem ki_call (cx : kg_c p s m args meth c cc nL own D tys A) (hO : kOv s) {bytes : ByteArray} {maxL index na b : Nat} {pre : va_W} {As rest : List Value}
    (hM : ki l y (Cond.code y bytes maxL none) fr lc mc ms D tys w (.ref b :: As) wo post) (hws : ws = pre ++ w)
    (hcd : Cond.code y bytes maxL none ∈ kT) (hlk : Cond.methodLink own index y ∈ kT) (hini : Cond.initialized y.cls ∈ kT) (him : Cond.instanceMethod y ∈ kT) (hyn : y.name = "<init>")
    (hd9 : y.cls ≠ "java/lang/invoke/MethodHandle" ∧ y.cls ≠ "java/lang/invoke/VarHandle" ∧ (parseMethodDescriptor y.desc).map (fun d => d.parameters.length) = some na) (hna : As.length = na)
    (hR : fr + 1 ≤ R.frames ∧ 8 + (maxL + 11) + lc ≤ R.locals) (hf : cells + mc ≤ R.cells ∧ slots + ms ≤ R.slots) (hst : st = As.reverse ++ .ref b :: rest) (hw : (rest.map fun v => v.category).sum ≤ 8) (hd : decode cc pc = .ok (.invokespecial index, 3))
    (kk : ∀ u : S, post u → kg p l e R s m args below meth c nL D A Q (cells + mc) (slots + ms) (pre ++ wo u) (pc + 3) lo rest) : kg p l e R s m args below meth c nL D A Q cells slots ws pc lo st := by
  subst hws
  refine ki_run (wo := fun u => pre ++ wo u) (a := (Value.ref b :: As).toArray) cx (fun H locs ls hP hD hS hl => ?_) kk
  have ht := cx.2.2.2.2.1
  exact va_runI (Ts := kT) (b := b) (As := As) (rest := rest) ⟨cx.1, cx.2.1, cx.2.2.1, cx.2.2.2.1, ht⟩ (ki_frame hM pre H.size) ⟨callB_of (ws' := kT) na ht (kT_good hcd (List.mem_filter.mp hcd).2 (fun _ h => h)) rfl rfl rfl (ht _ hini) (ht _ hlk) hd9 hR, hyn, ht _ him⟩ ⟨ki_P.blind, ki_pre cx hO hP hD⟩ rfl hna hl.size hst (lv_room (rest := st) hw) hd hf
theorem ki_callN (cx : kg_c p s m args meth c cc nL own D tys A) (hO : kOv s) {bytes : ByteArray} {maxL index na b : Nat} {pre : va_W} {As rest : List Value} {host : String}
    (hM : ki l y (Cond.code y bytes maxL none) fr lc mc ms D tys w (.ref b :: As) wo post) (hws : ws = pre ++ w)
    (hcd : Cond.code y bytes maxL none ∈ kT) (hlk : va_Nw (Cond.methodLinkNest own index y host) s) (hini : Cond.initialized y.cls ∈ kT) (him : Cond.instanceMethod y ∈ kT) (hyn : y.name = "<init>")
    (hd9 : y.cls ≠ "java/lang/invoke/MethodHandle" ∧ y.cls ≠ "java/lang/invoke/VarHandle" ∧ (parseMethodDescriptor y.desc).map (fun d => d.parameters.length) = some na) (hna : As.length = na)
    (hR : fr + 1 ≤ R.frames ∧ 8 + (maxL + 11) + lc ≤ R.locals) (hf : cells + mc ≤ R.cells ∧ slots + ms ≤ R.slots) (hst : st = As.reverse ++ .ref b :: rest) (hw : (rest.map fun v => v.category).sum ≤ 8) (hd : decode cc pc = .ok (.invokespecial index, 3))
    (kk : ∀ u : S, post u → kg p l e R s m args below meth c nL D A Q (cells + mc) (slots + ms) (pre ++ wo u) (pc + 3) lo rest) : kg p l e R s m args below meth c nL D A Q cells slots ws pc lo st := by
  subst hws
  refine ki_run (wo := fun u => pre ++ wo u) (a := (Value.ref b :: As).toArray) cx (fun H locs ls hP hD hS hl => ?_) kk
  have ht := cx.2.2.2.2.1
  exact va_runIN (Ts := kT) (b := b) (As := As) (rest := rest) ⟨cx.1, cx.2.1, cx.2.2.1, cx.2.2.2.1, ht⟩ (ki_frame hM pre H.size) ⟨va_cnB (ws' := kT) na ht (kT_good hcd (List.mem_filter.mp hcd).2 (fun _ h => h)) rfl rfl rfl hlk (ht _ hini) hd9 hR, hyn, ht _ him⟩ ⟨ki_P.blind, ki_pre cx hO hP hD⟩ rfl hna hl.size hst (lv_room (rest := st) hw) hd hf
/-- a constructor's end -/
theorem ki_return (cx : kg_c p s m args meth c cc nL own D tys A) (hr : meth.sig.returnType = none) (u : S) (hu : ws = wo u) (hp : post u) (hmc : cells ≤ mc ∧ slots ≤ ms) (hd : decode cc pc = .ok (.return_, 1)) : kg p l e R s m args below meth c nL D A (MQ below (ki_Q wo D post A) args s mc ms A) cells slots ws pc lo [] := by
  subst hu
  intro H locs ls hP hD hS hl
  refine W.widen hmc.1 hmc.2 ?_
  exact W.vret cx.1 cx.2.1 hr (fun t ht hW => ⟨⟨u, rfl, hp, by rw [ht]; exact hP, hD⟩, hS.F ht⟩) hS.2.2 hd cx.2.2.2.2.2.2.2.1
end KNI
