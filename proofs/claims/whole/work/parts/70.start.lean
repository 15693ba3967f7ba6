theorem lw_Zu : Cond.laysStatic Bundle.tN "UNASSIGNED_STACK" Bundle.steD ∈ tables_1 := by decide +kernel
theorem lw_Zn : Cond.laysStatic Bundle.tN "SUPPRESSED_SENTINEL" Bundle.listD ∈ tables_1 := by decide +kernel
theorem lw_Zi : Cond.initialized Bundle.tN ∈ tables_1 := by decide +kernel
theorem lw_Ao : Cond.arrayOver (.object RX0) ∈ tables_1 := by decide +kernel
theorem lw_Aa : Cond.arrayOver (.array .int) ∈ tables_1 := by decide +kernel
/-- the arrays' classes, as the tables have them -/
theorem lw_arr {s : State} {args : Array Value} {ty : FieldType} (h : (Cond.arrayClass ty).before args s = true) : ∃ c, s.vm.findClass ("[" ++ ty.toString) = some c ∧ ArrOfT s c ty := by
  obtain ⟨c, k, comp, h1, h2, h3⟩ := Cond.arrayClass_spec h
  exact ⟨c, h1, fun n z => ⟨fun k h => (by cases h), k, h2, comp, h3⟩⟩
theorem lw_arrO {s : State} {args : Array Value} {C : String} (h : (Cond.arrayOver (.object C)).before args s = true) : ∃ c, va_RA s c (.object C) ∧ ArrOfT s c (.object C) := by
  obtain ⟨comp, c, k, h1, -, h3, h4, h5⟩ := Cond.arrayOver_spec h
  exact ⟨c, ⟨k, comp, h3, h4, h1, h5⟩, fun n z => ⟨fun k h => (by cases h), k, h3, comp, h4⟩⟩
theorem lw_arrA {s : State} {args : Array Value} {t : FieldType} (h : (Cond.arrayOver (.array t)).before args s = true) : ∃ c, s.vm.findClass ("[" ++ (FieldType.array t).toString) = some c ∧ ArrOfT s c (.array t) := by
  obtain ⟨comp, c, k, h1, -, h3, h4, h5⟩ := arrayOver_specB h
  exact ⟨c, h5, fun n z => ⟨fun k h => (by cases h), k, h3, comp, h4⟩⟩
set_option maxHeartbeats 4000000 in
set_option maxRecDepth 100000 in
theorem whole_start {p : Program} {e : Env} {s : State} {m : MethodId} {below : List Frame} {meth : Method} {c : Code} (l : Launch) (hl : l.stackTraces = false) {b L : Nat} {xs : Nat → Int32} (hL : L ≤ 2561) (C0 : lw_At p s m meth c b L xs) : W p l e room_1 s m #[Value.ref b] below meth c s.heap [] 0 0 (lw_Z below #[Value.ref b] s) (entryFrame m ([Value.ref b] : List Value).toArray 7) := by
  obtain ⟨hx, hb, hr, hml, hown, hts, hX, hbl, hlocks, hgv⟩ := C0
  have hkT := kT_law hts
  have htb : ∀ w ∈ tables_1, w.before #[Value.ref b] s = true := fun w hw => hts w (List.mem_append_right _ hw)
  have hfl := flat_of_before _ hgv
  obtain ⟨d0, i0, hKn0⟩ := u_known (C := RX0) (T := TX0) (N := 5) (n := 5) hkT kfs_X0 (hkT _ kis_X0)
  obtain ⟨d1, i1, hKn1⟩ := u_known (C := RX1) (T := TX1) (N := 7) (n := 7) hkT kfs_X1 (hkT _ kis_X1)
  obtain ⟨d2, i2, hKn2⟩ := u_known (C := RX2) (T := TX2) (N := 5) (n := 5) hkT kfs_X2 (hkT _ kis_X2)
  obtain ⟨d3, i3, hKn3⟩ := u_known (C := RX3) (T := TX3) (N := 6) (n := 6) hkT kfs_X3 (hkT _ kis_X3)
  obtain ⟨d4, i4, hKn4⟩ := u_known (C := RX4) (T := TX4) (N := 27) (n := 27) hkT kfs_X4 (hkT _ kis_X4)
  obtain ⟨D, hKc⟩ : ∃ D : va_G, ∀ (k : Nat) (q : vw_C), vwCl[k]? = some q → u_Kn s q.1 q.2.1 q.2.2 (D.1 k) (D.2 k) := by
    refine ⟨(fun k => if k = 0 then d0 else if k = 1 then d1 else if k = 2 then d2 else if k = 3 then d3 else d4, fun k => if k = 0 then i0 else if k = 1 then i1 else if k = 2 then i2 else if k = 3 then i3 else i4), ?_⟩
    intro k q hq
    match k, hq with
    | 0, hq => cases hq; exact hKn0
    | 1, hq => cases hq; exact hKn1
    | 2, hq => cases hq; exact hKn2
    | 3, hq => cases hq; exact hKn3
    | 4, hq => cases hq; exact hKn4
    | k + 5, hq => simp [vwCl] at hq
  obtain ⟨a0, f0, g0⟩ := lw_arr (hkT _ kac_int)
  obtain ⟨a1, f1, g1⟩ := lw_arr (hkT _ kac_boolean)
  obtain ⟨a2, f2, g2⟩ := lw_arrO (htb _ lw_Ao)
  obtain ⟨a3, f3, g3⟩ := lw_arrA (htb _ lw_Aa)
  obtain ⟨a4, f4, g4⟩ := lw_arr (hkT _ kac_long)
  obtain ⟨cl, hK⟩ : ∃ cl : Nat → ClassId, va_K D vwCl (kty cl) s := by
    refine ⟨fun k => if k = 0 then a0 else if k = 1 then a1 else if k = 2 then a2 else if k = 3 then a3 else a4, hKc, ?_⟩
    intro k q hq
    match k, hq with
    | 0, hq => cases hq; exact ⟨g0, f0⟩
    | 1, hq => cases hq; exact ⟨g1, f1⟩
    | 2, hq => cases hq; exact ⟨g2, f2⟩
    | 3, hq => cases hq; exact ⟨g3, f3⟩
    | 4, hq => cases hq; exact ⟨g4, f4⟩
    | k + 5, hq => simp [kty] at hq
  have hO : kOv s := ⟨va_AO.of (htb _ lw_Ao), htb _ lw_Aa⟩
  have hno : ∀ a : Nat, a < s.heap.size → ¬ (fun q : Nat => s.heap.size ≤ q) a := fun a h q => absurd h (Nat.not_lt.mpr q)
  have hZ : kZ (fun q => s.heap.size ≤ q) s s.heap := ⟨vx_Zqof (htb _ lw_Zu) (htb _ lw_Zi) (hfl _ (by decide +kernel)) hno, vx_Zqof (htb _ lw_Zn) (htb _ lw_Zi) (hfl _ (by decide +kernel)) hno⟩
  have hY : kY s := va_Nc.of (hfl (Cond.not (.castable sS sA)) (by decide +kernel))
  have hbA : ¬ (fun q : Nat => s.heap.size ≤ q) b := Nat.not_le.mpr hbl
  have cx : kg_c p s m #[Value.ref b] meth c code 7 RL D (kty cl) (fun q => s.heap.size ≤ q) := ⟨hx, hb, hml, hown, hkT, hK, fun _ h => h, hlocks, kN_of hts⟩
  have main : kg p l e room_1 s m #[Value.ref b] below meth c 7 D (fun q => s.heap.size ≤ q) (lw_Z below #[Value.ref b] s) 0 0 [] 0 (kg_in [.ref b] 7) [] := by
    refine kg_newo (ci := 3) cx kfs_X3 tyX3 tyX3_ok kcl_L_8 kis_X3 kin_X3 rfl [.null, .null, .null, .null, .int 0, .int 0] (by decide) ⟨by decide, by decide⟩ dL_law_0 (fun qx => ?_)
    refine kg_dup cx dL_law_3 rfl ?_
    refine kg_aload_n cx dL_law_4 rfl ?_
    refine kg_iconst (v := 0) cx dL_law_5 (by decide) ?_
    refine kg_cellS cx hX hbl hbA (by omega) km_L_53 ⟨by decide, by decide⟩ ⟨by decide, by decide⟩ (Nat.le_of_ble_eq_true rfl) dL_law_6 ?_
    refine ki_call (na := 1) (pre := []) cx hO (i_X3 l D cl qx (k_c0 L xs)) rfl kcd_X3_init km_L_59 kin_X3 kim_X3_init rfl (by decide +kernel) rfl ⟨by decide, by decide⟩ ⟨by decide, by decide⟩ rfl (Nat.le_of_ble_eq_true rfl) dL_law_9 (fun ad had => ?_)
    subst had
    generalize hn : kNf (k_c0 L xs) = n
    have hn9 := kNf_in (k_c0 L xs)
    rw [hn] at hn9
    refine kg_astore_n cx dL_law_12 (by decide) ?_
    refine kg_newo (ci := 4) cx kfs_X4 tyX4 tyX4_ok kcl_L_62 kis_X4 kin_X4 rfl [.int 0, .int 0, .null, .null, .null, .null, .null, .null, .null, .null, .int 0, .int 0, .int 0, .null, .null, .null, .null, .null, .null, .null, .null, .null, .null, .int 0, .int 0, .int 0, .int 0] (by decide) ⟨by decide, by decide⟩ dL_law_13 (fun qm => ?_)
    refine kg_dup cx dL_law_16 rfl ?_
    refine kg_aload_n cx dL_law_17 rfl ?_
    refine kg_iconst (v := 0) cx dL_law_18 (by decide) ?_
    refine kg_cellS cx hX hbl hbA (by omega) km_L_53 ⟨by decide, by decide⟩ ⟨by decide, by decide⟩ (Nat.le_of_ble_eq_true rfl) dL_law_19 ?_
    refine ki_call (na := 1) (pre := kw ad cl n kU0) cx hO (i_X4 l D cl qm (k_c0 L xs)) rfl kcd_X4_init km_L_64 kin_X4 kim_X4_init rfl (by decide +kernel) rfl ⟨by decide, by decide⟩ ⟨by decide, by decide⟩ rfl (Nat.le_of_ble_eq_true rfl) dL_law_22 (fun rd hrd => ?_)
    subst hrd
    rw [hn]
    refine kg_astore_n cx dL_law_25 (by decide) ?_
    refine kg_iconst (v := 1) cx dL_law_26 (by decide) ?_
    refine kg_newa (atype := .long) (ty := .long) (N' := 1) cx 4 rfl rfl kac_long (fun _ h => h) (1, .inr (.inl (fun _ => 0))) (fun _ => rfl) (by decide) (by decide) (by decide) ⟨by decide, by decide⟩ dL_law_27 (fun o => ?_)
    refine kg_astore_n cx dL_law_29 (by decide) ?_
    refine kg_iconst (v := 1) cx dL_law_30 (by decide) ?_
    refine kg_istore cx dL_law_31 (by decide) ?_
    refine kg_perm (ws9 := kr rd cl (kV0 n 8) ++ kwo ad cl n o kU0 (fun _ => 0)) ?_ (kg_widen (by decide) (by decide) (law_loop l hl hL D cl ad rd n o cx hX hbl hZ hY hr 513 0 kU0 (kV0 n 8) (fun _ => 0) rfl (kI_0 hn9.1 hn9.2)))
    unfold kwo
    rw [← List.append_assoc]
    exact List.Perm.append_right _ List.perm_append_comm
  rw [lg_entry_eq]
  exact main s.heap [] _ (fun k q h => by simp at h) ⟨fun i j p q h => by simp at h, fun k q h => by simp at h⟩ va_S.rf (kg_in_h (by simp [Value.category]) (Nat.le_of_ble_eq_true rfl))
set_option maxHeartbeats 4000000 in
theorem lw_walk (l : Launch) (hl : l.stackTraces = false) (b : Addr) (xs : List Int32) : MetFree l x (headSpec (Jvm.Cond.code x code maxLocals ret :: tables_1) room_1) (lw_P b xs) (fun _ _ _ _ _ => True) lw_Q := by
  refine MetFree.of_bodyS (code := code) (maxLocals := maxLocals) (ret := ret) (by decide) ?_ ?_
  · intro args s m h hn
    obtain ⟨meth, c, h1, h2, h3, h4, h5, h6, -, -⟩ := Cond.code_spec hn (atoms_spec (ws := Jvm.Cond.code x code maxLocals ret :: tables_1) h _ List.mem_cons_self)
    exact ⟨meth, c, h1, h2, h3, h4, h5, h6⟩
  · intro p e s m args below meth c s₁ B hml0 hP _
    obtain ⟨rfl, hx, hbd, hgv⟩ := hP
    obtain ⟨scr, harrAt, hlist, hof, hsmall⟩ := hx
    obtain ⟨hcb, hkn, -, -⟩ := State.arrayAt?_spec harrAt
    have hown : s.vm.findClass R_law = some m.cls := findClass_of_methodNamed B.named
    have hts0 : ∀ c ∈ (Jvm.Cond.code x code maxLocals ret :: tables_1), c.before #[Value.ref b] s = true := atoms_spec (ws := Jvm.Cond.code x code maxLocals ret :: tables_1) B.pre
    have hts : ∀ w ∈ lw_tbl, w.before #[Value.ref b] s = true := k2_hts_sels lw_privs (fun w hw => hts0 w (List.mem_cons_of_mem _ hw)) lw_privs_ok
    have hml : c.maxLocals = 7 := B.maxLocals_eq (hts0 _ List.mem_cons_self)
    have X₀ : Stand p l e room_1 s m #[Value.ref b] below meth c s₁ [] 0 0 := Stand.of_body B
    have hh0 : s₁.heap = s.heap := by rw [B.state]; rfl
    have hsz : scr.slots.size = xs.length := by rw [← Array.length_toList, hlist, List.length_map]
    have hval : ∀ j : Nat, j < xs.length → scr.slots[j]? = some (.int (xs.getD j 0)) := fun j hj => by
      rw [← Array.getElem?_toList, hlist]
      simp [hj]
    have hbl : b < s.heap.size := (Array.getElem?_eq_some_iff.mp hcb).1
    have hX : va_X b xs.length (fun j => xs.getD j 0) s s.heap := ⟨scr, hcb, hof, hkn, hsz, hval⟩
    have K : W p l e room_1 s m #[Value.ref b] below meth c s₁.heap [] 0 0 (lw_Z below #[Value.ref b] s) (entryFrame m ([Value.ref b] : List Value).toArray 7) := by
      rw [hh0]
      exact whole_start l hl hbd ⟨B.exec, B.bytes, B.returns, hml, hown, hts, hX, hbl, B.notSynchronized, hgv⟩
    obtain ⟨t, a1, o, b1, b2, b3⟩ := K s₁ rfl X₀
    exact ⟨t, o, a1, b1, b2, b3⟩
theorem lw_pre_spec {args : Array Value} {s : State} (h : (Jvm.Cond.and given_1 narrow_1).before args s = true) (hr : rest_1_c.before args s = true) : ∃ (b : Addr) (xs : List Int32), lw_P b xs args s := by
  have hs := flat_of_before _ h
  have hq := flat_of_before _ hr
  have hc : (Cond.count 1).before args s = true := hs _ (by decide +kernel)
  have harr : (Cond.arrayOf (.arg 0) .int).before args s = true := hs _ (by decide +kernel)
  have hle : (Cond.le (.length (.arg 0)) (.int 2561)).before args s = true := hs _ (by decide +kernel)
  have hlen : (Cond.isInt (.length (.arg 0))).before args s = true := hq _ (by decide +kernel)
  have hall : (Cond.all (.arg 0) (.isInt (.elem (.arg 0) (.index 0)))).before args s = true := hq _ (by decide +kernel)
  obtain ⟨b, xs, hb, hx⟩ := State.ints_of_pre rfl harr hlen hall
  have hsm : xs.length < 2 ^ 31 := hx.choose_spec.2.2.2
  have hev : (Term.length (.arg 0)).eval args s none [] s = some (.int xs.length.toInt32) := hx.length_eval hb
  have hv := Cond.le_ints hev (show (Term.int 2561).eval args s none [] s = some (.int 2561) from rfl)
  have hd : xs.length.toInt32 ≤ 2561 := by
    simpa [Cond.before, Cond.holds, hv] using hle
  have hN : xs.length ≤ 2561 := (Int32.ofNat_le_ofNat hsm (by decide)).mp (show Int32.ofNat xs.length ≤ Int32.ofNat 2561 from hd)
  exact ⟨b, xs, Cond.one_arg hc (show args[0]? = some (.ref b) from hb), hx, hN, h⟩
theorem lw_comes (l : Launch) (hl : l.stackTraces = false) : Comes l x (Jvm.Cond.code x code maxLocals ret :: tables_1) room_1 (fun tb e args s => Calls_1 tb e args s ∧ rest_1 tb e args s ∧ Pre_1 tb e args s)
    (fun _ _ args s o t => lw_Q args s o t) := by
  intro p e ha hc hk s m args below hf hfit hheap happ hpre
  obtain ⟨b, xs, hP⟩ := lw_pre_spec hpre.2.2 hpre.2.1
  obtain ⟨k, o, h1, h2, h3, hQ⟩ := lw_walk l hl b xs p e ha hc hk s m args below hf ((Spec.applies_iff_loose hf).mp happ).1 hP trivial
  exact ⟨k, o, h1, h2, h3, hQ⟩
theorem lw_frame {s t : State} {o : Outcome} {args : Array Value} (h : Framed s o t [] room_1.cells room_1.slots) :
    Framed s o t (fieldLocs frame_1_writes args s ++ arrayLocs frame_1_arrays args s ++ staticLocs frame_1_statics s) room_1.cells room_1.slots := h
theorem lw_limb (L : Cond) (hL : ∀ (args : Array Value) (s t : State), L.after args s (.returned (some (.int 1))) t = true) :
    ArmFor flags0 classFile x code maxLocals ret World_1 tables_1 room_1 Calls_1 rest_1 Pre_1
      (fun tb e a s o t => postC L tb e a s o t ∧ Framed s o t (fieldLocs frame_1_writes a s ++ arrayLocs frame_1_arrays a s ++ staticLocs frame_1_statics s) room_1.cells room_1.slots) := by
  intro l hfl _ _ p e ha hc hk s m args below hf hfit hheap happ hpre
  obtain ⟨k, o, h1, h2, h3, rfl, hF⟩ := lw_comes l (by unfold Launch.stackTraces; rw [hfl]; decide +kernel) p e ha hc hk s m args below hf hfit hheap happ hpre
  exact ⟨k, _, h1, h2, h3, hL args s _, lw_frame hF⟩
theorem i_vc : Claimed_1_1 ∧ Claimed_1_2 := ⟨lw_limb limb_1_1 (fun args s t => by simp [limb_1_1, Cond.after, Cond.holds, Cond.value]), lw_limb limb_1_2 (fun args s t => Cond.after_iff.mpr (by
  first | (rw [show limb_1_2 = Cond.eq .result (.int 1) from rfl, Cond.eq_ints (x := 1) (y := 1) rfl rfl]; simp; done) | (simp [limb_1_2, Cond.value, Term.eval]; done)))⟩
