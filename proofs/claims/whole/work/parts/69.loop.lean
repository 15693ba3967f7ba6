def R_law : String := "ClockPoolLaw"
def lw_P (b : Addr) (xs : List Int32) (args : Array Value) (s : State) : Prop := args = #[.ref b] ∧ s.IntsAt b xs ∧ xs.length ≤ 2561 ∧ (Jvm.Cond.and given_1 narrow_1).before args s = true
def lw_Q (_ : Array Value) (s : State) (o : Outcome) (t : State) : Prop := o = .returned (some (.int 1)) ∧ Framed s o t [] room_1.cells room_1.slots
def lw_Z (below : List Frame) (a : Array Value) (s : State) : State → Prop := fun t => ∃ o, t.status = .running ∧ Ended t below o ∧ lw_Q a s o t
/-- the law's own end, with 1 on the stack, nothing written that was there before, its room as the claim has it -/
theorem lw_ret {p : Program} {l : Launch} {e : Env} {s : State} {m : MethodId} {below : List Frame} {meth : Method} {c : Code} {b : Nat} (hx : p.tables.exec = Jvm.exec) (hb : c.code = code) (hr : meth.sig.returnType = ret) (hlocks : meth.locks = false) {pc : Nat} {H : Heap} {ls : Array Slot} (hdg : decode code pc = .ok (.ireturn, 1)) : W p l e room_1 s m #[Value.ref b] below meth c H [] room_1.cells room_1.slots (lw_Z below #[Value.ref b] s) (F0 m pc ls [.int 1]) := by
  intro T hT X
  obtain ⟨fs, hret, hrun, hended, hW, hframe⟩ := X.leave (v := some (.int 1)) (hlocks := hlocks) (fun h => by rw [hr] at h; cases h)
  have hmeth' : T.vm.method? m = some meth := X.method'
  refine ⟨T.setFrames fs, ?_, .returned (some (.int 1)), hrun, hended, rfl, ⟨_, rfl⟩, hW, hframe⟩
  jvm_step X.here [X.here.top, hx, hb, hdg, hmeth', hr, ret, narrow_b1]
  (try refine ⟨rfl, ?_⟩); (try refine ⟨rfl, ?_⟩)
  first | (intro acts; rw [hret _ acts rfl rfl rfl]) | rw [hret _ _ rfl rfl rfl]
  exact Steps.refl _
/-- what holds at the law's entry: the machine, the code, the tables' words (any of lw_tbl by 'hts w (by decide +kernel)'), the script of L ints xs at the cell b, what the Statement gives of the start (any of its parts by flat_of_before) -/
def lw_At (p : Program) (s : State) (m : MethodId) (meth : Method) (c : Code) (b L : Nat) (xs : Nat → Int32) : Prop :=
  p.tables.exec = Jvm.exec ∧ c.code = code ∧ meth.sig.returnType = ret ∧ c.maxLocals = 7 ∧ s.vm.findClass R_law = some m.cls ∧ (∀ w ∈ lw_tbl, w.before #[Value.ref b] s = true) ∧ va_X b L xs s s.heap ∧ b < s.heap.size ∧ meth.locks = false ∧ (Jvm.Cond.and given_1 narrow_1).before #[Value.ref b] s = true
theorem kl_frameL {l : Launch} {y : MethodName} {cd : Cond} {fr lc mc ms : Nat} {D : va_G} {tys : List (ClassId × FieldType)} {w : va_W} {av : List Value} {S : Type} {wo : S → va_W} {post : Option Value → S → Prop} (h : kl l y cd fr lc mc ms D tys w av wo post) (pre : va_W) : kl l y cd fr lc mc ms D tys (pre ++ w) av (fun u => pre ++ wo u) post := by
  have h9 := kl_frame h pre []
  simp only [List.append_nil] at h9
  exact h9
theorem kr_len {rd : Nat → Nat} {c : Nat → ClassId} {v : kS} : (kr rd c v).length = 19 := rfl
theorem krw_at {rd : Nat → Nat} {ad : Nat → Nat → Nat} {c : Nat → ClassId} {n o : Nat} {u v : kS} {f : Nat → Int64} : (kr rd c v ++ kwo ad c n o u f)[63 + n + n]? = some (o, .inl (c 4, 1, .inr (.inl f))) := by
  rw [List.getElem?_append_right (by rw [kr_len]; omega), kr_len, show 63 + n + n - 19 = 44 + n + n by omega]
  exact kwo_at
theorem krw_adr {rd : Nat → Nat} {ad : Nat → Nat → Nat} {c : Nat → ClassId} {n o : Nat} {u v u9 v9 : kS} {f f9 : Nat → Int64} : (kr rd c v9 ++ kwo ad c n o u9 f9).map Prod.fst = (kr rd c v ++ kwo ad c n o u f).map Prod.fst := by
  rw [List.map_append, List.map_append, kr_adr v9 v, kwo_adr u f]
/-- the room's numbers are measured anew at each TURN: far below them -/
theorem kRc : 60000 ≤ room_1.cells := Nat.le_of_ble_eq_true rfl
theorem kRs : 500000 ≤ room_1.slots := Nat.le_of_ble_eq_true rfl
/-- the law's end -/
theorem kg_lawret {p : Program} {l : Launch} {e : Env} {s : State} {m : MethodId} {below : List Frame} {meth : Method} {c9 : Code} {b : Nat} {D : va_G} {tys : List (ClassId × FieldType)} (cx : kg_c p s m #[Value.ref b] meth c9 code 7 RL D tys (fun q => s.heap.size ≤ q)) (hr : meth.sig.returnType = ret) {pc cells slots : Nat} {ws : va_W} {lo : List (Option Value)} (hc : cells ≤ room_1.cells ∧ slots ≤ room_1.slots) (hd : decode code pc = .ok (.ireturn, 1)) : kg p l e room_1 s m #[Value.ref b] below meth c9 7 D (fun q => s.heap.size ≤ q) (lw_Z below #[Value.ref b] s) cells slots ws pc lo [.int 1] := by
  intro H locs ls hP hD hS hl
  exact va_forget (fun q hq => hS.2.2 q hq) (W.widen hc.1 hc.2 (lw_ret cx.1 cx.2.1 hr cx.2.2.2.2.2.2.2.1 hd))
theorem law_i {L N : Nat} (hL : L ≤ 2561) (hN : N ≤ 600) : nI L - nI 5 < nI (1 + 5 * N) ↔ L < 6 + 5 * N := by
  rw [Int32.lt_iff_toInt_lt, pk_sub_toInt (by omega) (by decide), nI_toInt (by omega)]
  omega
theorem k_j16 {j : Nat} (h : j < 16) : j = 0 ∨ j = 1 ∨ j = 2 ∨ j = 3 ∨ j = 4 ∨ j = 5 ∨ j = 6 ∨ j = 7 ∨ j = 8 ∨ j = 9 ∨ j = 10 ∨ j = 11 ∨ j = 12 ∨ j = 13 ∨ j = 14 ∨ j = 15 := by omega
set_option maxHeartbeats 4000000 in
set_option maxRecDepth 100000 in
theorem tt_fetch {p : Program} {e : Env} {s : State} {m : MethodId} {below : List Frame} {meth : Method} {c9 : Code} (l : Launch) (hl : l.stackTraces = false) {b L : Nat} {xs : Nat → Int32} (hL : L ≤ 2561) (D : va_G) (c : Nat → ClassId) (ad : Nat → Nat → Nat) (rd : Nat → Nat) (n o : Nat) (cx : kg_c p s m #[Value.ref b] meth c9 code 7 RL D (kty c) (fun q => s.heap.size ≤ q)) (hX : va_X b L xs s s.heap) (hbl : b < s.heap.size) (hZ : kZ (fun q => s.heap.size ≤ q) s s.heap) (hY : kY s) (N : Nat) (hN : N ≤ 511) (hNL : 6 + 5 * N ≤ L) (u v : kS) (f : Nat → Int64) (hI : kI n N u v) (tail : ∀ (u9 v9 : kS) (f9 : Nat → Int64) (x5 x6 : Option Value), kI n (N + 1) u9 v9 → kg p l e room_1 s m #[Value.ref b] below meth c9 7 D (fun q => s.heap.size ≤ q) (lw_Z below #[Value.ref b] s) (80 + 6 * (N + 1)) (7350 + 36 * (N + 1)) (kr rd c v9 ++ kwo ad c n o u9 f9) 909 [some (.ref b), some (.ref (ad 0 0)), some (.ref (rd 0)), some (.ref o), some (.int (nI (1 + 5 * N))), x5, x6] []) : kg p l e room_1 s m #[Value.ref b] below meth c9 7 D (fun q => s.heap.size ≤ q) (lw_Z below #[Value.ref b] s) (80 + 6 * N) (7350 + 36 * N) (kr rd c v ++ kwo ad c n o u f) 120 [some (.ref b), some (.ref (ad 0 0)), some (.ref (rd 0)), some (.ref o), some (.int (nI (1 + 5 * N))), none, none] [] := by
  have hbA : ¬ (fun q => s.heap.size ≤ q) b := Nat.not_le.mpr hbl
  refine kg_aload_n cx dL_law_120 rfl ?_
  refine kg_aload_n cx dL_law_121 rfl ?_
  refine kg_iload cx dL_law_122 rfl ?_
  refine kg_iconst (v := 1) cx dL_law_124 (by decide) ?_
  refine kg_iadd cx dL_law_125 ?_
  refine kg_top (nI (1 + 5 * N + 1)) (nI_add (1 + 5 * N) 1) ?_
  refine kg_sld cx hX hbl hbA (1 + 5 * N + 1) rfl (by omega) (by omega) dL_law_126 ?_
  refine kg_aload_n cx dL_law_127 rfl ?_
  obtain ⟨post, hM, hq⟩ := q_fetch l hl D c ad rd n o u v f N hI (by omega) (xs (1 + 5 * N + 1))
  refine kl_callS (na := 3) cx hZ hY (kl_frameL hM (kr rd c v)) kcd_L_fetch km_L_65 kin_L kst_L_fetch (by decide +kernel) rfl ⟨by decide, by decide⟩ ⟨Nat.le_trans (show 80 + 6 * N + 1 ≤ 60000 by omega) kRc, Nat.le_trans (show 7350 + 36 * N + 6 ≤ 500000 by omega) kRs⟩ rfl (Nat.le_of_ble_eq_true rfl) dL_law_128 (fun q => krw_adr (u9 := q.1) (f9 := q.2) (v9 := v)) (fun v9 q h9 => ?_)
  obtain ⟨k5, rfl, hR⟩ := hq v9 q h9
  obtain ⟨u9, f9⟩ := q
  dsimp only at hR ⊢
  refine kg_istore cx dL_law_131 (by decide) ?_
  refine kg_aload_n cx dL_law_133 rfl ?_
  refine kg_aload_n cx dL_law_134 rfl ?_
  refine kg_iload cx dL_law_135 rfl ?_
  refine kg_iconst (v := 1) cx dL_law_137 (by decide) ?_
  refine kg_iadd cx dL_law_138 ?_
  refine kg_top (nI (1 + 5 * N + 1)) (nI_add (1 + 5 * N) 1) ?_
  refine kg_sld cx hX hbl hbA (1 + 5 * N + 1) rfl (by omega) (by omega) dL_law_139 ?_
  refine kg_callV (ci := 4) (na := 1) cx (kc_frame hR [] (kwo ad c n o u9 f9)) 0 rfl rfl kcd_X4_fetch km_L_68 kin_X4 kim_X4_fetch ksl_X4_fetch (by decide +kernel) rfl ⟨by decide, by decide⟩ ⟨Nat.le_trans (show 80 + 6 * N + 1 ≤ 60000 by omega) kRc, Nat.le_trans (show 7350 + 36 * N + 6 ≤ 500000 by omega) kRs⟩ rfl (Nat.le_of_ble_eq_true rfl) dL_law_140 (fun v9 => krw_adr (v9 := v9) (u9 := u9) (f9 := f9)) (fun b9 v1 h1 => ?_)
  obtain ⟨b0, rfl, h20, hf0, hI9⟩ := h1
  refine kg_istore cx dL_law_143 (by decide) ?_
  refine kg_aload_n cx dL_law_145 rfl ?_
  refine kg_callV (ci := 4) (na := 0) cx (kc_frame (r_thrown l D c rd v1) [] (kwo ad c n o u9 f9)) 0 rfl rfl kcd_X4_thrown km_L_69 kin_X4 kim_X4_thrown ksl_X4_thrown (by decide +kernel) rfl ⟨by decide, by decide⟩ ⟨Nat.le_trans (show 80 + 6 * N + 1 ≤ 60000 by omega) kRc, Nat.le_trans (show 7350 + 36 * N + 6 ≤ 500000 by omega) kRs⟩ rfl (Nat.le_of_ble_eq_true rfl) dL_law_146 (fun v9 => krw_adr (v9 := v9) (u9 := u9) (f9 := f9)) (fun b9 v2 h2 => ?_)
  obtain ⟨rfl, rfl⟩ := h2
  refine kg_iload cx dL_law_149 rfl ?_
  refine kg_icmp_eq cx 156 dL_law_151 (by decide) (fun _ => ?_) (fun h => absurd h20 h)
  refine kg_iload cx dL_law_156 rfl ?_
  refine kg_if_ne cx 173 dL_law_158 (by decide) (fun _ => kg_goto cx 909 dL_law_173 (by decide) (kg_widen (by omega) (by omega) (tail u9 v2 f9 (some (.int k5)) (some (.int b0)) hI9))) (fun h0 => ?_)
  refine kg_aload_n cx dL_law_161 rfl ?_
  refine kg_iconst (v := 0) cx dL_law_162 (by decide) ?_
  refine kg_lald cx (63 + n + n) 4 rfl krw_at (pk_in 0 1 (by decide)) dL_law_163 ?_
  refine kg_iload cx dL_law_164 rfl ?_
  refine kg_i2l cx dL_law_166 ?_
  refine kg_lcmp cx dL_law_167 ?_
  exact kg_if_eq cx 173 dL_law_168 (by decide) (fun _ => kg_goto cx 909 dL_law_173 (by decide) (kg_widen (by omega) (by omega) (tail u9 v2 f9 (some (.int k5)) (some (.int b0)) hI9))) (fun h => absurd ((lg_cmp_eq _ _).mpr (hf0 h0)) h)
set_option maxHeartbeats 4000000 in
set_option maxRecDepth 100000 in
theorem tt_release {p : Program} {e : Env} {s : State} {m : MethodId} {below : List Frame} {meth : Method} {c9 : Code} (l : Launch) (hl : l.stackTraces = false) {b L : Nat} {xs : Nat → Int32} (hL : L ≤ 2561) (D : va_G) (c : Nat → ClassId) (ad : Nat → Nat → Nat) (rd : Nat → Nat) (n o : Nat) (cx : kg_c p s m #[Value.ref b] meth c9 code 7 RL D (kty c) (fun q => s.heap.size ≤ q)) (hX : va_X b L xs s s.heap) (hbl : b < s.heap.size) (hZ : kZ (fun q => s.heap.size ≤ q) s s.heap) (hY : kY s) (N : Nat) (hN : N ≤ 511) (hNL : 6 + 5 * N ≤ L) (u v : kS) (f : Nat → Int64) (hI : kI n N u v) (tail : ∀ (u9 v9 : kS) (f9 : Nat → Int64) (x5 x6 : Option Value), kI n (N + 1) u9 v9 → kg p l e room_1 s m #[Value.ref b] below meth c9 7 D (fun q => s.heap.size ≤ q) (lw_Z below #[Value.ref b] s) (80 + 6 * (N + 1)) (7350 + 36 * (N + 1)) (kr rd c v9 ++ kwo ad c n o u9 f9) 909 [some (.ref b), some (.ref (ad 0 0)), some (.ref (rd 0)), some (.ref o), some (.int (nI (1 + 5 * N))), x5, x6] []) : kg p l e room_1 s m #[Value.ref b] below meth c9 7 D (fun q => s.heap.size ≤ q) (lw_Z below #[Value.ref b] s) (80 + 6 * N) (7350 + 36 * N) (kr rd c v ++ kwo ad c n o u f) 176 [some (.ref b), some (.ref (ad 0 0)), some (.ref (rd 0)), some (.ref o), some (.int (nI (1 + 5 * N))), none, none] [] := by
  have hbA : ¬ (fun q => s.heap.size ≤ q) b := Nat.not_le.mpr hbl
  refine kg_aload_n cx dL_law_176 rfl ?_
  refine kg_aload_n cx dL_law_177 rfl ?_
  refine kg_iload cx dL_law_178 rfl ?_
  refine kg_iconst (v := 1) cx dL_law_180 (by decide) ?_
  refine kg_iadd cx dL_law_181 ?_
  refine kg_top (nI (1 + 5 * N + 1)) (nI_add (1 + 5 * N) 1) ?_
  refine kg_sld cx hX hbl hbA (1 + 5 * N + 1) rfl (by omega) (by omega) dL_law_182 ?_
  refine kg_aload_n cx dL_law_183 rfl ?_
  obtain ⟨post, hM, hq⟩ := q_release l hl D c ad rd n o u v f N hI (by omega) (xs (1 + 5 * N + 1))
  refine kl_callS (na := 3) cx hZ hY (kl_frameL hM (kr rd c v)) kcd_L_release km_L_73 kin_L kst_L_release (by decide +kernel) rfl ⟨by decide, by decide⟩ ⟨Nat.le_trans (show 80 + 6 * N + 2 ≤ 60000 by omega) kRc, Nat.le_trans (show 7350 + 36 * N + 12 ≤ 500000 by omega) kRs⟩ rfl (Nat.le_of_ble_eq_true rfl) dL_law_184 (fun q => krw_adr (u9 := q.1) (f9 := q.2) (v9 := v)) (fun v9 q h9 => ?_)
  obtain ⟨k5, rfl, hR⟩ := hq v9 q h9
  obtain ⟨u9, f9⟩ := q
  dsimp only at hR ⊢
  refine kg_istore cx dL_law_187 (by decide) ?_
  refine kg_aload_n cx dL_law_189 rfl ?_
  refine kg_aload_n cx dL_law_190 rfl ?_
  refine kg_iload cx dL_law_191 rfl ?_
  refine kg_iconst (v := 1) cx dL_law_193 (by decide) ?_
  refine kg_iadd cx dL_law_194 ?_
  refine kg_top (nI (1 + 5 * N + 1)) (nI_add (1 + 5 * N) 1) ?_
  refine kg_sld cx hX hbl hbA (1 + 5 * N + 1) rfl (by omega) (by omega) dL_law_195 ?_
  refine kg_callV (ci := 4) (na := 1) cx (kc_frame hR [] (kwo ad c n o u9 f9)) 0 rfl rfl kcd_X4_release km_L_75 kin_X4 kim_X4_release ksl_X4_release (by decide +kernel) rfl ⟨by decide, by decide⟩ ⟨Nat.le_trans (show 80 + 6 * N + 2 ≤ 60000 by omega) kRc, Nat.le_trans (show 7350 + 36 * N + 12 ≤ 500000 by omega) kRs⟩ rfl (Nat.le_of_ble_eq_true rfl) dL_law_196 (fun v9 => krw_adr (v9 := v9) (u9 := u9) (f9 := f9)) (fun b9 v1 h1 => ?_)
  obtain ⟨b0, rfl, h20, hf0, hI9⟩ := h1
  refine kg_istore cx dL_law_199 (by decide) ?_
  refine kg_aload_n cx dL_law_201 rfl ?_
  refine kg_callV (ci := 4) (na := 0) cx (kc_frame (r_thrown l D c rd v1) [] (kwo ad c n o u9 f9)) 0 rfl rfl kcd_X4_thrown km_L_69 kin_X4 kim_X4_thrown ksl_X4_thrown (by decide +kernel) rfl ⟨by decide, by decide⟩ ⟨Nat.le_trans (show 80 + 6 * N + 2 ≤ 60000 by omega) kRc, Nat.le_trans (show 7350 + 36 * N + 12 ≤ 500000 by omega) kRs⟩ rfl (Nat.le_of_ble_eq_true rfl) dL_law_202 (fun v9 => krw_adr (v9 := v9) (u9 := u9) (f9 := f9)) (fun b9 v2 h2 => ?_)
  obtain ⟨rfl, rfl⟩ := h2
  refine kg_iload cx dL_law_205 rfl ?_
  refine kg_icmp_eq cx 212 dL_law_207 (by decide) (fun _ => ?_) (fun h => absurd h20 h)
  refine kg_iload cx dL_law_212 rfl ?_
  refine kg_if_ne cx 229 dL_law_214 (by decide) (fun _ => kg_goto cx 909 dL_law_229 (by decide) (kg_widen (by omega) (by omega) (tail u9 v2 f9 (some (.int k5)) (some (.int b0)) hI9))) (fun h0 => ?_)
  refine kg_aload_n cx dL_law_217 rfl ?_
  refine kg_iconst (v := 0) cx dL_law_218 (by decide) ?_
  refine kg_lald cx (63 + n + n) 4 rfl krw_at (pk_in 0 1 (by decide)) dL_law_219 ?_
  refine kg_iload cx dL_law_220 rfl ?_
  refine kg_i2l cx dL_law_222 ?_
  refine kg_lcmp cx dL_law_223 ?_
  exact kg_if_eq cx 229 dL_law_224 (by decide) (fun _ => kg_goto cx 909 dL_law_229 (by decide) (kg_widen (by omega) (by omega) (tail u9 v2 f9 (some (.int k5)) (some (.int b0)) hI9))) (fun h => absurd ((lg_cmp_eq _ _).mpr (hf0 h0)) h)
set_option maxHeartbeats 4000000 in
set_option maxRecDepth 100000 in
theorem tt_get {p : Program} {e : Env} {s : State} {m : MethodId} {below : List Frame} {meth : Method} {c9 : Code} (l : Launch) (hl : l.stackTraces = false) {b L : Nat} {xs : Nat → Int32} (hL : L ≤ 2561) (D : va_G) (c : Nat → ClassId) (ad : Nat → Nat → Nat) (rd : Nat → Nat) (n o : Nat) (cx : kg_c p s m #[Value.ref b] meth c9 code 7 RL D (kty c) (fun q => s.heap.size ≤ q)) (hX : va_X b L xs s s.heap) (hbl : b < s.heap.size) (hZ : kZ (fun q => s.heap.size ≤ q) s s.heap) (hY : kY s) (N : Nat) (hN : N ≤ 511) (hNL : 6 + 5 * N ≤ L) (u v : kS) (f : Nat → Int64) (hI : kI n N u v) (tail : ∀ (u9 v9 : kS) (f9 : Nat → Int64) (x5 x6 : Option Value), kI n (N + 1) u9 v9 → kg p l e room_1 s m #[Value.ref b] below meth c9 7 D (fun q => s.heap.size ≤ q) (lw_Z below #[Value.ref b] s) (80 + 6 * (N + 1)) (7350 + 36 * (N + 1)) (kr rd c v9 ++ kwo ad c n o u9 f9) 909 [some (.ref b), some (.ref (ad 0 0)), some (.ref (rd 0)), some (.ref o), some (.int (nI (1 + 5 * N))), x5, x6] []) : kg p l e room_1 s m #[Value.ref b] below meth c9 7 D (fun q => s.heap.size ≤ q) (lw_Z below #[Value.ref b] s) (80 + 6 * N) (7350 + 36 * N) (kr rd c v ++ kwo ad c n o u f) 232 [some (.ref b), some (.ref (ad 0 0)), some (.ref (rd 0)), some (.ref o), some (.int (nI (1 + 5 * N))), none, none] [] := by
  have hbA : ¬ (fun q => s.heap.size ≤ q) b := Nat.not_le.mpr hbl
  refine kg_aload_n cx dL_law_232 rfl ?_
  refine kg_aload_n cx dL_law_233 rfl ?_
  refine kg_iload cx dL_law_234 rfl ?_
  refine kg_iconst (v := 1) cx dL_law_236 (by decide) ?_
  refine kg_iadd cx dL_law_237 ?_
  refine kg_top (nI (1 + 5 * N + 1)) (nI_add (1 + 5 * N) 1) ?_
  refine kg_sld cx hX hbl hbA (1 + 5 * N + 1) rfl (by omega) (by omega) dL_law_238 ?_
  refine kg_aload_n cx dL_law_239 rfl ?_
  refine kg_iload cx dL_law_240 rfl ?_
  refine kg_iconst (v := (nI 2)) cx dL_law_242 (by decide) ?_
  refine kg_iadd cx dL_law_243 ?_
  refine kg_top (nI (1 + 5 * N + 2)) (nI_add (1 + 5 * N) 2) ?_
  refine kg_sld cx hX hbl hbA (1 + 5 * N + 2) rfl (by omega) (by omega) dL_law_244 ?_
  refine kg_aload_n cx dL_law_245 rfl ?_
  obtain ⟨post, hM, hq⟩ := q_get l hl D c ad rd n o u v f N hI (by omega) (xs (1 + 5 * N + 1)) (xs (1 + 5 * N + 2))
  refine kl_callS (na := 4) cx hZ hY (kl_frameL hM (kr rd c v)) kcd_L_get km_L_76 kin_L kst_L_get (by decide +kernel) rfl ⟨by decide, by decide⟩ ⟨Nat.le_trans (show 80 + 6 * N + 3 ≤ 60000 by omega) kRc, Nat.le_trans (show 7350 + 36 * N + 18 ≤ 500000 by omega) kRs⟩ rfl (Nat.le_of_ble_eq_true rfl) dL_law_246 (fun q => krw_adr (u9 := q.1) (f9 := q.2) (v9 := v)) (fun v9 q h9 => ?_)
  obtain ⟨k5, rfl, hR⟩ := hq v9 q h9
  obtain ⟨u9, f9⟩ := q
  dsimp only at hR ⊢
  refine kg_istore cx dL_law_249 (by decide) ?_
  refine kg_aload_n cx dL_law_251 rfl ?_
  refine kg_aload_n cx dL_law_252 rfl ?_
  refine kg_iload cx dL_law_253 rfl ?_
  refine kg_iconst (v := 1) cx dL_law_255 (by decide) ?_
  refine kg_iadd cx dL_law_256 ?_
  refine kg_top (nI (1 + 5 * N + 1)) (nI_add (1 + 5 * N) 1) ?_
  refine kg_sld cx hX hbl hbA (1 + 5 * N + 1) rfl (by omega) (by omega) dL_law_257 ?_
  refine kg_aload_n cx dL_law_258 rfl ?_
  refine kg_iload cx dL_law_259 rfl ?_
  refine kg_iconst (v := (nI 2)) cx dL_law_261 (by decide) ?_
  refine kg_iadd cx dL_law_262 ?_
  refine kg_top (nI (1 + 5 * N + 2)) (nI_add (1 + 5 * N) 2) ?_
  refine kg_sld cx hX hbl hbA (1 + 5 * N + 2) rfl (by omega) (by omega) dL_law_263 ?_
  refine kg_callV (ci := 4) (na := 2) cx (kc_frame hR [] (kwo ad c n o u9 f9)) 0 rfl rfl kcd_X4_get km_L_79 kin_X4 kim_X4_get ksl_X4_get (by decide +kernel) rfl ⟨by decide, by decide⟩ ⟨Nat.le_trans (show 80 + 6 * N + 3 ≤ 60000 by omega) kRc, Nat.le_trans (show 7350 + 36 * N + 18 ≤ 500000 by omega) kRs⟩ rfl (Nat.le_of_ble_eq_true rfl) dL_law_264 (fun v9 => krw_adr (v9 := v9) (u9 := u9) (f9 := f9)) (fun b9 v1 h1 => ?_)
  obtain ⟨b0, rfl, h20, hf0, hI9⟩ := h1
  refine kg_istore cx dL_law_267 (by decide) ?_
  refine kg_aload_n cx dL_law_269 rfl ?_
  refine kg_callV (ci := 4) (na := 0) cx (kc_frame (r_thrown l D c rd v1) [] (kwo ad c n o u9 f9)) 0 rfl rfl kcd_X4_thrown km_L_69 kin_X4 kim_X4_thrown ksl_X4_thrown (by decide +kernel) rfl ⟨by decide, by decide⟩ ⟨Nat.le_trans (show 80 + 6 * N + 3 ≤ 60000 by omega) kRc, Nat.le_trans (show 7350 + 36 * N + 18 ≤ 500000 by omega) kRs⟩ rfl (Nat.le_of_ble_eq_true rfl) dL_law_270 (fun v9 => krw_adr (v9 := v9) (u9 := u9) (f9 := f9)) (fun b9 v2 h2 => ?_)
  obtain ⟨rfl, rfl⟩ := h2
  refine kg_iload cx dL_law_273 rfl ?_
  refine kg_icmp_eq cx 280 dL_law_275 (by decide) (fun _ => ?_) (fun h => absurd h20 h)
  refine kg_iload cx dL_law_280 rfl ?_
  refine kg_if_ne cx 297 dL_law_282 (by decide) (fun _ => kg_goto cx 909 dL_law_297 (by decide) (kg_widen (by omega) (by omega) (tail u9 v2 f9 (some (.int k5)) (some (.int b0)) hI9))) (fun h0 => ?_)
  refine kg_aload_n cx dL_law_285 rfl ?_
  refine kg_iconst (v := 0) cx dL_law_286 (by decide) ?_
  refine kg_lald cx (63 + n + n) 4 rfl krw_at (pk_in 0 1 (by decide)) dL_law_287 ?_
  refine kg_iload cx dL_law_288 rfl ?_
  refine kg_i2l cx dL_law_290 ?_
  refine kg_lcmp cx dL_law_291 ?_
  exact kg_if_eq cx 297 dL_law_292 (by decide) (fun _ => kg_goto cx 909 dL_law_297 (by decide) (kg_widen (by omega) (by omega) (tail u9 v2 f9 (some (.int k5)) (some (.int b0)) hI9))) (fun h => absurd ((lg_cmp_eq _ _).mpr (hf0 h0)) h)
set_option maxHeartbeats 4000000 in
set_option maxRecDepth 100000 in
theorem tt_begin {p : Program} {e : Env} {s : State} {m : MethodId} {below : List Frame} {meth : Method} {c9 : Code} (l : Launch) (hl : l.stackTraces = false) {b L : Nat} {xs : Nat → Int32} (hL : L ≤ 2561) (D : va_G) (c : Nat → ClassId) (ad : Nat → Nat → Nat) (rd : Nat → Nat) (n o : Nat) (cx : kg_c p s m #[Value.ref b] meth c9 code 7 RL D (kty c) (fun q => s.heap.size ≤ q)) (hX : va_X b L xs s s.heap) (hbl : b < s.heap.size) (hZ : kZ (fun q => s.heap.size ≤ q) s s.heap) (hY : kY s) (N : Nat) (hN : N ≤ 511) (hNL : 6 + 5 * N ≤ L) (u v : kS) (f : Nat → Int64) (hI : kI n N u v) (tail : ∀ (u9 v9 : kS) (f9 : Nat → Int64) (x5 x6 : Option Value), kI n (N + 1) u9 v9 → kg p l e room_1 s m #[Value.ref b] below meth c9 7 D (fun q => s.heap.size ≤ q) (lw_Z below #[Value.ref b] s) (80 + 6 * (N + 1)) (7350 + 36 * (N + 1)) (kr rd c v9 ++ kwo ad c n o u9 f9) 909 [some (.ref b), some (.ref (ad 0 0)), some (.ref (rd 0)), some (.ref o), some (.int (nI (1 + 5 * N))), x5, x6] []) : kg p l e room_1 s m #[Value.ref b] below meth c9 7 D (fun q => s.heap.size ≤ q) (lw_Z below #[Value.ref b] s) (80 + 6 * N) (7350 + 36 * N) (kr rd c v ++ kwo ad c n o u f) 300 [some (.ref b), some (.ref (ad 0 0)), some (.ref (rd 0)), some (.ref o), some (.int (nI (1 + 5 * N))), none, none] [] := by
  have hbA : ¬ (fun q => s.heap.size ≤ q) b := Nat.not_le.mpr hbl
  refine kg_aload_n cx dL_law_300 rfl ?_
  refine kg_callV (ci := 3) (na := 0) cx (kc_frame (q_begin l D c ad rd n u v N hI) (kr rd c v) [(o, .inl (c 4, 1, .inr (.inl f)))]) 19 rfl rfl kcd_X3_begin km_L_80 kin_X3 kim_X3_begin ksl_X3_begin (by decide +kernel) rfl ⟨by decide, by decide⟩ ⟨Nat.le_trans (show 80 + 6 * N ≤ 60000 by omega) kRc, Nat.le_trans (show 7350 + 36 * N ≤ 500000 by omega) kRs⟩ rfl (Nat.le_of_ble_eq_true rfl) dL_law_301 (fun u9 => krw_adr (u9 := u9) (v9 := v) (f9 := f)) (fun v9 u9 h9 => ?_)
  obtain ⟨r, rfl, hR⟩ := h9
  refine kg_aload_n cx dL_law_304 rfl ?_
  refine kg_callV (ci := 4) (na := 0) cx (kc_frame hR [] (kwo ad c n o u9 f)) 0 rfl rfl kcd_X4_begin km_L_83 kin_X4 kim_X4_begin ksl_X4_begin (by decide +kernel) rfl ⟨by decide, by decide⟩ ⟨Nat.le_trans (show 80 + 6 * N ≤ 60000 by omega) kRc, Nat.le_trans (show 7350 + 36 * N ≤ 500000 by omega) kRs⟩ rfl (Nat.le_of_ble_eq_true rfl) dL_law_305 (fun v9 => krw_adr (v9 := v9) (u9 := u9) (f9 := f)) (fun b9 v1 h1 => ?_)
  obtain ⟨rfl, hI9⟩ := h1
  exact kg_icmp_eq cx 909 dL_law_308 (by decide) (fun _ => kg_widen (by omega) (by omega) (tail u9 v1 f none none hI9)) (fun h => absurd rfl h)
set_option maxHeartbeats 4000000 in
set_option maxRecDepth 100000 in
theorem tt_set {p : Program} {e : Env} {s : State} {m : MethodId} {below : List Frame} {meth : Method} {c9 : Code} (l : Launch) (hl : l.stackTraces = false) {b L : Nat} {xs : Nat → Int32} (hL : L ≤ 2561) (D : va_G) (c : Nat → ClassId) (ad : Nat → Nat → Nat) (rd : Nat → Nat) (n o : Nat) (cx : kg_c p s m #[Value.ref b] meth c9 code 7 RL D (kty c) (fun q => s.heap.size ≤ q)) (hX : va_X b L xs s s.heap) (hbl : b < s.heap.size) (hZ : kZ (fun q => s.heap.size ≤ q) s s.heap) (hY : kY s) (N : Nat) (hN : N ≤ 511) (hNL : 6 + 5 * N ≤ L) (u v : kS) (f : Nat → Int64) (hI : kI n N u v) (tail : ∀ (u9 v9 : kS) (f9 : Nat → Int64) (x5 x6 : Option Value), kI n (N + 1) u9 v9 → kg p l e room_1 s m #[Value.ref b] below meth c9 7 D (fun q => s.heap.size ≤ q) (lw_Z below #[Value.ref b] s) (80 + 6 * (N + 1)) (7350 + 36 * (N + 1)) (kr rd c v9 ++ kwo ad c n o u9 f9) 909 [some (.ref b), some (.ref (ad 0 0)), some (.ref (rd 0)), some (.ref o), some (.int (nI (1 + 5 * N))), x5, x6] []) : kg p l e room_1 s m #[Value.ref b] below meth c9 7 D (fun q => s.heap.size ≤ q) (lw_Z below #[Value.ref b] s) (80 + 6 * N) (7350 + 36 * N) (kr rd c v ++ kwo ad c n o u f) 313 [some (.ref b), some (.ref (ad 0 0)), some (.ref (rd 0)), some (.ref o), some (.int (nI (1 + 5 * N))), none, none] [] := by
  have hbA : ¬ (fun q => s.heap.size ≤ q) b := Nat.not_le.mpr hbl
  refine kg_aload_n cx dL_law_313 rfl ?_
  refine kg_aload_n cx dL_law_314 rfl ?_
  refine kg_iload cx dL_law_315 rfl ?_
  refine kg_iconst (v := 1) cx dL_law_317 (by decide) ?_
  refine kg_iadd cx dL_law_318 ?_
  refine kg_top (nI (1 + 5 * N + 1)) (nI_add (1 + 5 * N) 1) ?_
  refine kg_sld cx hX hbl hbA (1 + 5 * N + 1) rfl (by omega) (by omega) dL_law_319 ?_
  refine kg_aload_n cx dL_law_320 rfl ?_
  refine kg_iload cx dL_law_321 rfl ?_
  refine kg_iconst (v := (nI 2)) cx dL_law_323 (by decide) ?_
  refine kg_iadd cx dL_law_324 ?_
  refine kg_top (nI (1 + 5 * N + 2)) (nI_add (1 + 5 * N) 2) ?_
  refine kg_sld cx hX hbl hbA (1 + 5 * N + 2) rfl (by omega) (by omega) dL_law_325 ?_
  refine kg_aload_n cx dL_law_326 rfl ?_
  refine kg_iload cx dL_law_327 rfl ?_
  refine kg_iconst (v := (nI 3)) cx dL_law_329 (by decide) ?_
  refine kg_iadd cx dL_law_330 ?_
  refine kg_top (nI (1 + 5 * N + 3)) (nI_add (1 + 5 * N) 3) ?_
  refine kg_sld cx hX hbl hbA (1 + 5 * N + 3) rfl (by omega) (by omega) dL_law_331 ?_
  refine kg_aload_n cx dL_law_332 rfl ?_
  refine kg_iload cx dL_law_333 rfl ?_
  refine kg_iconst (v := (nI 4)) cx dL_law_335 (by decide) ?_
  refine kg_iadd cx dL_law_336 ?_
  refine kg_top (nI (1 + 5 * N + 4)) (nI_add (1 + 5 * N) 4) ?_
  refine kg_sld cx hX hbl hbA (1 + 5 * N + 4) rfl (by omega) (by omega) dL_law_337 ?_
  refine kg_aload_n cx dL_law_338 rfl ?_
  obtain ⟨post, hM, hq⟩ := q_set l hl D c ad rd n o u v f N hI (by omega) (xs (1 + 5 * N + 1)) (xs (1 + 5 * N + 2)) (xs (1 + 5 * N + 3)) (xs (1 + 5 * N + 4))
  refine kl_callS (na := 6) cx hZ hY (kl_frameL hM (kr rd c v)) kcd_L_set km_L_84 kin_L kst_L_set (by decide +kernel) rfl ⟨by decide, by decide⟩ ⟨Nat.le_trans (show 80 + 6 * N + 6 ≤ 60000 by omega) kRc, Nat.le_trans (show 7350 + 36 * N + 36 ≤ 500000 by omega) kRs⟩ rfl (Nat.le_of_ble_eq_true rfl) dL_law_339 (fun q => krw_adr (u9 := q.1) (f9 := q.2) (v9 := v)) (fun v9 q h9 => ?_)
  obtain ⟨k5, rfl, hR⟩ := hq v9 q h9
  obtain ⟨u9, f9⟩ := q
  dsimp only at hR ⊢
  refine kg_istore cx dL_law_342 (by decide) ?_
  refine kg_aload_n cx dL_law_344 rfl ?_
  refine kg_aload_n cx dL_law_345 rfl ?_
  refine kg_iload cx dL_law_346 rfl ?_
  refine kg_iconst (v := 1) cx dL_law_348 (by decide) ?_
  refine kg_iadd cx dL_law_349 ?_
  refine kg_top (nI (1 + 5 * N + 1)) (nI_add (1 + 5 * N) 1) ?_
  refine kg_sld cx hX hbl hbA (1 + 5 * N + 1) rfl (by omega) (by omega) dL_law_350 ?_
  refine kg_aload_n cx dL_law_351 rfl ?_
  refine kg_iload cx dL_law_352 rfl ?_
  refine kg_iconst (v := (nI 2)) cx dL_law_354 (by decide) ?_
  refine kg_iadd cx dL_law_355 ?_
  refine kg_top (nI (1 + 5 * N + 2)) (nI_add (1 + 5 * N) 2) ?_
  refine kg_sld cx hX hbl hbA (1 + 5 * N + 2) rfl (by omega) (by omega) dL_law_356 ?_
  refine kg_aload_n cx dL_law_357 rfl ?_
  refine kg_iload cx dL_law_358 rfl ?_
  refine kg_iconst (v := (nI 3)) cx dL_law_360 (by decide) ?_
  refine kg_iadd cx dL_law_361 ?_
  refine kg_top (nI (1 + 5 * N + 3)) (nI_add (1 + 5 * N) 3) ?_
  refine kg_sld cx hX hbl hbA (1 + 5 * N + 3) rfl (by omega) (by omega) dL_law_362 ?_
  refine kg_aload_n cx dL_law_363 rfl ?_
  refine kg_iload cx dL_law_364 rfl ?_
  refine kg_iconst (v := (nI 4)) cx dL_law_366 (by decide) ?_
  refine kg_iadd cx dL_law_367 ?_
  refine kg_top (nI (1 + 5 * N + 4)) (nI_add (1 + 5 * N) 4) ?_
  refine kg_sld cx hX hbl hbA (1 + 5 * N + 4) rfl (by omega) (by omega) dL_law_368 ?_
  refine kg_callV (ci := 4) (na := 4) cx (kc_frame hR [] (kwo ad c n o u9 f9)) 0 rfl rfl kcd_X4_set km_L_87 kin_X4 kim_X4_set ksl_X4_set (by decide +kernel) rfl ⟨by decide, by decide⟩ ⟨Nat.le_trans (show 80 + 6 * N + 6 ≤ 60000 by omega) kRc, Nat.le_trans (show 7350 + 36 * N + 36 ≤ 500000 by omega) kRs⟩ rfl (Nat.le_of_ble_eq_true rfl) dL_law_369 (fun v9 => krw_adr (v9 := v9) (u9 := u9) (f9 := f9)) (fun b9 v1 h1 => ?_)
  obtain ⟨b0, rfl, h20, hf0, hI9⟩ := h1
  refine kg_istore cx dL_law_372 (by decide) ?_
  refine kg_aload_n cx dL_law_374 rfl ?_
  refine kg_callV (ci := 4) (na := 0) cx (kc_frame (r_thrown l D c rd v1) [] (kwo ad c n o u9 f9)) 0 rfl rfl kcd_X4_thrown km_L_69 kin_X4 kim_X4_thrown ksl_X4_thrown (by decide +kernel) rfl ⟨by decide, by decide⟩ ⟨Nat.le_trans (show 80 + 6 * N + 6 ≤ 60000 by omega) kRc, Nat.le_trans (show 7350 + 36 * N + 36 ≤ 500000 by omega) kRs⟩ rfl (Nat.le_of_ble_eq_true rfl) dL_law_375 (fun v9 => krw_adr (v9 := v9) (u9 := u9) (f9 := f9)) (fun b9 v2 h2 => ?_)
  obtain ⟨rfl, rfl⟩ := h2
  refine kg_iload cx dL_law_378 rfl ?_
  refine kg_icmp_eq cx 385 dL_law_380 (by decide) (fun _ => ?_) (fun h => absurd h20 h)
  refine kg_iload cx dL_law_385 rfl ?_
  refine kg_if_ne cx 402 dL_law_387 (by decide) (fun _ => kg_goto cx 909 dL_law_402 (by decide) (kg_widen (by omega) (by omega) (tail u9 v2 f9 (some (.int k5)) (some (.int b0)) hI9))) (fun h0 => ?_)
  refine kg_aload_n cx dL_law_390 rfl ?_
  refine kg_iconst (v := 0) cx dL_law_391 (by decide) ?_
  refine kg_lald cx (63 + n + n) 4 rfl krw_at (pk_in 0 1 (by decide)) dL_law_392 ?_
  refine kg_iload cx dL_law_393 rfl ?_
  refine kg_i2l cx dL_law_395 ?_
  refine kg_lcmp cx dL_law_396 ?_
  exact kg_if_eq cx 402 dL_law_397 (by decide) (fun _ => kg_goto cx 909 dL_law_402 (by decide) (kg_widen (by omega) (by omega) (tail u9 v2 f9 (some (.int k5)) (some (.int b0)) hI9))) (fun h => absurd ((lg_cmp_eq _ _).mpr (hf0 h0)) h)
set_option maxHeartbeats 4000000 in
set_option maxRecDepth 100000 in
theorem tt_commit {p : Program} {e : Env} {s : State} {m : MethodId} {below : List Frame} {meth : Method} {c9 : Code} (l : Launch) (hl : l.stackTraces = false) {b L : Nat} {xs : Nat → Int32} (hL : L ≤ 2561) (D : va_G) (c : Nat → ClassId) (ad : Nat → Nat → Nat) (rd : Nat → Nat) (n o : Nat) (cx : kg_c p s m #[Value.ref b] meth c9 code 7 RL D (kty c) (fun q => s.heap.size ≤ q)) (hX : va_X b L xs s s.heap) (hbl : b < s.heap.size) (hZ : kZ (fun q => s.heap.size ≤ q) s s.heap) (hY : kY s) (N : Nat) (hN : N ≤ 511) (hNL : 6 + 5 * N ≤ L) (u v : kS) (f : Nat → Int64) (hI : kI n N u v) (tail : ∀ (u9 v9 : kS) (f9 : Nat → Int64) (x5 x6 : Option Value), kI n (N + 1) u9 v9 → kg p l e room_1 s m #[Value.ref b] below meth c9 7 D (fun q => s.heap.size ≤ q) (lw_Z below #[Value.ref b] s) (80 + 6 * (N + 1)) (7350 + 36 * (N + 1)) (kr rd c v9 ++ kwo ad c n o u9 f9) 909 [some (.ref b), some (.ref (ad 0 0)), some (.ref (rd 0)), some (.ref o), some (.int (nI (1 + 5 * N))), x5, x6] []) : kg p l e room_1 s m #[Value.ref b] below meth c9 7 D (fun q => s.heap.size ≤ q) (lw_Z below #[Value.ref b] s) (80 + 6 * N) (7350 + 36 * N) (kr rd c v ++ kwo ad c n o u f) 405 [some (.ref b), some (.ref (ad 0 0)), some (.ref (rd 0)), some (.ref o), some (.int (nI (1 + 5 * N))), none, none] [] := by
  have hbA : ¬ (fun q => s.heap.size ≤ q) b := Nat.not_le.mpr hbl
  refine kg_aload_n cx dL_law_405 rfl ?_
  refine kg_aload_n cx dL_law_406 rfl ?_
  refine kg_iload cx dL_law_407 rfl ?_
  refine kg_iconst (v := 1) cx dL_law_409 (by decide) ?_
  refine kg_iadd cx dL_law_410 ?_
  refine kg_top (nI (1 + 5 * N + 1)) (nI_add (1 + 5 * N) 1) ?_
  refine kg_sld cx hX hbl hbA (1 + 5 * N + 1) rfl (by omega) (by omega) dL_law_411 ?_
  refine kg_aload_n cx dL_law_412 rfl ?_
  obtain ⟨post, hM, hq⟩ := q_commit l hl D c ad rd n o u v f N hI (by omega) (xs (1 + 5 * N + 1))
  refine kl_callS (na := 3) cx hZ hY (kl_frameL hM (kr rd c v)) kcd_L_commit km_L_88 kin_L kst_L_commit (by decide +kernel) rfl ⟨by decide, by decide⟩ ⟨Nat.le_trans (show 80 + 6 * N + 3 ≤ 60000 by omega) kRc, Nat.le_trans (show 7350 + 36 * N + 18 ≤ 500000 by omega) kRs⟩ rfl (Nat.le_of_ble_eq_true rfl) dL_law_413 (fun q => krw_adr (u9 := q.1) (f9 := q.2) (v9 := v)) (fun v9 q h9 => ?_)
  obtain ⟨k5, rfl, hR⟩ := hq v9 q h9
  obtain ⟨u9, f9⟩ := q
  dsimp only at hR ⊢
  refine kg_istore cx dL_law_416 (by decide) ?_
  refine kg_aload_n cx dL_law_418 rfl ?_
  refine kg_aload_n cx dL_law_419 rfl ?_
  refine kg_iload cx dL_law_420 rfl ?_
  refine kg_iconst (v := 1) cx dL_law_422 (by decide) ?_
  refine kg_iadd cx dL_law_423 ?_
  refine kg_top (nI (1 + 5 * N + 1)) (nI_add (1 + 5 * N) 1) ?_
  refine kg_sld cx hX hbl hbA (1 + 5 * N + 1) rfl (by omega) (by omega) dL_law_424 ?_
  refine kg_callV (ci := 4) (na := 1) cx (kc_frame hR [] (kwo ad c n o u9 f9)) 0 rfl rfl kcd_X4_commit km_L_90 kin_X4 kim_X4_commit ksl_X4_commit (by decide +kernel) rfl ⟨by decide, by decide⟩ ⟨Nat.le_trans (show 80 + 6 * N + 3 ≤ 60000 by omega) kRc, Nat.le_trans (show 7350 + 36 * N + 18 ≤ 500000 by omega) kRs⟩ rfl (Nat.le_of_ble_eq_true rfl) dL_law_425 (fun v9 => krw_adr (v9 := v9) (u9 := u9) (f9 := f9)) (fun b9 v1 h1 => ?_)
  obtain ⟨b0, rfl, h20, hf0, hI9⟩ := h1
  refine kg_istore cx dL_law_428 (by decide) ?_
  refine kg_aload_n cx dL_law_430 rfl ?_
  refine kg_callV (ci := 4) (na := 0) cx (kc_frame (r_thrown l D c rd v1) [] (kwo ad c n o u9 f9)) 0 rfl rfl kcd_X4_thrown km_L_69 kin_X4 kim_X4_thrown ksl_X4_thrown (by decide +kernel) rfl ⟨by decide, by decide⟩ ⟨Nat.le_trans (show 80 + 6 * N + 3 ≤ 60000 by omega) kRc, Nat.le_trans (show 7350 + 36 * N + 18 ≤ 500000 by omega) kRs⟩ rfl (Nat.le_of_ble_eq_true rfl) dL_law_431 (fun v9 => krw_adr (v9 := v9) (u9 := u9) (f9 := f9)) (fun b9 v2 h2 => ?_)
  obtain ⟨rfl, rfl⟩ := h2
  refine kg_iload cx dL_law_434 rfl ?_
  refine kg_icmp_eq cx 441 dL_law_436 (by decide) (fun _ => ?_) (fun h => absurd h20 h)
  refine kg_iload cx dL_law_441 rfl ?_
  refine kg_if_ne cx 458 dL_law_443 (by decide) (fun _ => kg_goto cx 909 dL_law_458 (by decide) (kg_widen (by omega) (by omega) (tail u9 v2 f9 (some (.int k5)) (some (.int b0)) hI9))) (fun h0 => ?_)
  refine kg_aload_n cx dL_law_446 rfl ?_
  refine kg_iconst (v := 0) cx dL_law_447 (by decide) ?_
  refine kg_lald cx (63 + n + n) 4 rfl krw_at (pk_in 0 1 (by decide)) dL_law_448 ?_
  refine kg_iload cx dL_law_449 rfl ?_
  refine kg_i2l cx dL_law_451 ?_
  refine kg_lcmp cx dL_law_452 ?_
  exact kg_if_eq cx 458 dL_law_453 (by decide) (fun _ => kg_goto cx 909 dL_law_458 (by decide) (kg_widen (by omega) (by omega) (tail u9 v2 f9 (some (.int k5)) (some (.int b0)) hI9))) (fun h => absurd ((lg_cmp_eq _ _).mpr (hf0 h0)) h)
set_option maxHeartbeats 4000000 in
set_option maxRecDepth 100000 in
theorem tt_abort {p : Program} {e : Env} {s : State} {m : MethodId} {below : List Frame} {meth : Method} {c9 : Code} (l : Launch) (hl : l.stackTraces = false) {b L : Nat} {xs : Nat → Int32} (hL : L ≤ 2561) (D : va_G) (c : Nat → ClassId) (ad : Nat → Nat → Nat) (rd : Nat → Nat) (n o : Nat) (cx : kg_c p s m #[Value.ref b] meth c9 code 7 RL D (kty c) (fun q => s.heap.size ≤ q)) (hX : va_X b L xs s s.heap) (hbl : b < s.heap.size) (hZ : kZ (fun q => s.heap.size ≤ q) s s.heap) (hY : kY s) (N : Nat) (hN : N ≤ 511) (hNL : 6 + 5 * N ≤ L) (u v : kS) (f : Nat → Int64) (hI : kI n N u v) (tail : ∀ (u9 v9 : kS) (f9 : Nat → Int64) (x5 x6 : Option Value), kI n (N + 1) u9 v9 → kg p l e room_1 s m #[Value.ref b] below meth c9 7 D (fun q => s.heap.size ≤ q) (lw_Z below #[Value.ref b] s) (80 + 6 * (N + 1)) (7350 + 36 * (N + 1)) (kr rd c v9 ++ kwo ad c n o u9 f9) 909 [some (.ref b), some (.ref (ad 0 0)), some (.ref (rd 0)), some (.ref o), some (.int (nI (1 + 5 * N))), x5, x6] []) : kg p l e room_1 s m #[Value.ref b] below meth c9 7 D (fun q => s.heap.size ≤ q) (lw_Z below #[Value.ref b] s) (80 + 6 * N) (7350 + 36 * N) (kr rd c v ++ kwo ad c n o u f) 461 [some (.ref b), some (.ref (ad 0 0)), some (.ref (rd 0)), some (.ref o), some (.int (nI (1 + 5 * N))), none, none] [] := by
  have hbA : ¬ (fun q => s.heap.size ≤ q) b := Nat.not_le.mpr hbl
  refine kg_aload_n cx dL_law_461 rfl ?_
  refine kg_aload_n cx dL_law_462 rfl ?_
  refine kg_iload cx dL_law_463 rfl ?_
  refine kg_iconst (v := 1) cx dL_law_465 (by decide) ?_
  refine kg_iadd cx dL_law_466 ?_
  refine kg_top (nI (1 + 5 * N + 1)) (nI_add (1 + 5 * N) 1) ?_
  refine kg_sld cx hX hbl hbA (1 + 5 * N + 1) rfl (by omega) (by omega) dL_law_467 ?_
  refine kg_aload_n cx dL_law_468 rfl ?_
  obtain ⟨post, hM, hq⟩ := q_abort l hl D c ad rd n o u v f N hI (by omega) (xs (1 + 5 * N + 1))
  refine kl_callS (na := 3) cx hZ hY (kl_frameL hM (kr rd c v)) kcd_L_abort km_L_91 kin_L kst_L_abort (by decide +kernel) rfl ⟨by decide, by decide⟩ ⟨Nat.le_trans (show 80 + 6 * N + 2 ≤ 60000 by omega) kRc, Nat.le_trans (show 7350 + 36 * N + 12 ≤ 500000 by omega) kRs⟩ rfl (Nat.le_of_ble_eq_true rfl) dL_law_469 (fun q => krw_adr (u9 := q.1) (f9 := q.2) (v9 := v)) (fun v9 q h9 => ?_)
  obtain ⟨k5, rfl, hR⟩ := hq v9 q h9
  obtain ⟨u9, f9⟩ := q
  dsimp only at hR ⊢
  refine kg_istore cx dL_law_472 (by decide) ?_
  refine kg_aload_n cx dL_law_474 rfl ?_
  refine kg_aload_n cx dL_law_475 rfl ?_
  refine kg_iload cx dL_law_476 rfl ?_
  refine kg_iconst (v := 1) cx dL_law_478 (by decide) ?_
  refine kg_iadd cx dL_law_479 ?_
  refine kg_top (nI (1 + 5 * N + 1)) (nI_add (1 + 5 * N) 1) ?_
  refine kg_sld cx hX hbl hbA (1 + 5 * N + 1) rfl (by omega) (by omega) dL_law_480 ?_
  refine kg_callV (ci := 4) (na := 1) cx (kc_frame hR [] (kwo ad c n o u9 f9)) 0 rfl rfl kcd_X4_abort km_L_93 kin_X4 kim_X4_abort ksl_X4_abort (by decide +kernel) rfl ⟨by decide, by decide⟩ ⟨Nat.le_trans (show 80 + 6 * N + 2 ≤ 60000 by omega) kRc, Nat.le_trans (show 7350 + 36 * N + 12 ≤ 500000 by omega) kRs⟩ rfl (Nat.le_of_ble_eq_true rfl) dL_law_481 (fun v9 => krw_adr (v9 := v9) (u9 := u9) (f9 := f9)) (fun b9 v1 h1 => ?_)
  obtain ⟨b0, rfl, h20, hf0, hI9⟩ := h1
  refine kg_istore cx dL_law_484 (by decide) ?_
  refine kg_aload_n cx dL_law_486 rfl ?_
  refine kg_callV (ci := 4) (na := 0) cx (kc_frame (r_thrown l D c rd v1) [] (kwo ad c n o u9 f9)) 0 rfl rfl kcd_X4_thrown km_L_69 kin_X4 kim_X4_thrown ksl_X4_thrown (by decide +kernel) rfl ⟨by decide, by decide⟩ ⟨Nat.le_trans (show 80 + 6 * N + 2 ≤ 60000 by omega) kRc, Nat.le_trans (show 7350 + 36 * N + 12 ≤ 500000 by omega) kRs⟩ rfl (Nat.le_of_ble_eq_true rfl) dL_law_487 (fun v9 => krw_adr (v9 := v9) (u9 := u9) (f9 := f9)) (fun b9 v2 h2 => ?_)
  obtain ⟨rfl, rfl⟩ := h2
  refine kg_iload cx dL_law_490 rfl ?_
  refine kg_icmp_eq cx 497 dL_law_492 (by decide) (fun _ => ?_) (fun h => absurd h20 h)
  refine kg_iload cx dL_law_497 rfl ?_
  refine kg_if_ne cx 514 dL_law_499 (by decide) (fun _ => kg_goto cx 909 dL_law_514 (by decide) (kg_widen (by omega) (by omega) (tail u9 v2 f9 (some (.int k5)) (some (.int b0)) hI9))) (fun h0 => ?_)
  refine kg_aload_n cx dL_law_502 rfl ?_
  refine kg_iconst (v := 0) cx dL_law_503 (by decide) ?_
  refine kg_lald cx (63 + n + n) 4 rfl krw_at (pk_in 0 1 (by decide)) dL_law_504 ?_
  refine kg_iload cx dL_law_505 rfl ?_
  refine kg_i2l cx dL_law_507 ?_
  refine kg_lcmp cx dL_law_508 ?_
  exact kg_if_eq cx 514 dL_law_509 (by decide) (fun _ => kg_goto cx 909 dL_law_514 (by decide) (kg_widen (by omega) (by omega) (tail u9 v2 f9 (some (.int k5)) (some (.int b0)) hI9))) (fun h => absurd ((lg_cmp_eq _ _).mpr (hf0 h0)) h)
set_option maxHeartbeats 4000000 in
set_option maxRecDepth 100000 in
theorem tt_flush {p : Program} {e : Env} {s : State} {m : MethodId} {below : List Frame} {meth : Method} {c9 : Code} (l : Launch) (hl : l.stackTraces = false) {b L : Nat} {xs : Nat → Int32} (hL : L ≤ 2561) (D : va_G) (c : Nat → ClassId) (ad : Nat → Nat → Nat) (rd : Nat → Nat) (n o : Nat) (cx : kg_c p s m #[Value.ref b] meth c9 code 7 RL D (kty c) (fun q => s.heap.size ≤ q)) (hX : va_X b L xs s s.heap) (hbl : b < s.heap.size) (hZ : kZ (fun q => s.heap.size ≤ q) s s.heap) (hY : kY s) (N : Nat) (hN : N ≤ 511) (hNL : 6 + 5 * N ≤ L) (u v : kS) (f : Nat → Int64) (hI : kI n N u v) (tail : ∀ (u9 v9 : kS) (f9 : Nat → Int64) (x5 x6 : Option Value), kI n (N + 1) u9 v9 → kg p l e room_1 s m #[Value.ref b] below meth c9 7 D (fun q => s.heap.size ≤ q) (lw_Z below #[Value.ref b] s) (80 + 6 * (N + 1)) (7350 + 36 * (N + 1)) (kr rd c v9 ++ kwo ad c n o u9 f9) 909 [some (.ref b), some (.ref (ad 0 0)), some (.ref (rd 0)), some (.ref o), some (.int (nI (1 + 5 * N))), x5, x6] []) : kg p l e room_1 s m #[Value.ref b] below meth c9 7 D (fun q => s.heap.size ≤ q) (lw_Z below #[Value.ref b] s) (80 + 6 * N) (7350 + 36 * N) (kr rd c v ++ kwo ad c n o u f) 517 [some (.ref b), some (.ref (ad 0 0)), some (.ref (rd 0)), some (.ref o), some (.int (nI (1 + 5 * N))), none, none] [] := by
  have hbA : ¬ (fun q => s.heap.size ≤ q) b := Nat.not_le.mpr hbl
  refine kg_aload_n cx dL_law_517 rfl ?_
  refine kg_aload_n cx dL_law_518 rfl ?_
  refine kg_iload cx dL_law_519 rfl ?_
  refine kg_iconst (v := 1) cx dL_law_521 (by decide) ?_
  refine kg_iadd cx dL_law_522 ?_
  refine kg_top (nI (1 + 5 * N + 1)) (nI_add (1 + 5 * N) 1) ?_
  refine kg_sld cx hX hbl hbA (1 + 5 * N + 1) rfl (by omega) (by omega) dL_law_523 ?_
  refine kg_aload_n cx dL_law_524 rfl ?_
  obtain ⟨post, hM, hq⟩ := q_flush l hl D c ad rd n o u v f N hI (by omega) (xs (1 + 5 * N + 1))
  refine kl_callS (na := 3) cx hZ hY (kl_frameL hM (kr rd c v)) kcd_L_flush km_L_94 kin_L kst_L_flush (by decide +kernel) rfl ⟨by decide, by decide⟩ ⟨Nat.le_trans (show 80 + 6 * N + 1 ≤ 60000 by omega) kRc, Nat.le_trans (show 7350 + 36 * N + 6 ≤ 500000 by omega) kRs⟩ rfl (Nat.le_of_ble_eq_true rfl) dL_law_525 (fun q => krw_adr (u9 := q.1) (f9 := q.2) (v9 := v)) (fun v9 q h9 => ?_)
  obtain ⟨k5, rfl, hR⟩ := hq v9 q h9
  obtain ⟨u9, f9⟩ := q
  dsimp only at hR ⊢
  refine kg_istore cx dL_law_528 (by decide) ?_
  refine kg_aload_n cx dL_law_530 rfl ?_
  refine kg_aload_n cx dL_law_531 rfl ?_
  refine kg_iload cx dL_law_532 rfl ?_
  refine kg_iconst (v := 1) cx dL_law_534 (by decide) ?_
  refine kg_iadd cx dL_law_535 ?_
  refine kg_top (nI (1 + 5 * N + 1)) (nI_add (1 + 5 * N) 1) ?_
  refine kg_sld cx hX hbl hbA (1 + 5 * N + 1) rfl (by omega) (by omega) dL_law_536 ?_
  refine kg_callV (ci := 4) (na := 1) cx (kc_frame hR [] (kwo ad c n o u9 f9)) 0 rfl rfl kcd_X4_flush km_L_96 kin_X4 kim_X4_flush ksl_X4_flush (by decide +kernel) rfl ⟨by decide, by decide⟩ ⟨Nat.le_trans (show 80 + 6 * N + 1 ≤ 60000 by omega) kRc, Nat.le_trans (show 7350 + 36 * N + 6 ≤ 500000 by omega) kRs⟩ rfl (Nat.le_of_ble_eq_true rfl) dL_law_537 (fun v9 => krw_adr (v9 := v9) (u9 := u9) (f9 := f9)) (fun b9 v1 h1 => ?_)
  obtain ⟨b0, rfl, h20, hf0, hI9⟩ := h1
  refine kg_istore cx dL_law_540 (by decide) ?_
  refine kg_aload_n cx dL_law_542 rfl ?_
  refine kg_callV (ci := 4) (na := 0) cx (kc_frame (r_thrown l D c rd v1) [] (kwo ad c n o u9 f9)) 0 rfl rfl kcd_X4_thrown km_L_69 kin_X4 kim_X4_thrown ksl_X4_thrown (by decide +kernel) rfl ⟨by decide, by decide⟩ ⟨Nat.le_trans (show 80 + 6 * N + 1 ≤ 60000 by omega) kRc, Nat.le_trans (show 7350 + 36 * N + 6 ≤ 500000 by omega) kRs⟩ rfl (Nat.le_of_ble_eq_true rfl) dL_law_543 (fun v9 => krw_adr (v9 := v9) (u9 := u9) (f9 := f9)) (fun b9 v2 h2 => ?_)
  obtain ⟨rfl, rfl⟩ := h2
  refine kg_iload cx dL_law_546 rfl ?_
  refine kg_icmp_eq cx 553 dL_law_548 (by decide) (fun _ => ?_) (fun h => absurd h20 h)
  refine kg_iload cx dL_law_553 rfl ?_
  refine kg_if_ne cx 570 dL_law_555 (by decide) (fun _ => kg_goto cx 909 dL_law_570 (by decide) (kg_widen (by omega) (by omega) (tail u9 v2 f9 (some (.int k5)) (some (.int b0)) hI9))) (fun h0 => ?_)
  refine kg_aload_n cx dL_law_558 rfl ?_
  refine kg_iconst (v := 0) cx dL_law_559 (by decide) ?_
  refine kg_lald cx (63 + n + n) 4 rfl krw_at (pk_in 0 1 (by decide)) dL_law_560 ?_
  refine kg_iload cx dL_law_561 rfl ?_
  refine kg_i2l cx dL_law_563 ?_
  refine kg_lcmp cx dL_law_564 ?_
  exact kg_if_eq cx 570 dL_law_565 (by decide) (fun _ => kg_goto cx 909 dL_law_570 (by decide) (kg_widen (by omega) (by omega) (tail u9 v2 f9 (some (.int k5)) (some (.int b0)) hI9))) (fun h => absurd ((lg_cmp_eq _ _).mpr (hf0 h0)) h)
set_option maxHeartbeats 4000000 in
set_option maxRecDepth 100000 in
theorem tt_clean {p : Program} {e : Env} {s : State} {m : MethodId} {below : List Frame} {meth : Method} {c9 : Code} (l : Launch) (hl : l.stackTraces = false) {b L : Nat} {xs : Nat → Int32} (hL : L ≤ 2561) (D : va_G) (c : Nat → ClassId) (ad : Nat → Nat → Nat) (rd : Nat → Nat) (n o : Nat) (cx : kg_c p s m #[Value.ref b] meth c9 code 7 RL D (kty c) (fun q => s.heap.size ≤ q)) (hX : va_X b L xs s s.heap) (hbl : b < s.heap.size) (hZ : kZ (fun q => s.heap.size ≤ q) s s.heap) (hY : kY s) (N : Nat) (hN : N ≤ 511) (hNL : 6 + 5 * N ≤ L) (u v : kS) (f : Nat → Int64) (hI : kI n N u v) (tail : ∀ (u9 v9 : kS) (f9 : Nat → Int64) (x5 x6 : Option Value), kI n (N + 1) u9 v9 → kg p l e room_1 s m #[Value.ref b] below meth c9 7 D (fun q => s.heap.size ≤ q) (lw_Z below #[Value.ref b] s) (80 + 6 * (N + 1)) (7350 + 36 * (N + 1)) (kr rd c v9 ++ kwo ad c n o u9 f9) 909 [some (.ref b), some (.ref (ad 0 0)), some (.ref (rd 0)), some (.ref o), some (.int (nI (1 + 5 * N))), x5, x6] []) : kg p l e room_1 s m #[Value.ref b] below meth c9 7 D (fun q => s.heap.size ≤ q) (lw_Z below #[Value.ref b] s) (80 + 6 * N) (7350 + 36 * N) (kr rd c v ++ kwo ad c n o u f) 573 [some (.ref b), some (.ref (ad 0 0)), some (.ref (rd 0)), some (.ref o), some (.int (nI (1 + 5 * N))), none, none] [] := by
  have hbA : ¬ (fun q => s.heap.size ≤ q) b := Nat.not_le.mpr hbl
  refine kg_aload_n cx dL_law_573 rfl ?_
  refine kg_aload_n cx dL_law_574 rfl ?_
  refine kg_iload cx dL_law_575 rfl ?_
  refine kg_iconst (v := 1) cx dL_law_577 (by decide) ?_
  refine kg_iadd cx dL_law_578 ?_
  refine kg_top (nI (1 + 5 * N + 1)) (nI_add (1 + 5 * N) 1) ?_
  refine kg_sld cx hX hbl hbA (1 + 5 * N + 1) rfl (by omega) (by omega) dL_law_579 ?_
  refine kg_aload_n cx dL_law_580 rfl ?_
  obtain ⟨post, hM, hq⟩ := q_clean l hl D c ad rd n o u v f N hI (by omega) (xs (1 + 5 * N + 1))
  refine kl_callS (na := 3) cx hZ hY (kl_frameL hM (kr rd c v)) kcd_L_clean km_L_97 kin_L kst_L_clean (by decide +kernel) rfl ⟨by decide, by decide⟩ ⟨Nat.le_trans (show 80 + 6 * N + 1 ≤ 60000 by omega) kRc, Nat.le_trans (show 7350 + 36 * N + 6 ≤ 500000 by omega) kRs⟩ rfl (Nat.le_of_ble_eq_true rfl) dL_law_581 (fun q => krw_adr (u9 := q.1) (f9 := q.2) (v9 := v)) (fun v9 q h9 => ?_)
  obtain ⟨k5, rfl, hR⟩ := hq v9 q h9
  obtain ⟨u9, f9⟩ := q
  dsimp only at hR ⊢
  refine kg_istore cx dL_law_584 (by decide) ?_
  refine kg_aload_n cx dL_law_586 rfl ?_
  refine kg_aload_n cx dL_law_587 rfl ?_
  refine kg_iload cx dL_law_588 rfl ?_
  refine kg_iconst (v := 1) cx dL_law_590 (by decide) ?_
  refine kg_iadd cx dL_law_591 ?_
  refine kg_top (nI (1 + 5 * N + 1)) (nI_add (1 + 5 * N) 1) ?_
  refine kg_sld cx hX hbl hbA (1 + 5 * N + 1) rfl (by omega) (by omega) dL_law_592 ?_
  refine kg_callV (ci := 4) (na := 1) cx (kc_frame hR [] (kwo ad c n o u9 f9)) 0 rfl rfl kcd_X4_clean km_L_99 kin_X4 kim_X4_clean ksl_X4_clean (by decide +kernel) rfl ⟨by decide, by decide⟩ ⟨Nat.le_trans (show 80 + 6 * N + 1 ≤ 60000 by omega) kRc, Nat.le_trans (show 7350 + 36 * N + 6 ≤ 500000 by omega) kRs⟩ rfl (Nat.le_of_ble_eq_true rfl) dL_law_593 (fun v9 => krw_adr (v9 := v9) (u9 := u9) (f9 := f9)) (fun b9 v1 h1 => ?_)
  obtain ⟨b0, rfl, h20, hf0, hI9⟩ := h1
  refine kg_istore cx dL_law_596 (by decide) ?_
  refine kg_aload_n cx dL_law_598 rfl ?_
  refine kg_callV (ci := 4) (na := 0) cx (kc_frame (r_thrown l D c rd v1) [] (kwo ad c n o u9 f9)) 0 rfl rfl kcd_X4_thrown km_L_69 kin_X4 kim_X4_thrown ksl_X4_thrown (by decide +kernel) rfl ⟨by decide, by decide⟩ ⟨Nat.le_trans (show 80 + 6 * N + 1 ≤ 60000 by omega) kRc, Nat.le_trans (show 7350 + 36 * N + 6 ≤ 500000 by omega) kRs⟩ rfl (Nat.le_of_ble_eq_true rfl) dL_law_599 (fun v9 => krw_adr (v9 := v9) (u9 := u9) (f9 := f9)) (fun b9 v2 h2 => ?_)
  obtain ⟨rfl, rfl⟩ := h2
  refine kg_iload cx dL_law_602 rfl ?_
  refine kg_icmp_eq cx 609 dL_law_604 (by decide) (fun _ => ?_) (fun h => absurd h20 h)
  refine kg_iload cx dL_law_609 rfl ?_
  refine kg_if_ne cx 633 dL_law_611 (by decide) (fun _ => kg_goto cx 909 dL_law_633 (by decide) (kg_widen (by omega) (by omega) (tail u9 v2 f9 (some (.int k5)) (some (.int b0)) hI9))) (fun h0 => ?_)
  refine kg_aload_n cx dL_law_614 rfl ?_
  refine kg_iconst (v := 0) cx dL_law_615 (by decide) ?_
  refine kg_lald cx (63 + n + n) 4 rfl krw_at (pk_in 0 1 (by decide)) dL_law_616 ?_
  refine kg_iload cx dL_law_617 rfl ?_
  refine kg_if_eq cx 626 dL_law_619 (by decide) (fun hz => ?_) (fun hz => ?_)
  · refine kg_lconst (v := 0) cx dL_law_626 (by decide) ?_
    refine kg_lcmp cx dL_law_627 ?_
    exact kg_if_eq cx 633 dL_law_628 (by decide) (fun _ => kg_goto cx 909 dL_law_633 (by decide) (kg_widen (by omega) (by omega) (tail u9 v2 f9 (some (.int k5)) (some (.int b0)) hI9))) (fun h => absurd ((lg_cmp_eq _ _).mpr (by have := hf0 h0; rw [if_pos hz] at this; exact this)) h)
  · refine kg_lconst (v := 1) cx dL_law_622 (by decide) ?_
    refine kg_goto cx 627 dL_law_623 (by decide) ?_
    refine kg_lcmp cx dL_law_627 ?_
    exact kg_if_eq cx 633 dL_law_628 (by decide) (fun _ => kg_goto cx 909 dL_law_633 (by decide) (kg_widen (by omega) (by omega) (tail u9 v2 f9 (some (.int k5)) (some (.int b0)) hI9))) (fun h => absurd ((lg_cmp_eq _ _).mpr (by have := hf0 h0; rw [if_neg hz] at this; exact this)) h)
set_option maxHeartbeats 4000000 in
set_option maxRecDepth 100000 in
theorem tt_crash {p : Program} {e : Env} {s : State} {m : MethodId} {below : List Frame} {meth : Method} {c9 : Code} (l : Launch) (hl : l.stackTraces = false) {b L : Nat} {xs : Nat → Int32} (hL : L ≤ 2561) (D : va_G) (c : Nat → ClassId) (ad : Nat → Nat → Nat) (rd : Nat → Nat) (n o : Nat) (cx : kg_c p s m #[Value.ref b] meth c9 code 7 RL D (kty c) (fun q => s.heap.size ≤ q)) (hX : va_X b L xs s s.heap) (hbl : b < s.heap.size) (hZ : kZ (fun q => s.heap.size ≤ q) s s.heap) (hY : kY s) (N : Nat) (hN : N ≤ 511) (hNL : 6 + 5 * N ≤ L) (u v : kS) (f : Nat → Int64) (hI : kI n N u v) (tail : ∀ (u9 v9 : kS) (f9 : Nat → Int64) (x5 x6 : Option Value), kI n (N + 1) u9 v9 → kg p l e room_1 s m #[Value.ref b] below meth c9 7 D (fun q => s.heap.size ≤ q) (lw_Z below #[Value.ref b] s) (80 + 6 * (N + 1)) (7350 + 36 * (N + 1)) (kr rd c v9 ++ kwo ad c n o u9 f9) 909 [some (.ref b), some (.ref (ad 0 0)), some (.ref (rd 0)), some (.ref o), some (.int (nI (1 + 5 * N))), x5, x6] []) : kg p l e room_1 s m #[Value.ref b] below meth c9 7 D (fun q => s.heap.size ≤ q) (lw_Z below #[Value.ref b] s) (80 + 6 * N) (7350 + 36 * N) (kr rd c v ++ kwo ad c n o u f) 636 [some (.ref b), some (.ref (ad 0 0)), some (.ref (rd 0)), some (.ref o), some (.int (nI (1 + 5 * N))), none, none] [] := by
  have hbA : ¬ (fun q => s.heap.size ≤ q) b := Nat.not_le.mpr hbl
  refine kg_aload_n cx dL_law_636 rfl ?_
  refine kg_callV (ci := 3) (na := 0) cx (kc_frame (q_crash l D c ad rd n u v N hI) (kr rd c v) [(o, .inl (c 4, 1, .inr (.inl f)))]) 19 rfl rfl kcd_X3_crash km_L_100 kin_X3 kim_X3_crash ksl_X3_crash (by decide +kernel) rfl ⟨by decide, by decide⟩ ⟨Nat.le_trans (show 80 + 6 * N ≤ 60000 by omega) kRc, Nat.le_trans (show 7350 + 36 * N ≤ 500000 by omega) kRs⟩ rfl (Nat.le_of_ble_eq_true rfl) dL_law_637 (fun u9 => krw_adr (u9 := u9) (v9 := v) (f9 := f)) (fun v9 u9 h9 => ?_)
  obtain ⟨r, rfl, hR⟩ := h9
  refine kg_aload_n cx dL_law_640 rfl ?_
  refine kg_callV (ci := 4) (na := 0) cx (kc_frame hR [] (kwo ad c n o u9 f)) 0 rfl rfl kcd_X4_crash km_L_103 kin_X4 kim_X4_crash ksl_X4_crash (by decide +kernel) rfl ⟨by decide, by decide⟩ ⟨Nat.le_trans (show 80 + 6 * N ≤ 60000 by omega) kRc, Nat.le_trans (show 7350 + 36 * N ≤ 500000 by omega) kRs⟩ rfl (Nat.le_of_ble_eq_true rfl) dL_law_641 (fun v9 => krw_adr (v9 := v9) (u9 := u9) (f9 := f)) (fun b9 v1 h1 => ?_)
  obtain ⟨rfl, hI9⟩ := h1
  exact kg_icmp_eq cx 909 dL_law_644 (by decide) (fun _ => kg_widen (by omega) (by omega) (tail u9 v1 f none none hI9)) (fun h => absurd rfl h)
set_option maxHeartbeats 4000000 in
set_option maxRecDepth 100000 in
theorem tt_disk {p : Program} {e : Env} {s : State} {m : MethodId} {below : List Frame} {meth : Method} {c9 : Code} (l : Launch) (hl : l.stackTraces = false) {b L : Nat} {xs : Nat → Int32} (hL : L ≤ 2561) (D : va_G) (c : Nat → ClassId) (ad : Nat → Nat → Nat) (rd : Nat → Nat) (n o : Nat) (cx : kg_c p s m #[Value.ref b] meth c9 code 7 RL D (kty c) (fun q => s.heap.size ≤ q)) (hX : va_X b L xs s s.heap) (hbl : b < s.heap.size) (hZ : kZ (fun q => s.heap.size ≤ q) s s.heap) (hY : kY s) (N : Nat) (hN : N ≤ 511) (hNL : 6 + 5 * N ≤ L) (u v : kS) (f : Nat → Int64) (hI : kI n N u v) (tail : ∀ (u9 v9 : kS) (f9 : Nat → Int64) (x5 x6 : Option Value), kI n (N + 1) u9 v9 → kg p l e room_1 s m #[Value.ref b] below meth c9 7 D (fun q => s.heap.size ≤ q) (lw_Z below #[Value.ref b] s) (80 + 6 * (N + 1)) (7350 + 36 * (N + 1)) (kr rd c v9 ++ kwo ad c n o u9 f9) 909 [some (.ref b), some (.ref (ad 0 0)), some (.ref (rd 0)), some (.ref o), some (.int (nI (1 + 5 * N))), x5, x6] []) : kg p l e room_1 s m #[Value.ref b] below meth c9 7 D (fun q => s.heap.size ≤ q) (lw_Z below #[Value.ref b] s) (80 + 6 * N) (7350 + 36 * N) (kr rd c v ++ kwo ad c n o u f) 649 [some (.ref b), some (.ref (ad 0 0)), some (.ref (rd 0)), some (.ref o), some (.int (nI (1 + 5 * N))), none, none] [] := by
  have hbA : ¬ (fun q => s.heap.size ≤ q) b := Nat.not_le.mpr hbl
  refine kg_aload_n cx dL_law_649 rfl ?_
  refine kg_aload_n cx dL_law_650 rfl ?_
  refine kg_iload cx dL_law_651 rfl ?_
  refine kg_iconst (v := 1) cx dL_law_653 (by decide) ?_
  refine kg_iadd cx dL_law_654 ?_
  refine kg_top (nI (1 + 5 * N + 1)) (nI_add (1 + 5 * N) 1) ?_
  refine kg_sld cx hX hbl hbA (1 + 5 * N + 1) rfl (by omega) (by omega) dL_law_655 ?_
  refine kg_aload_n cx dL_law_656 rfl ?_
  refine kg_iload cx dL_law_657 rfl ?_
  refine kg_iconst (v := (nI 2)) cx dL_law_659 (by decide) ?_
  refine kg_iadd cx dL_law_660 ?_
  refine kg_top (nI (1 + 5 * N + 2)) (nI_add (1 + 5 * N) 2) ?_
  refine kg_sld cx hX hbl hbA (1 + 5 * N + 2) rfl (by omega) (by omega) dL_law_661 ?_
  refine kg_aload_n cx dL_law_662 rfl ?_
  obtain ⟨post, hM, hq⟩ := q_disk l hl D c ad rd n o u v f N hI (by omega) (xs (1 + 5 * N + 1)) (xs (1 + 5 * N + 2))
  refine kl_callS (na := 4) cx hZ hY (kl_frameL hM (kr rd c v)) kcd_L_disk km_L_104 kin_L kst_L_disk (by decide +kernel) rfl ⟨by decide, by decide⟩ ⟨Nat.le_trans (show 80 + 6 * N + 2 ≤ 60000 by omega) kRc, Nat.le_trans (show 7350 + 36 * N + 12 ≤ 500000 by omega) kRs⟩ rfl (Nat.le_of_ble_eq_true rfl) dL_law_663 (fun q => krw_adr (u9 := q.1) (f9 := q.2) (v9 := v)) (fun v9 q h9 => ?_)
  obtain ⟨k5, rfl, hR⟩ := hq v9 q h9
  obtain ⟨u9, f9⟩ := q
  dsimp only at hR ⊢
  refine kg_istore cx dL_law_666 (by decide) ?_
  refine kg_aload_n cx dL_law_668 rfl ?_
  refine kg_aload_n cx dL_law_669 rfl ?_
  refine kg_iload cx dL_law_670 rfl ?_
  refine kg_iconst (v := 1) cx dL_law_672 (by decide) ?_
  refine kg_iadd cx dL_law_673 ?_
  refine kg_top (nI (1 + 5 * N + 1)) (nI_add (1 + 5 * N) 1) ?_
  refine kg_sld cx hX hbl hbA (1 + 5 * N + 1) rfl (by omega) (by omega) dL_law_674 ?_
  refine kg_aload_n cx dL_law_675 rfl ?_
  refine kg_iload cx dL_law_676 rfl ?_
  refine kg_iconst (v := (nI 2)) cx dL_law_678 (by decide) ?_
  refine kg_iadd cx dL_law_679 ?_
  refine kg_top (nI (1 + 5 * N + 2)) (nI_add (1 + 5 * N) 2) ?_
  refine kg_sld cx hX hbl hbA (1 + 5 * N + 2) rfl (by omega) (by omega) dL_law_680 ?_
  refine kg_callV (ci := 4) (na := 2) cx (kc_frame hR [] (kwo ad c n o u9 f9)) 0 rfl rfl kcd_X4_disk km_L_106 kin_X4 kim_X4_disk ksl_X4_disk (by decide +kernel) rfl ⟨by decide, by decide⟩ ⟨Nat.le_trans (show 80 + 6 * N + 2 ≤ 60000 by omega) kRc, Nat.le_trans (show 7350 + 36 * N + 12 ≤ 500000 by omega) kRs⟩ rfl (Nat.le_of_ble_eq_true rfl) dL_law_681 (fun v9 => krw_adr (v9 := v9) (u9 := u9) (f9 := f9)) (fun b9 v1 h1 => ?_)
  obtain ⟨b0, rfl, h20, hf0, hI9⟩ := h1
  refine kg_istore cx dL_law_684 (by decide) ?_
  refine kg_aload_n cx dL_law_686 rfl ?_
  refine kg_callV (ci := 4) (na := 0) cx (kc_frame (r_thrown l D c rd v1) [] (kwo ad c n o u9 f9)) 0 rfl rfl kcd_X4_thrown km_L_69 kin_X4 kim_X4_thrown ksl_X4_thrown (by decide +kernel) rfl ⟨by decide, by decide⟩ ⟨Nat.le_trans (show 80 + 6 * N + 2 ≤ 60000 by omega) kRc, Nat.le_trans (show 7350 + 36 * N + 12 ≤ 500000 by omega) kRs⟩ rfl (Nat.le_of_ble_eq_true rfl) dL_law_687 (fun v9 => krw_adr (v9 := v9) (u9 := u9) (f9 := f9)) (fun b9 v2 h2 => ?_)
  obtain ⟨rfl, rfl⟩ := h2
  refine kg_iload cx dL_law_690 rfl ?_
  refine kg_icmp_eq cx 697 dL_law_692 (by decide) (fun _ => ?_) (fun h => absurd h20 h)
  refine kg_iload cx dL_law_697 rfl ?_
  refine kg_if_ne cx 714 dL_law_699 (by decide) (fun _ => kg_goto cx 909 dL_law_714 (by decide) (kg_widen (by omega) (by omega) (tail u9 v2 f9 (some (.int k5)) (some (.int b0)) hI9))) (fun h0 => ?_)
  refine kg_aload_n cx dL_law_702 rfl ?_
  refine kg_iconst (v := 0) cx dL_law_703 (by decide) ?_
  refine kg_lald cx (63 + n + n) 4 rfl krw_at (pk_in 0 1 (by decide)) dL_law_704 ?_
  refine kg_iload cx dL_law_705 rfl ?_
  refine kg_i2l cx dL_law_707 ?_
  refine kg_lcmp cx dL_law_708 ?_
  exact kg_if_eq cx 714 dL_law_709 (by decide) (fun _ => kg_goto cx 909 dL_law_714 (by decide) (kg_widen (by omega) (by omega) (tail u9 v2 f9 (some (.int k5)) (some (.int b0)) hI9))) (fun h => absurd ((lg_cmp_eq _ _).mpr (hf0 h0)) h)
set_option maxHeartbeats 4000000 in
set_option maxRecDepth 100000 in
theorem tt_frame {p : Program} {e : Env} {s : State} {m : MethodId} {below : List Frame} {meth : Method} {c9 : Code} (l : Launch) (hl : l.stackTraces = false) {b L : Nat} {xs : Nat → Int32} (hL : L ≤ 2561) (D : va_G) (c : Nat → ClassId) (ad : Nat → Nat → Nat) (rd : Nat → Nat) (n o : Nat) (cx : kg_c p s m #[Value.ref b] meth c9 code 7 RL D (kty c) (fun q => s.heap.size ≤ q)) (hX : va_X b L xs s s.heap) (hbl : b < s.heap.size) (hZ : kZ (fun q => s.heap.size ≤ q) s s.heap) (hY : kY s) (N : Nat) (hN : N ≤ 511) (hNL : 6 + 5 * N ≤ L) (u v : kS) (f : Nat → Int64) (hI : kI n N u v) (tail : ∀ (u9 v9 : kS) (f9 : Nat → Int64) (x5 x6 : Option Value), kI n (N + 1) u9 v9 → kg p l e room_1 s m #[Value.ref b] below meth c9 7 D (fun q => s.heap.size ≤ q) (lw_Z below #[Value.ref b] s) (80 + 6 * (N + 1)) (7350 + 36 * (N + 1)) (kr rd c v9 ++ kwo ad c n o u9 f9) 909 [some (.ref b), some (.ref (ad 0 0)), some (.ref (rd 0)), some (.ref o), some (.int (nI (1 + 5 * N))), x5, x6] []) : kg p l e room_1 s m #[Value.ref b] below meth c9 7 D (fun q => s.heap.size ≤ q) (lw_Z below #[Value.ref b] s) (80 + 6 * N) (7350 + 36 * N) (kr rd c v ++ kwo ad c n o u f) 717 [some (.ref b), some (.ref (ad 0 0)), some (.ref (rd 0)), some (.ref o), some (.int (nI (1 + 5 * N))), none, none] [] := by
  have hbA : ¬ (fun q => s.heap.size ≤ q) b := Nat.not_le.mpr hbl
  refine kg_aload_n cx dL_law_717 rfl ?_
  refine kg_aload_n cx dL_law_718 rfl ?_
  refine kg_iload cx dL_law_719 rfl ?_
  refine kg_iconst (v := 1) cx dL_law_721 (by decide) ?_
  refine kg_iadd cx dL_law_722 ?_
  refine kg_top (nI (1 + 5 * N + 1)) (nI_add (1 + 5 * N) 1) ?_
  refine kg_sld cx hX hbl hbA (1 + 5 * N + 1) rfl (by omega) (by omega) dL_law_723 ?_
  refine kg_aload_n cx dL_law_724 rfl ?_
  refine kg_iload cx dL_law_725 rfl ?_
  refine kg_iconst (v := (nI 2)) cx dL_law_727 (by decide) ?_
  refine kg_iadd cx dL_law_728 ?_
  refine kg_top (nI (1 + 5 * N + 2)) (nI_add (1 + 5 * N) 2) ?_
  refine kg_sld cx hX hbl hbA (1 + 5 * N + 2) rfl (by omega) (by omega) dL_law_729 ?_
  refine kg_aload_n cx dL_law_730 rfl ?_
  obtain ⟨post, hM, hq⟩ := q_frame l hl D c ad rd n o u v f N hI (by omega) (xs (1 + 5 * N + 1)) (xs (1 + 5 * N + 2))
  refine kl_callS (na := 4) cx hZ hY (kl_frameL hM (kr rd c v)) kcd_L_frame km_L_107 kin_L kst_L_frame (by decide +kernel) rfl ⟨by decide, by decide⟩ ⟨Nat.le_trans (show 80 + 6 * N + 2 ≤ 60000 by omega) kRc, Nat.le_trans (show 7350 + 36 * N + 12 ≤ 500000 by omega) kRs⟩ rfl (Nat.le_of_ble_eq_true rfl) dL_law_731 (fun q => krw_adr (u9 := q.1) (f9 := q.2) (v9 := v)) (fun v9 q h9 => ?_)
  obtain ⟨k5, rfl, hR⟩ := hq v9 q h9
  obtain ⟨u9, f9⟩ := q
  dsimp only at hR ⊢
  refine kg_istore cx dL_law_734 (by decide) ?_
  refine kg_aload_n cx dL_law_736 rfl ?_
  refine kg_aload_n cx dL_law_737 rfl ?_
  refine kg_iload cx dL_law_738 rfl ?_
  refine kg_iconst (v := 1) cx dL_law_740 (by decide) ?_
  refine kg_iadd cx dL_law_741 ?_
  refine kg_top (nI (1 + 5 * N + 1)) (nI_add (1 + 5 * N) 1) ?_
  refine kg_sld cx hX hbl hbA (1 + 5 * N + 1) rfl (by omega) (by omega) dL_law_742 ?_
  refine kg_aload_n cx dL_law_743 rfl ?_
  refine kg_iload cx dL_law_744 rfl ?_
  refine kg_iconst (v := (nI 2)) cx dL_law_746 (by decide) ?_
  refine kg_iadd cx dL_law_747 ?_
  refine kg_top (nI (1 + 5 * N + 2)) (nI_add (1 + 5 * N) 2) ?_
  refine kg_sld cx hX hbl hbA (1 + 5 * N + 2) rfl (by omega) (by omega) dL_law_748 ?_
  refine kg_callV (ci := 4) (na := 2) cx (kc_frame hR [] (kwo ad c n o u9 f9)) 0 rfl rfl kcd_X4_frame km_L_109 kin_X4 kim_X4_frame ksl_X4_frame (by decide +kernel) rfl ⟨by decide, by decide⟩ ⟨Nat.le_trans (show 80 + 6 * N + 2 ≤ 60000 by omega) kRc, Nat.le_trans (show 7350 + 36 * N + 12 ≤ 500000 by omega) kRs⟩ rfl (Nat.le_of_ble_eq_true rfl) dL_law_749 (fun v9 => krw_adr (v9 := v9) (u9 := u9) (f9 := f9)) (fun b9 v1 h1 => ?_)
  obtain ⟨b0, rfl, h20, hf0, hI9⟩ := h1
  refine kg_istore cx dL_law_752 (by decide) ?_
  refine kg_aload_n cx dL_law_754 rfl ?_
  refine kg_callV (ci := 4) (na := 0) cx (kc_frame (r_thrown l D c rd v1) [] (kwo ad c n o u9 f9)) 0 rfl rfl kcd_X4_thrown km_L_69 kin_X4 kim_X4_thrown ksl_X4_thrown (by decide +kernel) rfl ⟨by decide, by decide⟩ ⟨Nat.le_trans (show 80 + 6 * N + 2 ≤ 60000 by omega) kRc, Nat.le_trans (show 7350 + 36 * N + 12 ≤ 500000 by omega) kRs⟩ rfl (Nat.le_of_ble_eq_true rfl) dL_law_755 (fun v9 => krw_adr (v9 := v9) (u9 := u9) (f9 := f9)) (fun b9 v2 h2 => ?_)
  obtain ⟨rfl, rfl⟩ := h2
  refine kg_iload cx dL_law_758 rfl ?_
  refine kg_icmp_eq cx 765 dL_law_760 (by decide) (fun _ => ?_) (fun h => absurd h20 h)
  refine kg_iload cx dL_law_765 rfl ?_
  refine kg_if_ne cx 782 dL_law_767 (by decide) (fun _ => kg_goto cx 909 dL_law_782 (by decide) (kg_widen (by omega) (by omega) (tail u9 v2 f9 (some (.int k5)) (some (.int b0)) hI9))) (fun h0 => ?_)
  refine kg_aload_n cx dL_law_770 rfl ?_
  refine kg_iconst (v := 0) cx dL_law_771 (by decide) ?_
  refine kg_lald cx (63 + n + n) 4 rfl krw_at (pk_in 0 1 (by decide)) dL_law_772 ?_
  refine kg_iload cx dL_law_773 rfl ?_
  refine kg_i2l cx dL_law_775 ?_
  refine kg_lcmp cx dL_law_776 ?_
  exact kg_if_eq cx 782 dL_law_777 (by decide) (fun _ => kg_goto cx 909 dL_law_782 (by decide) (kg_widen (by omega) (by omega) (tail u9 v2 f9 (some (.int k5)) (some (.int b0)) hI9))) (fun h => absurd ((lg_cmp_eq _ _).mpr (hf0 h0)) h)
set_option maxHeartbeats 4000000 in
set_option maxRecDepth 100000 in
theorem tt_log {p : Program} {e : Env} {s : State} {m : MethodId} {below : List Frame} {meth : Method} {c9 : Code} (l : Launch) (hl : l.stackTraces = false) {b L : Nat} {xs : Nat → Int32} (hL : L ≤ 2561) (D : va_G) (c : Nat → ClassId) (ad : Nat → Nat → Nat) (rd : Nat → Nat) (n o : Nat) (cx : kg_c p s m #[Value.ref b] meth c9 code 7 RL D (kty c) (fun q => s.heap.size ≤ q)) (hX : va_X b L xs s s.heap) (hbl : b < s.heap.size) (hZ : kZ (fun q => s.heap.size ≤ q) s s.heap) (hY : kY s) (N : Nat) (hN : N ≤ 511) (hNL : 6 + 5 * N ≤ L) (u v : kS) (f : Nat → Int64) (hI : kI n N u v) (tail : ∀ (u9 v9 : kS) (f9 : Nat → Int64) (x5 x6 : Option Value), kI n (N + 1) u9 v9 → kg p l e room_1 s m #[Value.ref b] below meth c9 7 D (fun q => s.heap.size ≤ q) (lw_Z below #[Value.ref b] s) (80 + 6 * (N + 1)) (7350 + 36 * (N + 1)) (kr rd c v9 ++ kwo ad c n o u9 f9) 909 [some (.ref b), some (.ref (ad 0 0)), some (.ref (rd 0)), some (.ref o), some (.int (nI (1 + 5 * N))), x5, x6] []) : kg p l e room_1 s m #[Value.ref b] below meth c9 7 D (fun q => s.heap.size ≤ q) (lw_Z below #[Value.ref b] s) (80 + 6 * N) (7350 + 36 * N) (kr rd c v ++ kwo ad c n o u f) 785 [some (.ref b), some (.ref (ad 0 0)), some (.ref (rd 0)), some (.ref o), some (.int (nI (1 + 5 * N))), none, none] [] := by
  have hbA : ¬ (fun q => s.heap.size ≤ q) b := Nat.not_le.mpr hbl
  refine kg_aload_n cx dL_law_785 rfl ?_
  refine kg_aload_n cx dL_law_786 rfl ?_
  refine kg_iload cx dL_law_787 rfl ?_
  refine kg_iconst (v := 1) cx dL_law_789 (by decide) ?_
  refine kg_iadd cx dL_law_790 ?_
  refine kg_top (nI (1 + 5 * N + 1)) (nI_add (1 + 5 * N) 1) ?_
  refine kg_sld cx hX hbl hbA (1 + 5 * N + 1) rfl (by omega) (by omega) dL_law_791 ?_
  refine kg_aload_n cx dL_law_792 rfl ?_
  refine kg_iload cx dL_law_793 rfl ?_
  refine kg_iconst (v := (nI 2)) cx dL_law_795 (by decide) ?_
  refine kg_iadd cx dL_law_796 ?_
  refine kg_top (nI (1 + 5 * N + 2)) (nI_add (1 + 5 * N) 2) ?_
  refine kg_sld cx hX hbl hbA (1 + 5 * N + 2) rfl (by omega) (by omega) dL_law_797 ?_
  refine kg_aload_n cx dL_law_798 rfl ?_
  obtain ⟨post, hM, hq⟩ := q_log l hl D c ad rd n o u v f N hI (by omega) (xs (1 + 5 * N + 1)) (xs (1 + 5 * N + 2))
  refine kl_callS (na := 4) cx hZ hY (kl_frameL hM (kr rd c v)) kcd_L_log km_L_110 kin_L kst_L_log (by decide +kernel) rfl ⟨by decide, by decide⟩ ⟨Nat.le_trans (show 80 + 6 * N + 2 ≤ 60000 by omega) kRc, Nat.le_trans (show 7350 + 36 * N + 12 ≤ 500000 by omega) kRs⟩ rfl (Nat.le_of_ble_eq_true rfl) dL_law_799 (fun q => krw_adr (u9 := q.1) (f9 := q.2) (v9 := v)) (fun v9 q h9 => ?_)
  obtain ⟨k5, rfl, hR⟩ := hq v9 q h9
  obtain ⟨u9, f9⟩ := q
  dsimp only at hR ⊢
  refine kg_istore cx dL_law_802 (by decide) ?_
  refine kg_aload_n cx dL_law_804 rfl ?_
  refine kg_aload_n cx dL_law_805 rfl ?_
  refine kg_iload cx dL_law_806 rfl ?_
  refine kg_iconst (v := 1) cx dL_law_808 (by decide) ?_
  refine kg_iadd cx dL_law_809 ?_
  refine kg_top (nI (1 + 5 * N + 1)) (nI_add (1 + 5 * N) 1) ?_
  refine kg_sld cx hX hbl hbA (1 + 5 * N + 1) rfl (by omega) (by omega) dL_law_810 ?_
  refine kg_aload_n cx dL_law_811 rfl ?_
  refine kg_iload cx dL_law_812 rfl ?_
  refine kg_iconst (v := (nI 2)) cx dL_law_814 (by decide) ?_
  refine kg_iadd cx dL_law_815 ?_
  refine kg_top (nI (1 + 5 * N + 2)) (nI_add (1 + 5 * N) 2) ?_
  refine kg_sld cx hX hbl hbA (1 + 5 * N + 2) rfl (by omega) (by omega) dL_law_816 ?_
  refine kg_callV (ci := 4) (na := 2) cx (kc_frame hR [] (kwo ad c n o u9 f9)) 0 rfl rfl kcd_X4_log km_L_112 kin_X4 kim_X4_log ksl_X4_log (by decide +kernel) rfl ⟨by decide, by decide⟩ ⟨Nat.le_trans (show 80 + 6 * N + 2 ≤ 60000 by omega) kRc, Nat.le_trans (show 7350 + 36 * N + 12 ≤ 500000 by omega) kRs⟩ rfl (Nat.le_of_ble_eq_true rfl) dL_law_817 (fun v9 => krw_adr (v9 := v9) (u9 := u9) (f9 := f9)) (fun b9 v1 h1 => ?_)
  obtain ⟨b0, rfl, h20, hf0, hI9⟩ := h1
  refine kg_istore cx dL_law_820 (by decide) ?_
  refine kg_aload_n cx dL_law_822 rfl ?_
  refine kg_callV (ci := 4) (na := 0) cx (kc_frame (r_thrown l D c rd v1) [] (kwo ad c n o u9 f9)) 0 rfl rfl kcd_X4_thrown km_L_69 kin_X4 kim_X4_thrown ksl_X4_thrown (by decide +kernel) rfl ⟨by decide, by decide⟩ ⟨Nat.le_trans (show 80 + 6 * N + 2 ≤ 60000 by omega) kRc, Nat.le_trans (show 7350 + 36 * N + 12 ≤ 500000 by omega) kRs⟩ rfl (Nat.le_of_ble_eq_true rfl) dL_law_823 (fun v9 => krw_adr (v9 := v9) (u9 := u9) (f9 := f9)) (fun b9 v2 h2 => ?_)
  obtain ⟨rfl, rfl⟩ := h2
  refine kg_iload cx dL_law_826 rfl ?_
  refine kg_icmp_eq cx 833 dL_law_828 (by decide) (fun _ => ?_) (fun h => absurd h20 h)
  refine kg_iload cx dL_law_833 rfl ?_
  refine kg_if_ne cx 850 dL_law_835 (by decide) (fun _ => kg_goto cx 909 dL_law_850 (by decide) (kg_widen (by omega) (by omega) (tail u9 v2 f9 (some (.int k5)) (some (.int b0)) hI9))) (fun h0 => ?_)
  refine kg_aload_n cx dL_law_838 rfl ?_
  refine kg_iconst (v := 0) cx dL_law_839 (by decide) ?_
  refine kg_lald cx (63 + n + n) 4 rfl krw_at (pk_in 0 1 (by decide)) dL_law_840 ?_
  refine kg_iload cx dL_law_841 rfl ?_
  refine kg_i2l cx dL_law_843 ?_
  refine kg_lcmp cx dL_law_844 ?_
  exact kg_if_eq cx 850 dL_law_845 (by decide) (fun _ => kg_goto cx 909 dL_law_850 (by decide) (kg_widen (by omega) (by omega) (tail u9 v2 f9 (some (.int k5)) (some (.int b0)) hI9))) (fun h => absurd ((lg_cmp_eq _ _).mpr (hf0 h0)) h)
set_option maxHeartbeats 4000000 in
set_option maxRecDepth 100000 in
theorem tt_count {p : Program} {e : Env} {s : State} {m : MethodId} {below : List Frame} {meth : Method} {c9 : Code} (l : Launch) (hl : l.stackTraces = false) {b L : Nat} {xs : Nat → Int32} (hL : L ≤ 2561) (D : va_G) (c : Nat → ClassId) (ad : Nat → Nat → Nat) (rd : Nat → Nat) (n o : Nat) (cx : kg_c p s m #[Value.ref b] meth c9 code 7 RL D (kty c) (fun q => s.heap.size ≤ q)) (hX : va_X b L xs s s.heap) (hbl : b < s.heap.size) (hZ : kZ (fun q => s.heap.size ≤ q) s s.heap) (hY : kY s) (N : Nat) (hN : N ≤ 511) (hNL : 6 + 5 * N ≤ L) (u v : kS) (f : Nat → Int64) (hI : kI n N u v) (tail : ∀ (u9 v9 : kS) (f9 : Nat → Int64) (x5 x6 : Option Value), kI n (N + 1) u9 v9 → kg p l e room_1 s m #[Value.ref b] below meth c9 7 D (fun q => s.heap.size ≤ q) (lw_Z below #[Value.ref b] s) (80 + 6 * (N + 1)) (7350 + 36 * (N + 1)) (kr rd c v9 ++ kwo ad c n o u9 f9) 909 [some (.ref b), some (.ref (ad 0 0)), some (.ref (rd 0)), some (.ref o), some (.int (nI (1 + 5 * N))), x5, x6] []) : kg p l e room_1 s m #[Value.ref b] below meth c9 7 D (fun q => s.heap.size ≤ q) (lw_Z below #[Value.ref b] s) (80 + 6 * N) (7350 + 36 * N) (kr rd c v ++ kwo ad c n o u f) 853 [some (.ref b), some (.ref (ad 0 0)), some (.ref (rd 0)), some (.ref o), some (.int (nI (1 + 5 * N))), none, none] [] := by
  have hbA : ¬ (fun q => s.heap.size ≤ q) b := Nat.not_le.mpr hbl
  refine kg_aload_n cx dL_law_853 rfl ?_
  refine kg_aload_n cx dL_law_854 rfl ?_
  refine kg_iload cx dL_law_855 rfl ?_
  refine kg_iconst (v := 1) cx dL_law_857 (by decide) ?_
  refine kg_iadd cx dL_law_858 ?_
  refine kg_top (nI (1 + 5 * N + 1)) (nI_add (1 + 5 * N) 1) ?_
  refine kg_sld cx hX hbl hbA (1 + 5 * N + 1) rfl (by omega) (by omega) dL_law_859 ?_
  refine kg_aload_n cx dL_law_860 rfl ?_
  obtain ⟨post, hM, hq⟩ := q_count l hl D c ad rd n o u v f N hI (by omega) (xs (1 + 5 * N + 1))
  refine kl_callS (na := 3) cx hZ hY (kl_frameL hM (kr rd c v)) kcd_L_count km_L_113 kin_L kst_L_count (by decide +kernel) rfl ⟨by decide, by decide⟩ ⟨Nat.le_trans (show 80 + 6 * N + 1 ≤ 60000 by omega) kRc, Nat.le_trans (show 7350 + 36 * N + 6 ≤ 500000 by omega) kRs⟩ rfl (Nat.le_of_ble_eq_true rfl) dL_law_861 (fun q => krw_adr (u9 := q.1) (f9 := q.2) (v9 := v)) (fun v9 q h9 => ?_)
  obtain ⟨k5, rfl, hR⟩ := hq v9 q h9
  obtain ⟨u9, f9⟩ := q
  dsimp only at hR ⊢
  refine kg_istore cx dL_law_864 (by decide) ?_
  refine kg_aload_n cx dL_law_866 rfl ?_
  refine kg_aload_n cx dL_law_867 rfl ?_
  refine kg_iload cx dL_law_868 rfl ?_
  refine kg_iconst (v := 1) cx dL_law_870 (by decide) ?_
  refine kg_iadd cx dL_law_871 ?_
  refine kg_top (nI (1 + 5 * N + 1)) (nI_add (1 + 5 * N) 1) ?_
  refine kg_sld cx hX hbl hbA (1 + 5 * N + 1) rfl (by omega) (by omega) dL_law_872 ?_
  refine kg_callV (ci := 4) (na := 1) cx (kc_frame hR [] (kwo ad c n o u9 f9)) 0 rfl rfl kcd_X4_count km_L_115 kin_X4 kim_X4_count ksl_X4_count (by decide +kernel) rfl ⟨by decide, by decide⟩ ⟨Nat.le_trans (show 80 + 6 * N + 1 ≤ 60000 by omega) kRc, Nat.le_trans (show 7350 + 36 * N + 6 ≤ 500000 by omega) kRs⟩ rfl (Nat.le_of_ble_eq_true rfl) dL_law_873 (fun v9 => krw_adr (v9 := v9) (u9 := u9) (f9 := f9)) (fun b9 v1 h1 => ?_)
  obtain ⟨b0, rfl, h20, hf0, hI9⟩ := h1
  refine kg_istore cx dL_law_876 (by decide) ?_
  refine kg_aload_n cx dL_law_878 rfl ?_
  refine kg_callV (ci := 4) (na := 0) cx (kc_frame (r_thrown l D c rd v1) [] (kwo ad c n o u9 f9)) 0 rfl rfl kcd_X4_thrown km_L_69 kin_X4 kim_X4_thrown ksl_X4_thrown (by decide +kernel) rfl ⟨by decide, by decide⟩ ⟨Nat.le_trans (show 80 + 6 * N + 1 ≤ 60000 by omega) kRc, Nat.le_trans (show 7350 + 36 * N + 6 ≤ 500000 by omega) kRs⟩ rfl (Nat.le_of_ble_eq_true rfl) dL_law_879 (fun v9 => krw_adr (v9 := v9) (u9 := u9) (f9 := f9)) (fun b9 v2 h2 => ?_)
  obtain ⟨rfl, rfl⟩ := h2
  refine kg_iload cx dL_law_882 rfl ?_
  refine kg_icmp_eq cx 889 dL_law_884 (by decide) (fun _ => ?_) (fun h => absurd h20 h)
  refine kg_iload cx dL_law_889 rfl ?_
  refine kg_if_ne cx 906 dL_law_891 (by decide) (fun _ => kg_goto cx 909 dL_law_906 (by decide) (kg_widen (by omega) (by omega) (tail u9 v2 f9 (some (.int k5)) (some (.int b0)) hI9))) (fun h0 => ?_)
  refine kg_aload_n cx dL_law_894 rfl ?_
  refine kg_iconst (v := 0) cx dL_law_895 (by decide) ?_
  refine kg_lald cx (63 + n + n) 4 rfl krw_at (pk_in 0 1 (by decide)) dL_law_896 ?_
  refine kg_iload cx dL_law_897 rfl ?_
  refine kg_i2l cx dL_law_899 ?_
  refine kg_lcmp cx dL_law_900 ?_
  exact kg_if_eq cx 906 dL_law_901 (by decide) (fun _ => kg_goto cx 909 dL_law_906 (by decide) (kg_widen (by omega) (by omega) (tail u9 v2 f9 (some (.int k5)) (some (.int b0)) hI9))) (fun h => absurd ((lg_cmp_eq _ _).mpr (hf0 h0)) h)
set_option maxHeartbeats 4000000 in
set_option maxRecDepth 100000 in
theorem law_loop {p : Program} {e : Env} {s : State} {m : MethodId} {below : List Frame} {meth : Method} {c9 : Code} (l : Launch) (hl : l.stackTraces = false) {b L : Nat} {xs : Nat → Int32} (hL : L ≤ 2561) (D : va_G) (c : Nat → ClassId) (ad : Nat → Nat → Nat) (rd : Nat → Nat) (n o : Nat) (cx : kg_c p s m #[Value.ref b] meth c9 code 7 RL D (kty c) (fun q => s.heap.size ≤ q)) (hX : va_X b L xs s s.heap) (hbl : b < s.heap.size) (hZ : kZ (fun q => s.heap.size ≤ q) s s.heap) (hY : kY s) (hr : meth.sig.returnType = ret) : ∀ (M N : Nat) (u v : kS) (f : Nat → Int64), M + N = 513 → kI n N u v → kg p l e room_1 s m #[Value.ref b] below meth c9 7 D (fun q => s.heap.size ≤ q) (lw_Z below #[Value.ref b] s) (80 + 6 * N) (7350 + 36 * N) (kr rd c v ++ kwo ad c n o u f) 33 [some (.ref b), some (.ref (ad 0 0)), some (.ref (rd 0)), some (.ref o), some (.int (nI (1 + 5 * N))), none, none] [] := by
  have hbA : ¬ (fun q => s.heap.size ≤ q) b := Nat.not_le.mpr hbl
  intro M
  induction M with
  | zero =>
    intro N u v f hMN hI
    refine kg_iload cx dL_law_33 rfl ?_
    refine kg_aload_n cx dL_law_35 rfl ?_
    refine kg_slen cx hX hbl hbA dL_law_36 ?_
    refine kg_iconst (v := (nI 5)) cx dL_law_37 (by decide) ?_
    refine kg_isub cx dL_law_38 ?_
    refine kg_icmp_gt cx 915 dL_law_39 (by decide) (fun _ => ?_) (fun h => absurd ((law_i hL (by omega)).mpr (by omega)) h)
    refine kg_iconst (v := 1) cx dL_law_915 (by decide) ?_
    exact kg_lawret cx hr ⟨Nat.le_trans (m := 60000) (by omega) kRc, Nat.le_trans (m := 500000) (by omega) kRs⟩ dL_law_916
  | succ M ih =>
    intro N u v f hMN hI
    refine kg_iload cx dL_law_33 rfl ?_
    refine kg_aload_n cx dL_law_35 rfl ?_
    refine kg_slen cx hX hbl hbA dL_law_36 ?_
    refine kg_iconst (v := (nI 5)) cx dL_law_37 (by decide) ?_
    refine kg_isub cx dL_law_38 ?_
    refine kg_icmp_gt cx 915 dL_law_39 (by decide) (fun _ => ?_) (fun h => ?_)
    · refine kg_iconst (v := 1) cx dL_law_915 (by decide) ?_
      exact kg_lawret cx hr ⟨Nat.le_trans (m := 60000) (by omega) kRc, Nat.le_trans (m := 500000) (by omega) kRs⟩ dL_law_916
    have hNL : 6 + 5 * N ≤ L := by
      rcases Nat.lt_or_ge L (6 + 5 * N) with q | q
      · exact absurd ((law_i hL (by omega)).mpr q) h
      · exact q
    have hN : N ≤ 511 := by omega
    have tail : ∀ (u9 v9 : kS) (f9 : Nat → Int64) (x5 x6 : Option Value), kI n (N + 1) u9 v9 → kg p l e room_1 s m #[Value.ref b] below meth c9 7 D (fun q => s.heap.size ≤ q) (lw_Z below #[Value.ref b] s) (80 + 6 * (N + 1)) (7350 + 36 * (N + 1)) (kr rd c v9 ++ kwo ad c n o u9 f9) 909 [some (.ref b), some (.ref (ad 0 0)), some (.ref (rd 0)), some (.ref o), some (.int (nI (1 + 5 * N))), x5, x6] [] := by
      intro u9 v9 f9 x5 x6 hI9
      refine kg_iinc (v := nI (1 + 5 * (N + 1))) cx dL_law_909 rfl (nI_add (1 + 5 * N) 5) (by decide) ?_
      refine kg_goto cx 33 dL_law_912 (by decide) ?_
      refine kg_lo (lo9 := [some (.ref b), some (.ref (ad 0 0)), some (.ref (rd 0)), some (.ref o), some (.int (nI (1 + 5 * (N + 1)))), none, none]) (fun j x9 hx => ?_) (ih (N + 1) u9 v9 f9 (by omega) hI9)
      match j, hx with
      | 0, hx => exact hx
      | 1, hx => exact hx
      | 2, hx => exact hx
      | 3, hx => exact hx
      | 4, hx => exact hx
      | 5, hx => cases hx
      | 6, hx => cases hx
      | j + 7, hx => cases hx
    refine kg_aload_n cx dL_law_42 rfl ?_
    refine kg_iload cx dL_law_43 rfl ?_
    refine kg_sld cx hX hbl hbA (1 + 5 * N) rfl (by omega) (by omega) dL_law_45 ?_
    refine kg_bipush (v := (nI 15)) cx dL_law_46 (by decide) ?_
    refine kg_iand cx dL_law_48 ?_
    obtain ⟨j, hj, ej⟩ := pk_andE (xs (1 + 5 * N)) (m := nI 15) 4 (by decide)
    refine kg_top (nI j) ej ?_
    rcases k_j16 hj with rfl | rfl | rfl | rfl | rfl | rfl | rfl | rfl | rfl | rfl | rfl | rfl | rfl | rfl | rfl | rfl
    · exact kg_tableIn cx 120 dL_law_49 (by decide) (by decide) rfl (by decide) (tt_fetch l hl hL D c ad rd n o cx hX hbl hZ hY N hN hNL u v f hI tail)
    · exact kg_tableIn cx 176 dL_law_49 (by decide) (by decide) rfl (by decide) (tt_release l hl hL D c ad rd n o cx hX hbl hZ hY N hN hNL u v f hI tail)
    · exact kg_tableIn cx 232 dL_law_49 (by decide) (by decide) rfl (by decide) (tt_get l hl hL D c ad rd n o cx hX hbl hZ hY N hN hNL u v f hI tail)
    · exact kg_tableIn cx 300 dL_law_49 (by decide) (by decide) rfl (by decide) (tt_begin l hl hL D c ad rd n o cx hX hbl hZ hY N hN hNL u v f hI tail)
    · exact kg_tableIn cx 313 dL_law_49 (by decide) (by decide) rfl (by decide) (tt_set l hl hL D c ad rd n o cx hX hbl hZ hY N hN hNL u v f hI tail)
    · exact kg_tableIn cx 405 dL_law_49 (by decide) (by decide) rfl (by decide) (tt_commit l hl hL D c ad rd n o cx hX hbl hZ hY N hN hNL u v f hI tail)
    · exact kg_tableIn cx 461 dL_law_49 (by decide) (by decide) rfl (by decide) (tt_abort l hl hL D c ad rd n o cx hX hbl hZ hY N hN hNL u v f hI tail)
    · exact kg_tableIn cx 517 dL_law_49 (by decide) (by decide) rfl (by decide) (tt_flush l hl hL D c ad rd n o cx hX hbl hZ hY N hN hNL u v f hI tail)
    · exact kg_tableIn cx 573 dL_law_49 (by decide) (by decide) rfl (by decide) (tt_clean l hl hL D c ad rd n o cx hX hbl hZ hY N hN hNL u v f hI tail)
    · exact kg_tableIn cx 636 dL_law_49 (by decide) (by decide) rfl (by decide) (tt_crash l hl hL D c ad rd n o cx hX hbl hZ hY N hN hNL u v f hI tail)
    · exact kg_tableIn cx 649 dL_law_49 (by decide) (by decide) rfl (by decide) (tt_disk l hl hL D c ad rd n o cx hX hbl hZ hY N hN hNL u v f hI tail)
    · exact kg_tableIn cx 717 dL_law_49 (by decide) (by decide) rfl (by decide) (tt_frame l hl hL D c ad rd n o cx hX hbl hZ hY N hN hNL u v f hI tail)
    · exact kg_tableIn cx 785 dL_law_49 (by decide) (by decide) rfl (by decide) (tt_log l hl hL D c ad rd n o cx hX hbl hZ hY N hN hNL u v f hI tail)
    · exact kg_tableIn cx 853 dL_law_49 (by decide) (by decide) rfl (by decide) (tt_count l hl hL D c ad rd n o cx hX hbl hZ hY N hN hNL u v f hI tail)
    · exact kg_tableOut cx 909 dL_law_49 (Or.inr (by decide)) (by decide) (kg_widen (by omega) (by omega) (tail u v f none none (kI_N hI (by omega))))
    · exact kg_tableOut cx 909 dL_law_49 (Or.inr (by decide)) (by decide) (kg_widen (by omega) (by omega) (tail u v f none none (kI_N hI (by omega))))
