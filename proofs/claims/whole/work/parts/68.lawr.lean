section KLR
variable {p : Program} {l : Launch} {e : Env} {R : Room} {s : State} {m : MethodId} {args : Array Value} {below : List Frame} {meth : Method} {c : Code} {cells slots : Nat} {Q : State → Prop}
variable {cc : ByteArray} {nL : Nat} {own : String} {D : va_G} {tys : List (ClassId × FieldType)} {A : Nat → Prop} {ws : va_W} {pc : Nat} {lo : List (Option Value)} {st : List Value}
theorem kg_sld (cx : kg_c p s m args meth c cc nL own D tys A) {b L : Nat} {xs : Nat → Int32} (hX : va_X b L xs s s.heap) (hbl : b < s.heap.size) (hbA : ¬ A b) (k : Nat) {i : Int32} (hi : i = nI k) (hk : k < L) (hL : L < 2 ^ 31) (hd : decode cc pc = .ok (.iaload, 1)) (kk : kg p l e R s m args below meth c nL D A Q cells slots ws (pc + 1) lo (.int (xs k) :: st)) : kg p l e R s m args below meth c nL D A Q cells slots ws pc lo (.int i :: .ref b :: st) := by
  subst hi
  intro H locs ls hP hD hS hl
  refine va_sld cx.1 cx.2.1 hX hbl hbA hS (vp_in_nI hk hL) hd ?_
  rw [nI_clamp (by omega)]
  exact kk H locs ls hP hD hS hl
theorem kg_slen (cx : kg_c p s m args meth c cc nL own D tys A) {b L : Nat} {xs : Nat → Int32} (hX : va_X b L xs s s.heap) (hbl : b < s.heap.size) (hbA : ¬ A b) (hd : decode cc pc = .ok (.arraylength, 1)) (kk : kg p l e R s m args below meth c nL D A Q cells slots ws (pc + 1) lo (.int (nI L) :: st)) : kg p l e R s m args below meth c nL D A Q cells slots ws pc lo (.ref b :: st) := fun H locs ls hP hD hS hl => va_slen cx.1 cx.2.1 hX hbl hbA hS hd (kk H locs ls hP hD hS hl)
theorem kg_lcmp (cx : kg_c p s m args meth c cc nL own D tys A) {x y : Int64} (hd : decode cc pc = .ok (.lcmp, 1)) (kk : kg p l e R s m args below meth c nL D A Q cells slots ws (pc + 1) lo (.int (lg_cmp x y) :: st)) : kg p l e R s m args below meth c nL D A Q cells slots ws pc lo (.long y :: .long x :: st) := fun H locs ls hP hD hS hl => W.lcmp cx.1 cx.2.1 hd (kk H locs ls hP hD hS hl)
end KLR
section KCL
/-- the law's own helper: the first cell of the script, or 0 -/
def kcl_P (D : va_G) (tys : List (ClassId × FieldType)) (w : va_W) (sz b L : Nat) (xs : Nat → Int32) (av : List Value) : Array Value → State → Prop := va_Pc av (fun U => U.heap.size = sz ∧ va_P D vwCl w U.heap ∧ va_K D vwCl tys U ∧ va_D (fun _ => True) w ∧ kN U ∧ va_X b L xs U U.heap ∧ b < sz ∧ ¬ va_A w sz b)
theorem kcl_P.blind {D : va_G} {tys : List (ClassId × FieldType)} {w : va_W} {sz b L : Nat} {xs : Nat → Int32} {av : List Value} : FrameBlind (kcl_P D tys w sz b L xs av) := by
  intro a U g mk q
  obtain ⟨q0, q1, qP, qK, qD, qN, qX, qb⟩ := q
  exact ⟨q0, q1, qP, va_K.moved (u := U) (U := U.calling g mk a) (Vm.Alike.refl U.vm) qK, qD, kN_same (s := U) (U := U.calling g mk a) rfl qN, va_X.moved (u := U) (U := U.calling g mk a) (Vm.Alike.refl U.vm) qX, qb⟩
abbrev k_c0 (L : Nat) (xs : Nat → Int32) : Int32 := if 0 < L then xs 0 else 0
set_option maxHeartbeats 4000000 in
theorem c_cell (l : Launch) (D : va_G) (c : Nat → ClassId) (w : va_W) (b L : Nat) (xs : Nat → Int32) (hL : L < 2 ^ 31) (sz : Nat) : Met l yL_cell (Cond.code yL_cell cL_cell 2 (some .int) :: kT) (kc_rm 0 0) (kcl_P D (kty c) w sz b L xs [.ref b, .int 0]) (kc_Q (fun _ : Unit => w) D (fun v _ => v = some (.int (k_c0 L xs))) (va_A w sz)) 0 0 (va_A w sz) := by
  refine Met.ofW (cc := cL_cell) (maxL := 2) (ret := some .int) (by decide) rfl ?_
  intro p e s m args below meth c9 s₁ B hml hv
  obtain ⟨rfl, hsz, hP, hK, hD0, hN, hX, hbl, hbA⟩ := hv
  subst hsz
  have hts := atoms_spec (ws := Cond.code yL_cell cL_cell 2 (some .int) :: kT) B.pre
  have cx : kg_c p s m ([.ref b, .int 0] : List Value).toArray meth c9 cL_cell 2 RL D (kty c) (va_A w s.heap.size) := ⟨B.exec, B.bytes, hml, findClass_of_methodNamed B.named, fun w9 h9 => hts w9 (List.mem_cons_of_mem _ h9), hK, fun q h => Or.inr h, B.notSynchronized, hN⟩
  have hr : meth.sig.returnType = some .int := B.returns
  rw [lg_entry_eq]
  have body : kg p l e (kc_rm 0 0) s m ([.ref b, .int 0] : List Value).toArray below meth c9 2 D (va_A w s.heap.size) (MQ below (kc_Q (fun _ : Unit => w) D (fun v _ => v = some (.int (k_c0 L xs))) (va_A w s.heap.size)) ([.ref b, .int 0] : List Value).toArray s 0 0 (va_A w s.heap.size)) 0 0 w 0 (kg_in [.ref b, .int 0] 2) [] := by
    refine kg_iload_n cx dL_cell_0 rfl ?_
    refine kg_aload_n cx dL_cell_1 rfl ?_
    refine kg_slen cx hX hbl hbA dL_cell_2 ?_
    refine kg_icmp_ge cx 12 dL_cell_3 (by decide) (fun h => ?_) (fun h => ?_)
    · refine kg_iconst (v := 0) cx dL_cell_12 (by decide) ?_
      refine kg_top (k_c0 L xs) (if_neg (fun h0 => absurd h (nI_ge (a := 0) h0 hL))).symm ?_
      exact kg_ireturn cx hr rfl () rfl rfl dL_cell_13
    · have h0 : 0 < L := by
        rcases Nat.eq_zero_or_pos L with q | q
        · subst q; exact absurd (Int32.le_refl _) h
        · exact q
      refine kg_aload_n cx dL_cell_6 rfl ?_
      refine kg_iload_n cx dL_cell_7 rfl ?_
      refine kg_sld cx hX hbl hbA 0 rfl h0 hL dL_cell_8 ?_
      refine kg_goto cx 13 dL_cell_9 (by decide) ?_
      refine kg_top (k_c0 L xs) (if_pos h0).symm ?_
      exact kg_ireturn cx hr rfl () rfl rfl dL_cell_13
  exact body s.heap [] _ hP hD0.self va_S.rf (kg_in_h (by simp [Value.category]) (Nat.le_refl _))
variable {p : Program} {l : Launch} {e : Env} {R : Room} {s : State} {m : MethodId} {args : Array Value} {below : List Frame} {meth : Method} {c9 : Code} {cells slots : Nat} {Q : State → Prop}
variable {cc : ByteArray} {nL : Nat} {own : String} {D : va_G} {c : Nat → ClassId} {A : Nat → Prop} {ws : va_W} {pc : Nat} {lo : List (Option Value)} {st : List Value}
theorem kg_cellS (cx : kg_c p s m args meth c9 cc nL own D (kty c) A) {b L : Nat} {xs : Nat → Int32} (hX : va_X b L xs s s.heap) (hbl : b < s.heap.size) (hbA : ¬ A b) (hL : L < 2 ^ 31) {index : Nat} {rest : List Value} (hlk : Cond.methodLink own index yL_cell ∈ kT) (hR : 1 ≤ R.frames ∧ 21 ≤ R.locals) (hf : cells ≤ R.cells ∧ slots ≤ R.slots) (hw : (rest.map fun v => v.category).sum ≤ 8) (hd : decode cc pc = .ok (.invokestatic index, 3))
    (kk : kg p l e R s m args below meth c9 nL D A Q cells slots ws (pc + 3) lo (.int (k_c0 L xs) :: rest)) : kg p l e R s m args below meth c9 nL D A Q cells slots ws pc lo (.int 0 :: .ref b :: rest) := by
  refine kg_run (wo := fun _ : Unit => ws) (post := fun v _ => v = some (.int (k_c0 L xs))) (rest := rest) (a := ([.ref b, .int 0] : List Value).toArray) cx (fun H locs ls hP hD hS hl => ?_) (fun _ => rfl) (fun v _ hv => by subst hv; exact kk)
  have ht := cx.2.2.2.2.1
  have hbH : b < H.size := Nat.lt_of_lt_of_le hbl hS.1
  have hno : ¬ va_A ws H.size b := by
    rintro (⟨k, e9, h⟩ | h)
    · exact hbA (hD.2 k _ h)
    · omega
  refine va_runS (Ts := kT) (As := [.ref b, .int 0]) (rest := rest) ⟨cx.1, cx.2.1, cx.2.2.1, cx.2.2.2.1, ht⟩ (c_cell l D c ws b L xs hL H.size) ⟨callB_of (ws' := kT) 2 ht (kT_good kcd_L_cell rfl (fun _ h => h)) rfl rfl rfl (ht _ kin_L) (ht _ hlk) (by decide +kernel) ⟨hR.1, hR.2⟩, ht _ kst_L_cell⟩ ⟨kcl_P.blind, fun U hU hW => ⟨rfl, by rw [hU], by rw [hU]; exact hP, va_K.moved hW.alike cx.2.2.2.2.2.1, hD.weaken (fun _ _ _ _ => trivial), kN_moved hW cx.2.2.2.2.2.2.2.2, by rw [hU]; exact (hX.kept (hS.2.1 b hbl hbA)).moved hW.alike, hbH, hno⟩⟩ rfl rfl hl.size rfl (lv_room (rest := .int 0 :: .ref b :: rest) hw) hd hf
end KCL
