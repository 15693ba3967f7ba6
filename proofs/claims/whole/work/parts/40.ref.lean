/-- the reference's cells. Fields as ClockPool's; 20 refusal, 21 frames, 22 isUndone, 23 number -/
def kr (rd : Nat → Nat) (c : Nat → ClassId) (u : kS) : va_W := [
  (rd 0, .inr (4, [.int (u 20 0 0), .int (u 21 0 0), .ref (rd 1), .ref (rd 2), .ref (rd 3), .ref (rd 4), .ref (rd 5), .ref (rd 6), .ref (rd 7), .ref (rd 8), .int (u 6 0 0), .int (u 14 0 0), .int (u 15 0 0), .ref (rd 9), .ref (rd 10), .ref (rd 11), .ref (rd 12), .ref (rd 13), .ref (rd 14), .ref (rd 15), .ref (rd 16), .ref (rd 17), .ref (rd 18), .int (u 7 0 0), .int (u 8 0 0), .int (u 18 0 0), .int (u 19 0 0)])),
  (rd 1, .inl (c 0, 256, .inl (fun j => u 0 (j / 8) (j % 8)))),
  (rd 2, .inl (c 0, 32, .inl (fun j => u 0 j 8))),
  (rd 3, .inl (c 0, 8, .inl (fun j => u 1 j 0))),
  (rd 4, .inl (c 0, 64, .inl (fun j => u 23 (j / 8) (j % 8)))),
  (rd 5, .inl (c 0, 8, .inl (fun j => u 5 j 8))),
  (rd 6, .inl (c 0, 8, .inl (fun j => u 2 j 0))),
  (rd 7, .inl (c 1, 8, .inl (fun j => u 3 j 0))),
  (rd 8, .inl (c 1, 8, .inl (fun j => u 4 j 0))),
  (rd 9, .inl (c 0, 401, .inl (fun j => u 9 j 0))),
  (rd 10, .inl (c 0, 401, .inl (fun j => u 9 j 1))),
  (rd 11, .inl (c 0, 401, .inl (fun j => u 9 j 2))),
  (rd 12, .inl (c 0, 401, .inl (fun j => u 9 j 3))),
  (rd 13, .inl (c 0, 401, .inl (fun j => u 9 j 4))),
  (rd 14, .inl (c 0, 401, .inl (fun j => u 9 j 5))),
  (rd 15, .inl (c 0, 401, .inl (fun j => u 9 j 6))),
  (rd 16, .inl (c 1, 401, .inl (fun j => u 22 j 0))),
  (rd 17, .inl (c 1, 8, .inl (fun j => u 16 j 0))),
  (rd 18, .inl (c 1, 8, .inl (fun j => u 17 j 0)))]
section KR
variable {rd : Nat → Nat} {c : Nat → ClassId} {u : kS}
theorem kr_adr (u v : kS) : (kr rd c u).map Prod.fst = (kr rd c v).map Prod.fst := by simp [kr]
theorem kq_refusal (x : Int32) : (kr rd c u).set 0 (rd 0, .inr (4, [.int x, .int (u 21 0 0), .ref (rd 1), .ref (rd 2), .ref (rd 3), .ref (rd 4), .ref (rd 5), .ref (rd 6), .ref (rd 7), .ref (rd 8), .int (u 6 0 0), .int (u 14 0 0), .int (u 15 0 0), .ref (rd 9), .ref (rd 10), .ref (rd 11), .ref (rd 12), .ref (rd 13), .ref (rd 14), .ref (rd 15), .ref (rd 16), .ref (rd 17), .ref (rd 18), .int (u 7 0 0), .int (u 8 0 0), .int (u 18 0 0), .int (u 19 0 0)])) = kr rd c (ku u 20 0 0 x) := by simp [kr, ku]
theorem kq_hand (x : Int32) : (kr rd c u).set 0 (rd 0, .inr (4, [.int (u 20 0 0), .int (u 21 0 0), .ref (rd 1), .ref (rd 2), .ref (rd 3), .ref (rd 4), .ref (rd 5), .ref (rd 6), .ref (rd 7), .ref (rd 8), .int x, .int (u 14 0 0), .int (u 15 0 0), .ref (rd 9), .ref (rd 10), .ref (rd 11), .ref (rd 12), .ref (rd 13), .ref (rd 14), .ref (rd 15), .ref (rd 16), .ref (rd 17), .ref (rd 18), .int (u 7 0 0), .int (u 8 0 0), .int (u 18 0 0), .int (u 19 0 0)])) = kr rd c (ku u 6 0 0 x) := by simp [kr, ku]
theorem kq_records (x : Int32) : (kr rd c u).set 0 (rd 0, .inr (4, [.int (u 20 0 0), .int (u 21 0 0), .ref (rd 1), .ref (rd 2), .ref (rd 3), .ref (rd 4), .ref (rd 5), .ref (rd 6), .ref (rd 7), .ref (rd 8), .int (u 6 0 0), .int x, .int (u 15 0 0), .ref (rd 9), .ref (rd 10), .ref (rd 11), .ref (rd 12), .ref (rd 13), .ref (rd 14), .ref (rd 15), .ref (rd 16), .ref (rd 17), .ref (rd 18), .int (u 7 0 0), .int (u 8 0 0), .int (u 18 0 0), .int (u 19 0 0)])) = kr rd c (ku u 14 0 0 x) := by simp [kr, ku]
theorem kq_flushed (x : Int32) : (kr rd c u).set 0 (rd 0, .inr (4, [.int (u 20 0 0), .int (u 21 0 0), .ref (rd 1), .ref (rd 2), .ref (rd 3), .ref (rd 4), .ref (rd 5), .ref (rd 6), .ref (rd 7), .ref (rd 8), .int (u 6 0 0), .int (u 14 0 0), .int x, .ref (rd 9), .ref (rd 10), .ref (rd 11), .ref (rd 12), .ref (rd 13), .ref (rd 14), .ref (rd 15), .ref (rd 16), .ref (rd 17), .ref (rd 18), .int (u 7 0 0), .int (u 8 0 0), .int (u 18 0 0), .int (u 19 0 0)])) = kr rd c (ku u 15 0 0 x) := by simp [kr, ku]
theorem kq_written (x : Int32) : (kr rd c u).set 0 (rd 0, .inr (4, [.int (u 20 0 0), .int (u 21 0 0), .ref (rd 1), .ref (rd 2), .ref (rd 3), .ref (rd 4), .ref (rd 5), .ref (rd 6), .ref (rd 7), .ref (rd 8), .int (u 6 0 0), .int (u 14 0 0), .int (u 15 0 0), .ref (rd 9), .ref (rd 10), .ref (rd 11), .ref (rd 12), .ref (rd 13), .ref (rd 14), .ref (rd 15), .ref (rd 16), .ref (rd 17), .ref (rd 18), .int x, .int (u 8 0 0), .int (u 18 0 0), .int (u 19 0 0)])) = kr rd c (ku u 7 0 0 x) := by simp [kr, ku]
theorem kq_come (x : Int32) : (kr rd c u).set 0 (rd 0, .inr (4, [.int (u 20 0 0), .int (u 21 0 0), .ref (rd 1), .ref (rd 2), .ref (rd 3), .ref (rd 4), .ref (rd 5), .ref (rd 6), .ref (rd 7), .ref (rd 8), .int (u 6 0 0), .int (u 14 0 0), .int (u 15 0 0), .ref (rd 9), .ref (rd 10), .ref (rd 11), .ref (rd 12), .ref (rd 13), .ref (rd 14), .ref (rd 15), .ref (rd 16), .ref (rd 17), .ref (rd 18), .int (u 7 0 0), .int x, .int (u 18 0 0), .int (u 19 0 0)])) = kr rd c (ku u 8 0 0 x) := by simp [kr, ku]
theorem kq_crashes (x : Int32) : (kr rd c u).set 0 (rd 0, .inr (4, [.int (u 20 0 0), .int (u 21 0 0), .ref (rd 1), .ref (rd 2), .ref (rd 3), .ref (rd 4), .ref (rd 5), .ref (rd 6), .ref (rd 7), .ref (rd 8), .int (u 6 0 0), .int (u 14 0 0), .int (u 15 0 0), .ref (rd 9), .ref (rd 10), .ref (rd 11), .ref (rd 12), .ref (rd 13), .ref (rd 14), .ref (rd 15), .ref (rd 16), .ref (rd 17), .ref (rd 18), .int (u 7 0 0), .int (u 8 0 0), .int x, .int (u 19 0 0)])) = kr rd c (ku u 18 0 0 x) := by simp [kr, ku]
theorem kq_undone (x : Int32) : (kr rd c u).set 0 (rd 0, .inr (4, [.int (u 20 0 0), .int (u 21 0 0), .ref (rd 1), .ref (rd 2), .ref (rd 3), .ref (rd 4), .ref (rd 5), .ref (rd 6), .ref (rd 7), .ref (rd 8), .int (u 6 0 0), .int (u 14 0 0), .int (u 15 0 0), .ref (rd 9), .ref (rd 10), .ref (rd 11), .ref (rd 12), .ref (rd 13), .ref (rd 14), .ref (rd 15), .ref (rd 16), .ref (rd 17), .ref (rd 18), .int (u 7 0 0), .int (u 8 0 0), .int (u 18 0 0), .int x])) = kr rd c (ku u 19 0 0 x) := by simp [kr, ku]
theorem kq_disk (i k : Nat) (hk : k < 8) (x : Int32) : (kr rd c u).set 1 (rd 1, .inl (c 0, 256, .inl (upd (fun j => u 0 (j / 8) (j % 8)) (8 * i + k) x))) = kr rd c (ku u 0 i k x) := by
  have e : upd (fun j => u 0 (j / 8) (j % 8)) (8 * i + k) x = fun j => ku u 0 i k x 0 (j / 8) (j % 8) := by
    funext j
    by_cases h : j = 8 * i + k
    · have h1 : j / 8 = i := by omega
      have h2 : j % 8 = k := by omega
      simp [upd, ku, h1, h2, h]
      intro h3
      omega
    · have h1 : ¬ (j / 8 = i ∧ j % 8 = k) := by omega
      simp [upd, ku, h, h1]
  rw [e]
  have e2 : (fun j => ku u 0 i k x 0 j 8) = fun j => u 0 j 8 := by
    funext j
    simp [ku]
    try omega
  have h8 : ¬ 8 = k := by omega
  simp [kr, ku, h8]
theorem kq_diskLsn (i : Nat) (x : Int32) : (kr rd c u).set 2 (rd 2, .inl (c 0, 32, .inl (upd (fun j => u 0 j 8) i x))) = kr rd c (ku u 0 i 8 x) := by
  have e : (fun j : Nat => ku u 0 i 8 x 0 (j / 8) (j % 8)) = fun j => u 0 (j / 8) (j % 8) := by
    funext j
    have h9 : ¬ j % 8 = 8 := by omega
    simp [ku, h9]
  have e2 : upd (fun j => u 0 j 8) i x = fun j => ku u 0 i 8 x 0 j 8 := by
    funext j
    simp [upd, ku]
  unfold kr
  rw [e, e2]
  simp [ku]
theorem kq_held (i : Nat) (x : Int32) : (kr rd c u).set 3 (rd 3, .inl (c 0, 8, .inl (upd (fun j => u 1 j 0) i x))) = kr rd c (ku u 1 i 0 x) := by
  simp [kr, ku]
  rfl
theorem kq_number (i k : Nat) (hk : k < 8) (x : Int32) : (kr rd c u).set 4 (rd 4, .inl (c 0, 64, .inl (upd (fun j => u 23 (j / 8) (j % 8)) (8 * i + k) x))) = kr rd c (ku u 23 i k x) := by
  have e : upd (fun j => u 23 (j / 8) (j % 8)) (8 * i + k) x = fun j => ku u 23 i k x 23 (j / 8) (j % 8) := by
    funext j
    by_cases h : j = 8 * i + k
    · have h1 : j / 8 = i := by omega
      have h2 : j % 8 = k := by omega
      simp [upd, ku, h1, h2, h]
      intro h3
      omega
    · have h1 : ¬ (j / 8 = i ∧ j % 8 = k) := by omega
      simp [upd, ku, h, h1]
  rw [e]
  have e2 : (fun j => ku u 23 i k x 0 j 8) = fun j => u 0 j 8 := by
    funext j
    simp [ku]
    try omega
  have h8 : ¬ 8 = k := by omega
  simp [kr, ku, h8]
theorem kq_frameLsn (i : Nat) (x : Int32) : (kr rd c u).set 5 (rd 5, .inl (c 0, 8, .inl (upd (fun j => u 5 j 8) i x))) = kr rd c (ku u 5 i 8 x) := by
  simp [kr, ku]
  rfl
theorem kq_pins (i : Nat) (x : Int32) : (kr rd c u).set 6 (rd 6, .inl (c 0, 8, .inl (upd (fun j => u 2 j 0) i x))) = kr rd c (ku u 2 i 0 x) := by
  simp [kr, ku]
  rfl
theorem kq_isDirty (i : Nat) (x : Int32) : (kr rd c u).set 7 (rd 7, .inl (c 1, 8, .inl (upd (fun j => u 3 j 0) i x))) = kr rd c (ku u 3 i 0 x) := by
  simp [kr, ku]
  rfl
theorem kq_isMarked (i : Nat) (x : Int32) : (kr rd c u).set 8 (rd 8, .inl (c 1, 8, .inl (upd (fun j => u 4 j 0) i x))) = kr rd c (ku u 4 i 0 x) := by
  simp [kr, ku]
  rfl
theorem kq_kind (i : Nat) (x : Int32) : (kr rd c u).set 9 (rd 9, .inl (c 0, 401, .inl (upd (fun j => u 9 j 0) i x))) = kr rd c (ku u 9 i 0 x) := by
  simp [kr, ku]
  rfl
theorem kq_of (i : Nat) (x : Int32) : (kr rd c u).set 10 (rd 10, .inl (c 0, 401, .inl (upd (fun j => u 9 j 1) i x))) = kr rd c (ku u 9 i 1 x) := by
  simp [kr, ku]
  rfl
theorem kq_page (i : Nat) (x : Int32) : (kr rd c u).set 11 (rd 11, .inl (c 0, 401, .inl (upd (fun j => u 9 j 2) i x))) = kr rd c (ku u 9 i 2 x) := by
  simp [kr, ku]
  rfl
theorem kq_which (i : Nat) (x : Int32) : (kr rd c u).set 12 (rd 12, .inl (c 0, 401, .inl (upd (fun j => u 9 j 3) i x))) = kr rd c (ku u 9 i 3 x) := by
  simp [kr, ku]
  rfl
theorem kq_was (i : Nat) (x : Int32) : (kr rd c u).set 13 (rd 13, .inl (c 0, 401, .inl (upd (fun j => u 9 j 4) i x))) = kr rd c (ku u 9 i 4 x) := by
  simp [kr, ku]
  rfl
theorem kq_becomes (i : Nat) (x : Int32) : (kr rd c u).set 14 (rd 14, .inl (c 0, 401, .inl (upd (fun j => u 9 j 5) i x))) = kr rd c (ku u 9 i 5 x) := by
  simp [kr, ku]
  rfl
theorem kq_undoes (i : Nat) (x : Int32) : (kr rd c u).set 15 (rd 15, .inl (c 0, 401, .inl (upd (fun j => u 9 j 6) i x))) = kr rd c (ku u 9 i 6 x) := by
  simp [kr, ku]
  rfl
theorem kq_isUndone (i : Nat) (x : Int32) : (kr rd c u).set 16 (rd 16, .inl (c 1, 401, .inl (upd (fun j => u 22 j 0) i x))) = kr rd c (ku u 22 i 0 x) := by
  simp [kr, ku]
  rfl
theorem kq_isActive (i : Nat) (x : Int32) : (kr rd c u).set 17 (rd 17, .inl (c 1, 8, .inl (upd (fun j => u 16 j 0) i x))) = kr rd c (ku u 16 i 0 x) := by
  simp [kr, ku]
  rfl
theorem kq_isLeaving (i : Nat) (x : Int32) : (kr rd c u).set 18 (rd 18, .inl (c 1, 8, .inl (upd (fun j => u 17 j 0) i x))) = kr rd c (ku u 17 i 0 x) := by
  simp [kr, ku]
  rfl
end KR
/-- a contract over the reference's cells -/
abbrev kR (l : Launch) (D : va_G) (c : Nat → ClassId) (rd : Nat → Nat) (y : MethodName) (cd : Cond) (fr lc : Nat) (u : kS) (av : List Value) (post : Option Value → kS → Prop) : Prop := kc l y cd fr lc D (kty c) (kr rd c u) av (kr rd c) post
abbrev kgR (p : Program) (l : Launch) (e : Env) (fr lc : Nat) (s : State) (m : MethodId) (args : Array Value) (below : List Frame) (meth : Method) (c9 : Code) (nL : Nat) (D : va_G) (c : Nat → ClassId) (rd : Nat → Nat) (u0 : kS) (post : Option Value → kS → Prop) (u : kS) (pc : Nat) (lo : List (Option Value)) (st : List Value) : Prop :=
  kg p l e (kc_rm fr lc) s m args below meth c9 nL D (va_A (kr rd c u0) s.heap.size) (MQ below (kc_Q (kr rd c) D post (va_A (kr rd c u0) s.heap.size)) args s 0 0 (va_A (kr rd c u0) s.heap.size)) 0 0 (kr rd c u) pc lo st
theorem kR.mk {l : Launch} {D : va_G} {c : Nat → ClassId} {rd : Nat → Nat} {y : MethodName} {cc : ByteArray} {nL fr lc : Nat} {ret : Option FieldType} {u : kS} {av : List Value} {post : Option Value → kS → Prop} (hy : plainName y.cls = true) (hav : ∀ v ∈ av, v.category = 1) (hlen : av.length ≤ nL)
    (body : ∀ (p : Program) (e : Env) (s : State) (m : MethodId) (args : Array Value) (below : List Frame) (meth : Method) (c9 : Code), kg_c p s m args meth c9 cc nL y.cls D (kty c) (va_A (kr rd c u) s.heap.size) → meth.sig.returnType = ret → kgR p l e fr lc s m args below meth c9 nL D c rd u post u 0 (kg_in av nL) []) :
    kR l D c rd y (Cond.code y cc nL ret) fr lc u av post := kc.mk hy hav hlen body
