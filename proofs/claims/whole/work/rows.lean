section
-- ===== PART A: goes FIRST, ahead of the names: the tables' words, and 'selects' of the private methods out of them =====
/-- a private method of a class that the tables say can be made, by its rows of tables_1 -/
def lw_okq (q : MethodName × Nat) : Prop := (q.1.cls ≠ "java/lang/invoke/MethodHandle" ∧ q.1.cls ≠ "java/lang/invoke/VarHandle") ∧ Cond.instantiable q.1.cls q.2 ∈ tables_1 ∧ Cond.privateMethod q.1 ∈ tables_1 ∧ Cond.instanceMethod q.1 ∈ tables_1
theorem lw_p0 : lw_okq (⟨"ClockPool", "leastInactive", "()I"⟩, 6) := ⟨⟨by decide +kernel, by decide +kernel⟩, List.mem_of_getElem? (i := 15) (by decide +kernel), List.mem_of_getElem? (i := 145) (by decide +kernel), List.mem_of_getElem? (i := 146) (by decide +kernel)⟩
theorem lw_p1 : lw_okq (⟨"ClockPool", "activeOnes", "()I"⟩, 6) := ⟨⟨by decide +kernel, by decide +kernel⟩, List.mem_of_getElem? (i := 15) (by decide +kernel), List.mem_of_getElem? (i := 149) (by decide +kernel), List.mem_of_getElem? (i := 150) (by decide +kernel)⟩
theorem lw_p2 : lw_okq (⟨"ClockPool$Log", "hasRoomFor", "(I)Z"⟩, 7) := ⟨⟨by decide +kernel, by decide +kernel⟩, List.mem_of_getElem? (i := 91) (by decide +kernel), List.mem_of_getElem? (i := 153) (by decide +kernel), List.mem_of_getElem? (i := 154) (by decide +kernel)⟩
theorem lw_p3 : lw_okq (⟨"ClockPool$Log", "dropUnflushed", "()I"⟩, 7) := ⟨⟨by decide +kernel, by decide +kernel⟩, List.mem_of_getElem? (i := 91) (by decide +kernel), List.mem_of_getElem? (i := 161) (by decide +kernel), List.mem_of_getElem? (i := 162) (by decide +kernel)⟩
theorem lw_p4 : lw_okq (⟨"ClockPool$Log", "follow", "(I)V"⟩, 7) := ⟨⟨by decide +kernel, by decide +kernel⟩, List.mem_of_getElem? (i := 91) (by decide +kernel), List.mem_of_getElem? (i := 168) (by decide +kernel), List.mem_of_getElem? (i := 169) (by decide +kernel)⟩
theorem lw_p5 : lw_okq (⟨"ClockPool$Log", "value", "(II)I"⟩, 7) := ⟨⟨by decide +kernel, by decide +kernel⟩, List.mem_of_getElem? (i := 91) (by decide +kernel), List.mem_of_getElem? (i := 172) (by decide +kernel), List.mem_of_getElem? (i := 173) (by decide +kernel)⟩
theorem lw_p6 : lw_okq (⟨"ClockPool$Pool", "clear", "()V"⟩, 5) := ⟨⟨by decide +kernel, by decide +kernel⟩, List.mem_of_getElem? (i := 23) (by decide +kernel), List.mem_of_getElem? (i := 176) (by decide +kernel), List.mem_of_getElem? (i := 177) (by decide +kernel)⟩
theorem lw_p7 : lw_okq (⟨"ClockPool$Frame", "makeEmpty", "()V"⟩, 5) := ⟨⟨by decide +kernel, by decide +kernel⟩, List.mem_of_getElem? (i := 38) (by decide +kernel), List.mem_of_getElem? (i := 180) (by decide +kernel), List.mem_of_getElem? (i := 181) (by decide +kernel)⟩
theorem lw_p8 : lw_okq (⟨"ClockPool", "forgetActiveOnes", "()V"⟩, 6) := ⟨⟨by decide +kernel, by decide +kernel⟩, List.mem_of_getElem? (i := 15) (by decide +kernel), List.mem_of_getElem? (i := 185) (by decide +kernel), List.mem_of_getElem? (i := 186) (by decide +kernel)⟩
theorem lw_p9 : lw_okq (⟨"ClockPool", "redoOnDisk", "()V"⟩, 6) := ⟨⟨by decide +kernel, by decide +kernel⟩, List.mem_of_getElem? (i := 15) (by decide +kernel), List.mem_of_getElem? (i := 189) (by decide +kernel), List.mem_of_getElem? (i := 190) (by decide +kernel)⟩
theorem lw_p10 : lw_okq (⟨"ClockPool$Log", "changesPage", "(I)Z"⟩, 7) := ⟨⟨by decide +kernel, by decide +kernel⟩, List.mem_of_getElem? (i := 91) (by decide +kernel), List.mem_of_getElem? (i := 193) (by decide +kernel), List.mem_of_getElem? (i := 194) (by decide +kernel)⟩
theorem lw_p11 : lw_okq (⟨"ClockPool", "putOnDisk", "(I)V"⟩, 6) := ⟨⟨by decide +kernel, by decide +kernel⟩, List.mem_of_getElem? (i := 15) (by decide +kernel), List.mem_of_getElem? (i := 198) (by decide +kernel), List.mem_of_getElem? (i := 199) (by decide +kernel)⟩
theorem lw_p12 : lw_okq (⟨"ClockPool", "undoOnDisk", "()I"⟩, 6) := ⟨⟨by decide +kernel, by decide +kernel⟩, List.mem_of_getElem? (i := 15) (by decide +kernel), List.mem_of_getElem? (i := 202) (by decide +kernel), List.mem_of_getElem? (i := 203) (by decide +kernel)⟩
theorem lw_p13 : lw_okq (⟨"ClockPool$Log", "isOpen", "(I)Z"⟩, 7) := ⟨⟨by decide +kernel, by decide +kernel⟩, List.mem_of_getElem? (i := 91) (by decide +kernel), List.mem_of_getElem? (i := 206) (by decide +kernel), List.mem_of_getElem? (i := 207) (by decide +kernel)⟩
theorem lw_p14 : lw_okq (⟨"ClockPool$Log", "appendUndo", "(II)I"⟩, 7) := ⟨⟨by decide +kernel, by decide +kernel⟩, List.mem_of_getElem? (i := 91) (by decide +kernel), List.mem_of_getElem? (i := 210) (by decide +kernel), List.mem_of_getElem? (i := 211) (by decide +kernel)⟩
theorem lw_p15 : lw_okq (⟨"ClockPool$Log", "append", "(IIIIIII)I"⟩, 7) := ⟨⟨by decide +kernel, by decide +kernel⟩, List.mem_of_getElem? (i := 91) (by decide +kernel), List.mem_of_getElem? (i := 214) (by decide +kernel), List.mem_of_getElem? (i := 215) (by decide +kernel)⟩
def lw_privs_1 : List (MethodName × Nat) := [(⟨"ClockPool", "leastInactive", "()I"⟩, 6), (⟨"ClockPool", "activeOnes", "()I"⟩, 6), (⟨"ClockPool$Log", "hasRoomFor", "(I)Z"⟩, 7), (⟨"ClockPool$Log", "dropUnflushed", "()I"⟩, 7), (⟨"ClockPool$Log", "follow", "(I)V"⟩, 7), (⟨"ClockPool$Log", "value", "(II)I"⟩, 7), (⟨"ClockPool$Pool", "clear", "()V"⟩, 5), (⟨"ClockPool$Frame", "makeEmpty", "()V"⟩, 5), (⟨"ClockPool", "forgetActiveOnes", "()V"⟩, 6), (⟨"ClockPool", "redoOnDisk", "()V"⟩, 6), (⟨"ClockPool$Log", "changesPage", "(I)Z"⟩, 7), (⟨"ClockPool", "putOnDisk", "(I)V"⟩, 6), (⟨"ClockPool", "undoOnDisk", "()I"⟩, 6), (⟨"ClockPool$Log", "isOpen", "(I)Z"⟩, 7), (⟨"ClockPool$Log", "appendUndo", "(II)I"⟩, 7), (⟨"ClockPool$Log", "append", "(IIIIIII)I"⟩, 7)]
theorem lw_r1 : ∀ q ∈ lw_privs_1, lw_okq q := List.forall_mem_cons.mpr ⟨lw_p0, List.forall_mem_cons.mpr ⟨lw_p1, List.forall_mem_cons.mpr ⟨lw_p2, List.forall_mem_cons.mpr ⟨lw_p3, List.forall_mem_cons.mpr ⟨lw_p4, List.forall_mem_cons.mpr ⟨lw_p5, List.forall_mem_cons.mpr ⟨lw_p6, List.forall_mem_cons.mpr ⟨lw_p7, List.forall_mem_cons.mpr ⟨lw_p8, List.forall_mem_cons.mpr ⟨lw_p9, List.forall_mem_cons.mpr ⟨lw_p10, List.forall_mem_cons.mpr ⟨lw_p11, List.forall_mem_cons.mpr ⟨lw_p12, List.forall_mem_cons.mpr ⟨lw_p13, List.forall_mem_cons.mpr ⟨lw_p14, List.forall_mem_cons.mpr ⟨lw_p15, fun _ h => absurd h List.not_mem_nil⟩⟩⟩⟩⟩⟩⟩⟩⟩⟩⟩⟩⟩⟩⟩⟩
theorem lw_p16 : lw_okq (⟨"ClockPool", "endUnended", "()V"⟩, 6) := ⟨⟨by decide +kernel, by decide +kernel⟩, List.mem_of_getElem? (i := 15) (by decide +kernel), List.mem_of_getElem? (i := 218) (by decide +kernel), List.mem_of_getElem? (i := 219) (by decide +kernel)⟩
theorem lw_p17 : lw_okq (⟨"ClockPool$Log", "isUnended", "(I)Z"⟩, 7) := ⟨⟨by decide +kernel, by decide +kernel⟩, List.mem_of_getElem? (i := 91) (by decide +kernel), List.mem_of_getElem? (i := 222) (by decide +kernel), List.mem_of_getElem? (i := 223) (by decide +kernel)⟩
theorem lw_p18 : lw_okq (⟨"ClockPool$Log", "appendLast", "(II)I"⟩, 7) := ⟨⟨by decide +kernel, by decide +kernel⟩, List.mem_of_getElem? (i := 91) (by decide +kernel), List.mem_of_getElem? (i := 226) (by decide +kernel), List.mem_of_getElem? (i := 227) (by decide +kernel)⟩
theorem lw_p19 : lw_okq (⟨"ClockPool$Log", "flushTo", "(I)V"⟩, 7) := ⟨⟨by decide +kernel, by decide +kernel⟩, List.mem_of_getElem? (i := 91) (by decide +kernel), List.mem_of_getElem? (i := 230) (by decide +kernel), List.mem_of_getElem? (i := 231) (by decide +kernel)⟩
theorem lw_p20 : lw_okq (⟨"java/lang/Throwable", "fillInStackTrace", "(I)Ljava/lang/Throwable;"⟩, 6) := ⟨⟨by decide +kernel, by decide +kernel⟩, List.mem_of_getElem? (i := 287) (by decide +kernel), List.mem_of_getElem? (i := 285) (by decide +kernel), List.mem_of_getElem? (i := 286) (by decide +kernel)⟩
theorem lw_p21 : lw_okq (⟨"ClockPool$Pool", "bring", "(II)I"⟩, 5) := ⟨⟨by decide +kernel, by decide +kernel⟩, List.mem_of_getElem? (i := 23) (by decide +kernel), List.mem_of_getElem? (i := 312) (by decide +kernel), List.mem_of_getElem? (i := 313) (by decide +kernel)⟩
theorem lw_p22 : lw_okq (⟨"ClockPool$Pool", "find", "(I)I"⟩, 5) := ⟨⟨by decide +kernel, by decide +kernel⟩, List.mem_of_getElem? (i := 23) (by decide +kernel), List.mem_of_getElem? (i := 316) (by decide +kernel), List.mem_of_getElem? (i := 317) (by decide +kernel)⟩
theorem lw_p23 : lw_okq (⟨"ClockPool$Pool", "roomFor", "(I)I"⟩, 5) := ⟨⟨by decide +kernel, by decide +kernel⟩, List.mem_of_getElem? (i := 23) (by decide +kernel), List.mem_of_getElem? (i := 320) (by decide +kernel), List.mem_of_getElem? (i := 321) (by decide +kernel)⟩
theorem lw_p24 : lw_okq (⟨"ClockPool$Pool", "turnHand", "(I)I"⟩, 5) := ⟨⟨by decide +kernel, by decide +kernel⟩, List.mem_of_getElem? (i := 23) (by decide +kernel), List.mem_of_getElem? (i := 324) (by decide +kernel), List.mem_of_getElem? (i := 325) (by decide +kernel)⟩
theorem lw_p25 : lw_okq (⟨"ClockPool$Frame", "mayBeTaken", "(I)Z"⟩, 5) := ⟨⟨by decide +kernel, by decide +kernel⟩, List.mem_of_getElem? (i := 38) (by decide +kernel), List.mem_of_getElem? (i := 328) (by decide +kernel), List.mem_of_getElem? (i := 329) (by decide +kernel)⟩
theorem lw_p26 : lw_okq (⟨"ClockPool$Pool", "load", "(ILClockPool$Frame;)V"⟩, 5) := ⟨⟨by decide +kernel, by decide +kernel⟩, List.mem_of_getElem? (i := 23) (by decide +kernel), List.mem_of_getElem? (i := 332) (by decide +kernel), List.mem_of_getElem? (i := 333) (by decide +kernel)⟩
theorem lw_p27 : lw_okq (⟨"ClockPool$Pool", "writeBack", "(LClockPool$Frame;)V"⟩, 5) := ⟨⟨by decide +kernel, by decide +kernel⟩, List.mem_of_getElem? (i := 23) (by decide +kernel), List.mem_of_getElem? (i := 336) (by decide +kernel), List.mem_of_getElem? (i := 337) (by decide +kernel)⟩
theorem lw_p28 : lw_okq (⟨"ClockPool", "pinnedFrame", "(I)LClockPool$Frame;"⟩, 6) := ⟨⟨by decide +kernel, by decide +kernel⟩, List.mem_of_getElem? (i := 15) (by decide +kernel), List.mem_of_getElem? (i := 351) (by decide +kernel), List.mem_of_getElem? (i := 352) (by decide +kernel)⟩
theorem lw_p29 : lw_okq (⟨"ClockPool", "checkGoesOn", "(I)V"⟩, 6) := ⟨⟨by decide +kernel, by decide +kernel⟩, List.mem_of_getElem? (i := 15) (by decide +kernel), List.mem_of_getElem? (i := 385) (by decide +kernel), List.mem_of_getElem? (i := 386) (by decide +kernel)⟩
theorem lw_p30 : lw_okq (⟨"ClockPool", "checkActive", "(I)V"⟩, 6) := ⟨⟨by decide +kernel, by decide +kernel⟩, List.mem_of_getElem? (i := 15) (by decide +kernel), List.mem_of_getElem? (i := 389) (by decide +kernel), List.mem_of_getElem? (i := 390) (by decide +kernel)⟩
theorem lw_p31 : lw_okq (⟨"ClockPool$Frame", "change", "(III)V"⟩, 5) := ⟨⟨by decide +kernel, by decide +kernel⟩, List.mem_of_getElem? (i := 38) (by decide +kernel), List.mem_of_getElem? (i := 394) (by decide +kernel), List.mem_of_getElem? (i := 395) (by decide +kernel)⟩
def lw_privs_2 : List (MethodName × Nat) := [(⟨"ClockPool", "endUnended", "()V"⟩, 6), (⟨"ClockPool$Log", "isUnended", "(I)Z"⟩, 7), (⟨"ClockPool$Log", "appendLast", "(II)I"⟩, 7), (⟨"ClockPool$Log", "flushTo", "(I)V"⟩, 7), (⟨"java/lang/Throwable", "fillInStackTrace", "(I)Ljava/lang/Throwable;"⟩, 6), (⟨"ClockPool$Pool", "bring", "(II)I"⟩, 5), (⟨"ClockPool$Pool", "find", "(I)I"⟩, 5), (⟨"ClockPool$Pool", "roomFor", "(I)I"⟩, 5), (⟨"ClockPool$Pool", "turnHand", "(I)I"⟩, 5), (⟨"ClockPool$Frame", "mayBeTaken", "(I)Z"⟩, 5), (⟨"ClockPool$Pool", "load", "(ILClockPool$Frame;)V"⟩, 5), (⟨"ClockPool$Pool", "writeBack", "(LClockPool$Frame;)V"⟩, 5), (⟨"ClockPool", "pinnedFrame", "(I)LClockPool$Frame;"⟩, 6), (⟨"ClockPool", "checkGoesOn", "(I)V"⟩, 6), (⟨"ClockPool", "checkActive", "(I)V"⟩, 6), (⟨"ClockPool$Frame", "change", "(III)V"⟩, 5)]
theorem lw_r2 : ∀ q ∈ lw_privs_2, lw_okq q := List.forall_mem_cons.mpr ⟨lw_p16, List.forall_mem_cons.mpr ⟨lw_p17, List.forall_mem_cons.mpr ⟨lw_p18, List.forall_mem_cons.mpr ⟨lw_p19, List.forall_mem_cons.mpr ⟨lw_p20, List.forall_mem_cons.mpr ⟨lw_p21, List.forall_mem_cons.mpr ⟨lw_p22, List.forall_mem_cons.mpr ⟨lw_p23, List.forall_mem_cons.mpr ⟨lw_p24, List.forall_mem_cons.mpr ⟨lw_p25, List.forall_mem_cons.mpr ⟨lw_p26, List.forall_mem_cons.mpr ⟨lw_p27, List.forall_mem_cons.mpr ⟨lw_p28, List.forall_mem_cons.mpr ⟨lw_p29, List.forall_mem_cons.mpr ⟨lw_p30, List.forall_mem_cons.mpr ⟨lw_p31, fun _ h => absurd h List.not_mem_nil⟩⟩⟩⟩⟩⟩⟩⟩⟩⟩⟩⟩⟩⟩⟩⟩
theorem lw_p32 : lw_okq (⟨"ClockPool", "undoInPool", "(I)Z"⟩, 6) := ⟨⟨by decide +kernel, by decide +kernel⟩, List.mem_of_getElem? (i := 15) (by decide +kernel), List.mem_of_getElem? (i := 412) (by decide +kernel), List.mem_of_getElem? (i := 413) (by decide +kernel)⟩
theorem lw_p33 : lw_okq (⟨"ClockPoolModel", "refused", "(I)Z"⟩, 27) := ⟨⟨by decide +kernel, by decide +kernel⟩, List.mem_of_getElem? (i := 459) (by decide +kernel), List.mem_of_getElem? (i := 558) (by decide +kernel), List.mem_of_getElem? (i := 559) (by decide +kernel)⟩
theorem lw_p34 : lw_okq (⟨"ClockPoolModel", "bring", "(I)I"⟩, 27) := ⟨⟨by decide +kernel, by decide +kernel⟩, List.mem_of_getElem? (i := 459) (by decide +kernel), List.mem_of_getElem? (i := 562) (by decide +kernel), List.mem_of_getElem? (i := 563) (by decide +kernel)⟩
theorem lw_p35 : lw_okq (⟨"ClockPoolModel", "frameOf", "(I)I"⟩, 27) := ⟨⟨by decide +kernel, by decide +kernel⟩, List.mem_of_getElem? (i := 459) (by decide +kernel), List.mem_of_getElem? (i := 566) (by decide +kernel), List.mem_of_getElem? (i := 567) (by decide +kernel)⟩
theorem lw_p36 : lw_okq (⟨"ClockPoolModel", "room", "()I"⟩, 27) := ⟨⟨by decide +kernel, by decide +kernel⟩, List.mem_of_getElem? (i := 459) (by decide +kernel), List.mem_of_getElem? (i := 570) (by decide +kernel), List.mem_of_getElem? (i := 571) (by decide +kernel)⟩
theorem lw_p37 : lw_okq (⟨"ClockPoolModel", "mayGo", "(I)Z"⟩, 27) := ⟨⟨by decide +kernel, by decide +kernel⟩, List.mem_of_getElem? (i := 459) (by decide +kernel), List.mem_of_getElem? (i := 574) (by decide +kernel), List.mem_of_getElem? (i := 575) (by decide +kernel)⟩
theorem lw_p38 : lw_okq (⟨"ClockPoolModel", "write", "(I)V"⟩, 27) := ⟨⟨by decide +kernel, by decide +kernel⟩, List.mem_of_getElem? (i := 459) (by decide +kernel), List.mem_of_getElem? (i := 578) (by decide +kernel), List.mem_of_getElem? (i := 579) (by decide +kernel)⟩
theorem lw_p39 : lw_okq (⟨"ClockPoolModel", "isPinned", "(I)Z"⟩, 27) := ⟨⟨by decide +kernel, by decide +kernel⟩, List.mem_of_getElem? (i := 459) (by decide +kernel), List.mem_of_getElem? (i := 586) (by decide +kernel), List.mem_of_getElem? (i := 587) (by decide +kernel)⟩
theorem lw_p40 : lw_okq (⟨"ClockPoolModel", "needed", "()I"⟩, 27) := ⟨⟨by decide +kernel, by decide +kernel⟩, List.mem_of_getElem? (i := 459) (by decide +kernel), List.mem_of_getElem? (i := 598) (by decide +kernel), List.mem_of_getElem? (i := 599) (by decide +kernel)⟩
theorem lw_p41 : lw_okq (⟨"ClockPoolModel", "undosOf", "(I)I"⟩, 27) := ⟨⟨by decide +kernel, by decide +kernel⟩, List.mem_of_getElem? (i := 459) (by decide +kernel), List.mem_of_getElem? (i := 602) (by decide +kernel), List.mem_of_getElem? (i := 603) (by decide +kernel)⟩
theorem lw_p42 : lw_okq (⟨"ClockPoolModel", "record", "(II)I"⟩, 27) := ⟨⟨by decide +kernel, by decide +kernel⟩, List.mem_of_getElem? (i := 459) (by decide +kernel), List.mem_of_getElem? (i := 610) (by decide +kernel), List.mem_of_getElem? (i := 611) (by decide +kernel)⟩
theorem lw_p43 : lw_okq (⟨"ClockPoolModel", "lastOf", "(I)I"⟩, 27) := ⟨⟨by decide +kernel, by decide +kernel⟩, List.mem_of_getElem? (i := 459) (by decide +kernel), List.mem_of_getElem? (i := 622) (by decide +kernel), List.mem_of_getElem? (i := 623) (by decide +kernel)⟩
theorem lw_p44 : lw_okq (⟨"ClockPoolModel", "tellUndo", "(II)I"⟩, 27) := ⟨⟨by decide +kernel, by decide +kernel⟩, List.mem_of_getElem? (i := 459) (by decide +kernel), List.mem_of_getElem? (i := 626) (by decide +kernel), List.mem_of_getElem? (i := 627) (by decide +kernel)⟩
theorem lw_p45 : lw_okq (⟨"ClockPoolModel", "loseRecords", "()V"⟩, 27) := ⟨⟨by decide +kernel, by decide +kernel⟩, List.mem_of_getElem? (i := 459) (by decide +kernel), List.mem_of_getElem? (i := 642) (by decide +kernel), List.mem_of_getElem? (i := 643) (by decide +kernel)⟩
theorem lw_p46 : lw_okq (⟨"ClockPoolModel", "redo", "()V"⟩, 27) := ⟨⟨by decide +kernel, by decide +kernel⟩, List.mem_of_getElem? (i := 459) (by decide +kernel), List.mem_of_getElem? (i := 646) (by decide +kernel), List.mem_of_getElem? (i := 647) (by decide +kernel)⟩
theorem lw_p47 : lw_okq (⟨"ClockPoolModel", "isOpen", "(I)Z"⟩, 27) := ⟨⟨by decide +kernel, by decide +kernel⟩, List.mem_of_getElem? (i := 459) (by decide +kernel), List.mem_of_getElem? (i := 650) (by decide +kernel), List.mem_of_getElem? (i := 651) (by decide +kernel)⟩
def lw_privs_3 : List (MethodName × Nat) := [(⟨"ClockPool", "undoInPool", "(I)Z"⟩, 6), (⟨"ClockPoolModel", "refused", "(I)Z"⟩, 27), (⟨"ClockPoolModel", "bring", "(I)I"⟩, 27), (⟨"ClockPoolModel", "frameOf", "(I)I"⟩, 27), (⟨"ClockPoolModel", "room", "()I"⟩, 27), (⟨"ClockPoolModel", "mayGo", "(I)Z"⟩, 27), (⟨"ClockPoolModel", "write", "(I)V"⟩, 27), (⟨"ClockPoolModel", "isPinned", "(I)Z"⟩, 27), (⟨"ClockPoolModel", "needed", "()I"⟩, 27), (⟨"ClockPoolModel", "undosOf", "(I)I"⟩, 27), (⟨"ClockPoolModel", "record", "(II)I"⟩, 27), (⟨"ClockPoolModel", "lastOf", "(I)I"⟩, 27), (⟨"ClockPoolModel", "tellUndo", "(II)I"⟩, 27), (⟨"ClockPoolModel", "loseRecords", "()V"⟩, 27), (⟨"ClockPoolModel", "redo", "()V"⟩, 27), (⟨"ClockPoolModel", "isOpen", "(I)Z"⟩, 27)]
theorem lw_r3 : ∀ q ∈ lw_privs_3, lw_okq q := List.forall_mem_cons.mpr ⟨lw_p32, List.forall_mem_cons.mpr ⟨lw_p33, List.forall_mem_cons.mpr ⟨lw_p34, List.forall_mem_cons.mpr ⟨lw_p35, List.forall_mem_cons.mpr ⟨lw_p36, List.forall_mem_cons.mpr ⟨lw_p37, List.forall_mem_cons.mpr ⟨lw_p38, List.forall_mem_cons.mpr ⟨lw_p39, List.forall_mem_cons.mpr ⟨lw_p40, List.forall_mem_cons.mpr ⟨lw_p41, List.forall_mem_cons.mpr ⟨lw_p42, List.forall_mem_cons.mpr ⟨lw_p43, List.forall_mem_cons.mpr ⟨lw_p44, List.forall_mem_cons.mpr ⟨lw_p45, List.forall_mem_cons.mpr ⟨lw_p46, List.forall_mem_cons.mpr ⟨lw_p47, fun _ h => absurd h List.not_mem_nil⟩⟩⟩⟩⟩⟩⟩⟩⟩⟩⟩⟩⟩⟩⟩⟩
theorem lw_p48 : lw_okq (⟨"ClockPoolModel", "isLatest", "(I)Z"⟩, 27) := ⟨⟨by decide +kernel, by decide +kernel⟩, List.mem_of_getElem? (i := 459) (by decide +kernel), List.mem_of_getElem? (i := 654) (by decide +kernel), List.mem_of_getElem? (i := 655) (by decide +kernel)⟩
def lw_privs_4 : List (MethodName × Nat) := [(⟨"ClockPoolModel", "isLatest", "(I)Z"⟩, 27)]
theorem lw_r4 : ∀ q ∈ lw_privs_4, lw_okq q := List.forall_mem_cons.mpr ⟨lw_p48, fun _ h => absurd h List.not_mem_nil⟩
def lw_privs : List (MethodName × Nat) := lw_privs_1 ++ (lw_privs_2 ++ (lw_privs_3 ++ (lw_privs_4)))
def lw_tbl : List Cond := k2_sels lw_privs ++ tables_1
theorem lw_privs_ok : ∀ q ∈ lw_privs, lw_okq q := by
  show ∀ q ∈ lw_privs_1 ++ (lw_privs_2 ++ (lw_privs_3 ++ (lw_privs_4))), lw_okq q
  exact List.forall_mem_append.mpr ⟨lw_r1, List.forall_mem_append.mpr ⟨lw_r2, List.forall_mem_append.mpr ⟨lw_r3, lw_r4⟩⟩⟩
end
section
/-! ===== BEGIN words of one list among another's, by their places ===== -/
theorem goodIn_r {big : List Cond} (ws : List Cond) (ps : List Nat) (hp : ws = ps.filterMap (fun i => big[i]?)) (h : ws.all goodWord = true) : GoodIn big ws := by
  intro w hw
  have h1 := List.all_eq_true.mp h w hw
  rw [hp] at hw
  obtain ⟨i, -, hi⟩ := List.mem_filterMap.mp hw
  have hm : w ∈ big := by first | exact List.mem_of_getElem? hi | exact List.getElem?_mem hi
  exact ⟨hm, good_of_word h1⟩
theorem goodIn_app {big a b : List Cond} (ha : GoodIn big a) (hb : GoodIn big b) : GoodIn big (a ++ b) := fun w h => (List.mem_append.mp h).elim (ha w) (hb w)
theorem goodIn_ca {big a b : List Cond} {c : Cond} (ha : GoodIn big (c :: a)) (hb : GoodIn big b) : GoodIn big (c :: (a ++ b)) := fun w h => (List.mem_cons.mp h).elim (fun e => ha w (List.mem_cons.mpr (Or.inl e))) (fun h => (List.mem_append.mp h).elim (fun h => ha w (List.mem_cons.mpr (Or.inr h))) (hb w))
theorem goodIn_sub {big ws : List Cond} (hm : ∀ w ∈ ws, w ∈ big) (h : ws.all goodWord = true) : GoodIn big ws := fun w hw => ⟨hm w hw, good_of_word (List.all_eq_true.mp h w hw)⟩
/-! ===== END ===== -/


/-! ===== BEGIN exceptions that leave a method, and their catching by the caller (launches without stack traces) ===== -/
section VXA
/-! The laws vx_back, vx_callV, vx_callS, vx_callSW, vx_throw0, vx_throwS follow proofs of the library, with one case more: JvmDerived/Free/Laws.lean (Back.of_free), Shelf42/LK1.lean (callV, callS), Shelf/KitTraced.lean (throwNew0V, throwNewS). -/
/-- where a method has thrown q: the class by its name, the cell, what was written, the world -/
def vx_T (XC : String → State → State → Prop) (st : State) (q : Addr) (t : State) (mc ms : Nat) (free : Addr → Prop) : Prop :=
  ∃ (E : String) (ce : Cell) (L : List Loc), XC E st t ∧ t.heap[q]? = some ce ∧ ce.vm = .none ∧ st.vm.findClass E = some ce.cls ∧ st.WarmedH t.vm ∧ st.sameButNew ({ t with vm := st.vm } : State) L mc ms ∧ ∀ z ∈ L, free z.base
def vx_Q (Qc : Array Value → State → Outcome → State → Prop) (XC : String → State → State → Prop) (mc ms : Nat) (free : Addr → Prop) : Array Value → State → Outcome → State → Prop := fun a st o t =>
  (Qc a st o t ∧ ∃ L, FrameEnd st o t L mc ms ∧ ∀ q ∈ L, free q.base) ∨ ∃ q, o = .threw q ∧ vx_T XC st q t mc ms free
/-- a callee that returns or throws -/
def vx_Met (l : Launch) (y : MethodName) (ws : List Cond) (rm : Room) (Pc : Array Value → State → Prop) (Qc : Array Value → State → Outcome → State → Prop) (XC : String → State → State → Prop) (mc ms : Nat) (free : Addr → Prop) : Prop :=
  MetFree l y (headSpec ws rm) Pc (fun _ _ _ _ _ => True) (vx_Q Qc XC mc ms free)
def vx_Post (XC : String → State → State → Prop) (mc ms : Nat) (free : Addr → Prop) : Pt → Array Value → Addr → Pt → Prop := fun A a q B =>
  ∃ (g : JFrame) (mk : MethodId) (t : State) (L : List Loc) (E : String) (ce : Cell), B.U.heap = t.heap ∧ B.U.vm = t.vm ∧ XC E (A.U.calling g mk a) t ∧ t.heap[q]? = some ce ∧ ce.vm = .none ∧ A.U.vm.findClass E = some ce.cls ∧ B.locs = A.locs ++ L ∧ (∀ z ∈ L, free z.base) ∧ B.cells = A.cells + mc ∧ B.slots = A.slots + ms
def vx_Back (l : Launch) (R : Room) (p : Program) (e : Env) (below : List Frame) (s : State) (sargs : Array Value) (y : MethodName) (len W9 : Nat)
    (Pre : Pt → Array Value → Prop) (Post : Pt → Array Value → Option Value → Pt → Prop) (PostX : Pt → Array Value → Addr → Pt → Prop) : Prop :=
  ∀ (m : MethodId) (meth : Method) (c : Code) (A : Pt) (g : JFrame) (ig : Instr) (mk : MethodId) (a : Array Value),
    Stand p l e R s m sargs below meth c A.U A.locs A.cells A.slots → g.method = m → g.locals.size = c.maxLocals → decode c.code g.pc = .ok (ig, len) →
    2 * g.monitorRoom + (g.stack.map fun v => v.category).sum ≤ W9 → A.U.methodNamed? y = some mk → Pre A a →
    (∃ (v : Option Value) (B : Pt), Stand p l e R s m sargs below meth c B.U B.locs B.cells B.slots ∧ Post A a v B ∧
      Steps p.tables e below (doInvoke e (A.U.setTop g) [] mk a).1 (B.U.setTop { g with pc := g.pc + len, stack := v.toList ++ g.stack })) ∨
    (∃ (q : Addr) (B : Pt), Stand p l e R s m sargs below meth c B.U B.locs B.cells B.slots ∧ PostX A a q B ∧
      Steps p.tables e below (doInvoke e (A.U.setTop g) [] mk a).1 ((B.U.setTop g).pushFrame (.throwing q)))
section Payer
variable {l : Launch} {R : Room} {p : Program} {e : Env} {below : List Frame} {s : State} {sargs : Array Value} {y : MethodName} {len W9 : Nat}
theorem vx_back {ws : List Cond} {rm : Room} {Pc : Array Value → State → Prop} {Qc : Array Value → State → Outcome → State → Prop} {XC : String → State → State → Prop} {mc ms : Nat} {free : Addr → Prop} {bytes : ByteArray} {maxL : Nat} {ret : Option FieldType}
    (hM : vx_Met l y ws rm Pc Qc XC mc ms free) (hblind : FrameBlind Pc) (hrc : rm.cells = mc) (hrs : rm.slots = ms)
    (hframes : rm.frames + 1 ≤ R.frames) (hlocals : W9 + (maxL + 11) + rm.locals ≤ R.locals)
    (hws : ∀ w ∈ ws, ∀ a' U, s.WarmedH U.vm → w.before a' U = true) (hcode : Cond.code y bytes maxL ret ∈ ws) (hinit : ∀ a' U, s.WarmedH U.vm → (Cond.initialized y.cls).before a' U = true) :
    vx_Back l R p e below s sargs y len W9 (PreOf R mc ms Pc) (PostOf Qc mc ms free) (vx_Post XC mc ms free) := by
  intro m meth c A g ig mk a X hg hsize hdg hW hn hp
  have h1 : (headSpec ws rm).pre.before a A.U = true := atoms_intro fun w hw => hws w hw _ _ X.warmed
  have h2 : (Cond.code y bytes maxL ret).before a A.U = true := hws _ hcode _ _ X.warmed
  have h3 : (Cond.initialized y.cls).before a A.U = true := hinit _ _ X.warmed
  have h4 : A.cells + (headSpec ws rm).room.cells ≤ R.cells := by rw [show (headSpec ws rm).room.cells = mc from hrc]; exact hp.1
  have h5 : A.slots + (headSpec ws rm).room.slots ≤ R.slots := by rw [show (headSpec ws rm).room.slots = ms from hrs]; exact hp.2.1
  have hPc : Pc a (A.U.calling g mk a) := hblind _ _ _ _ hp.2.2
  obtain ⟨U, Ls, c0, s0⟩ := A
  dsimp only [Pt.U, Pt.locs, Pt.cells, Pt.slots] at h1 h2 h3 h4 h5 X hn hPc ⊢
  obtain ⟨methY, cY, hmY, hcY, -, hlY, -, -, -, -⟩ := Cond.code_spec hn h2
  obtain ⟨kY, hkY, -⟩ := className_of_methodNamed hn
  have hinitY : kY.init = .initialized := Cond.initialized_spec (findClass_of_methodNamed hn) hkY h3
  have h : At U g.method c below := by rw [hg]; exact X.here
  have hlocals9 : W9 + (maxL + 11) + (headSpec ws rm).room.locals ≤ R.locals := hlocals
  have happ : (headSpec ws rm).appliesLoose y e.platform (U.calling g mk a) = true :=
    Spec.appliesLoose_calling (g := g) h hdg hn hkY hinitY
      (X.room_calling (g := g) (R' := (headSpec ws rm).room) hsize hmY hcY hframes (by rw [hlY]; omega) h4 h5) h1
  obtain ⟨mid, hmid⟩ := h.above
  have hfr : (U.setTop g).frames = (.java g :: mid) ++ below := by rw [State.frames_setTop' g h.top, hmid]; rfl
  obtain ⟨o, s₂, hsteps, -, hend, hq⟩ := Steps.callFree hM p X.admits X.cas X.clock (acts := []) hfr happ hPc trivial
  have hq' : vx_Q Qc XC mc ms free a (U.calling g mk a) o s₂ := hq
  rw [State.frames_setTop' g h.top] at hend
  obtain ⟨g₀, hg0⟩ := Option.isSome_iff_exists.mp h.top
  obtain ⟨r, hr⟩ := State.topJava?_eq_some.mp hg0
  have hr' : (({ U with heap := s₂.heap, slotsUsed := s₂.slotsUsed } : State).setVm s₂.vm).frames = .java g₀ :: r := hr
  rcases hq' with ⟨hqc, L, hfe, hL⟩ | ⟨q, rfl, E, ce, L, hx, hce, hcv, hcl, hW₂, hsm, hL⟩
  · obtain ⟨⟨v, rfl⟩, hW₂, e2, q2, q3, q4, q5, q6⟩ := id hfe
    have e3 : s₂ = ({ (U.calling g mk a).setFrames s₂.frames with heap := s₂.heap, slotsUsed := s₂.slotsUsed } : State).setVm s₂.vm := by
      have : s₂ = ({ s₂ with vm := (U.calling g mk a).vm } : State).setVm s₂.vm := rfl
      rw [e2] at this
      exact this
    obtain ⟨c₂, i₂, len₂, hc₂, hd₂, hf₂⟩ := hend
    have hW' : U.WarmedH s₂.vm := hW₂
    have hcc : c₂ = c := by
      have h1 : s₂.code? g.method = U.code? g.method := by
        rw [State.code?_eq, State.code?_eq, hW'.alike.method?]
      exact Option.some.inj (hc₂.symm.trans (h1.trans h.code))
    subst hcc
    have hlen : len₂ = len := by rw [hdg] at hd₂; cases hd₂; rfl
    subst hlen
    have hs₂ : s₂ = (({ U with heap := s₂.heap, slotsUsed := s₂.slotsUsed } : State).setVm s₂.vm).setTop { g with pc := g.pc + len₂, stack := v.toList ++ g.stack } := by
      refine e3.trans ?_
      rw [hf₂, State.calling_eq h.top, State.setFrames_setFrames, State.setTop_of_frames _ hr', hr]
      rfl
    have hsame : U.sameButNew ({ U with heap := s₂.heap, slotsUsed := s₂.slotsUsed } : State) L mc ms := by
      refine ⟨?_, q2, q3, q4, q5, q6⟩
      obtain ⟨t, ht, -⟩ := State.frames_cons hr
      show ({ U with heap := s₂.heap, slotsUsed := s₂.slotsUsed } : State) = { U.setFrames U.frames with heap := s₂.heap, slotsUsed := s₂.slotsUsed }
      rw [State.setFrames_self ht]
    subst hg
    refine Or.inl ⟨v, ⟨(({ U with heap := s₂.heap, slotsUsed := s₂.slotsUsed } : State).setVm s₂.vm), Ls ++ L, c0 + mc, s0 + ms⟩,
      ⟨X.admits, X.cas, X.clock, X.frames, X.room, X.hears, X.method, X.code, (X.here.setHeapUsed s₂.heap s₂.slotsUsed).setVm hW'.alike, X.tail, State.WarmedH.trans X.warmed hW', X.limits, X.bytes, X.same.trans (hsame.setVm s.vm)⟩,
      ⟨g, mk, s₂, L, rfl, rfl, hqc, rfl, hL, rfl, rfl⟩, ?_⟩
    show Steps p.tables e below _ ((({ U with heap := s₂.heap, slotsUsed := s₂.slotsUsed } : State).setVm s₂.vm).setTop { g with pc := g.pc + len₂, stack := v.toList ++ g.stack })
    rw [← hs₂]
    exact hsteps
  · obtain ⟨e2, q2, q3, q4, q5, q6⟩ := id hsm
    have e3 : s₂ = ({ (U.calling g mk a).setFrames s₂.frames with heap := s₂.heap, slotsUsed := s₂.slotsUsed } : State).setVm s₂.vm := by
      have : s₂ = ({ s₂ with vm := (U.calling g mk a).vm } : State).setVm s₂.vm := rfl
      rw [e2] at this
      exact this
    have hf₂ : s₂.frames = .throwing q :: .java g :: U.frames.tail := hend
    have hW' : U.WarmedH s₂.vm := hW₂
    have hs₂ : s₂ = ((({ U with heap := s₂.heap, slotsUsed := s₂.slotsUsed } : State).setVm s₂.vm).setTop g).pushFrame (.throwing q) := by
      refine e3.trans ?_
      rw [hf₂, State.calling_eq h.top, State.setFrames_setFrames, State.pushFrame, State.frames_setTop _ hr', State.setTop_of_frames _ hr', State.setFrames_setFrames, hr]
      rfl
    have hsame : U.sameButNew ({ U with heap := s₂.heap, slotsUsed := s₂.slotsUsed } : State) L mc ms := by
      refine ⟨?_, q2, q3, q4, q5, q6⟩
      obtain ⟨t, ht, -⟩ := State.frames_cons hr
      show ({ U with heap := s₂.heap, slotsUsed := s₂.slotsUsed } : State) = { U.setFrames U.frames with heap := s₂.heap, slotsUsed := s₂.slotsUsed }
      rw [State.setFrames_self ht]
    subst hg
    refine Or.inr ⟨q, ⟨(({ U with heap := s₂.heap, slotsUsed := s₂.slotsUsed } : State).setVm s₂.vm), Ls ++ L, c0 + mc, s0 + ms⟩,
      ⟨X.admits, X.cas, X.clock, X.frames, X.room, X.hears, X.method, X.code, (X.here.setHeapUsed s₂.heap s₂.slotsUsed).setVm hW'.alike, X.tail, State.WarmedH.trans X.warmed hW', X.limits, X.bytes, X.same.trans (hsame.setVm s.vm)⟩,
      ⟨g, mk, s₂, L, E, ce, rfl, rfl, hx, hce, hcv, hcl, rfl, hL, rfl, rfl⟩, ?_⟩
    show Steps p.tables e below _ (((({ U with heap := s₂.heap, slotsUsed := s₂.slotsUsed } : State).setVm s₂.vm).setTop g).pushFrame (.throwing q))
    rw [← hs₂]
    exact hsteps
end Payer
section Calls
variable {p : Program} {l : Launch} {e : Env} {R : Room} {s : State} {m : MethodId} {args : Array Value} {below : List Frame} {meth : Method} {c : Code} {T : State} {locs : List Loc} {cells slots : Nat}
theorem vx_callV (X : Stand p l e R s m args below meth c T locs cells slots) (hexec : p.tables.exec = Jvm.exec) {own C : String} {index : Nat} {y : MethodName} {bytes : ByteArray} {maxL : Nat} {ret : Option FieldType}
    (hown : s.vm.findClass own = some m.cls) (hlink : (Cond.methodLink own index y).before args s = true) (hinst : (Cond.instanceMethod y).before args s = true) (hsel : (Cond.selects C y y).before args s = true)
    (hcode : (Cond.code y bytes maxL ret).before args s = true) (hy : y.cls ≠ "java/lang/invoke/MethodHandle" ∧ y.cls ≠ "java/lang/invoke/VarHandle")
    {W9 : Nat} {Pre : Pt → Array Value → Prop} {Post : Pt → Array Value → Option Value → Pt → Prop} {PostX : Pt → Array Value → Addr → Pt → Prop} (hK : vx_Back l R p e below s args y 3 W9 Pre Post PostX)
    {b : Addr} {cellB : Cell} (hcell : T.heap[b]? = some cellB) (hobj : cellB.vm.isStatics = false) (hcls : s.vm.findClass C = some cellB.cls)
    {g : JFrame} (hg : g.method = m) (hsize : g.locals.size = c.maxLocals) {argsL rest : List Value} (hlen : ∀ sig, parseMethodDescriptor y.desc = some sig → argsL.length = sig.parameters.length)
    (hstack : g.stack = argsL.reverse ++ .ref b :: rest) (hW : 2 * g.monitorRoom + (rest.map fun v => v.category).sum ≤ W9) (hdg : decode c.code g.pc = .ok (.invokevirtual index, 3))
    (hpre : ∀ vm₁, s.WarmedH vm₁ → Pre ⟨T.setVm vm₁, locs, cells, slots⟩ (Value.ref b :: argsL).toArray) :
    (∃ (v : Option Value) (vm₁ : Vm) (B : Pt), s.WarmedH vm₁ ∧ Stand p l e R s m args below meth c B.U B.locs B.cells B.slots ∧ Post ⟨T.setVm vm₁, locs, cells, slots⟩ (Value.ref b :: argsL).toArray v B ∧
      ∀ target, Steps p.tables e below (B.U.setTop { g with pc := g.pc + 3, stack := v.toList ++ rest }) target → Steps p.tables e below (T.setTop g) target) ∨
    (∃ (q : Addr) (vm₁ : Vm) (B : Pt), s.WarmedH vm₁ ∧ Stand p l e R s m args below meth c B.U B.locs B.cells B.slots ∧ PostX ⟨T.setVm vm₁, locs, cells, slots⟩ (Value.ref b :: argsL).toArray q B ∧
      Steps p.tables e below (T.setTop g) ((B.U.setTop { g with stack := rest }).pushFrame (.throwing q))) := by
  obtain ⟨mk, methM, hnamed, hmethM, hstM, habM⟩ := Cond.instanceMethod_spec hinst
  obtain ⟨methM', cM, hmethM', -, -, -, -, -, -, hsigM⟩ := Cond.code_spec hnamed hcode
  cases hmethM.symm.trans hmethM'
  obtain ⟨c2, r2, m2, q1, q2, q3, q4, kP, hkP, hkPi⟩ := Cond.selects_spec hsel
  cases hcls.symm.trans q1
  cases (State.methodFound?_of_named hnamed hy).symm.trans q2
  cases hnamed.symm.trans q3
  have hselP : selectMethod e.platform s.vm cellB.cls mk = .method mk := by rw [Launch.admits_selectMethod X.admits]; exact q4
  obtain ⟨vm₁, X₁, hstep₁⟩ := X.invokevirtual hexec hown hlink hnamed hmethM hstM hkP hkPi hy (a := b) (cell := cellB) hcell
    (fun z h => by rw [h] at hobj; cases hobj) hselP hmethM habM hkP hkPi (g := g) hg (argsL := argsL) (rest := rest) (hlen _ hsigM) hstack hdg
  rcases hK m meth c ⟨T.setVm vm₁, locs, cells, slots⟩ { g with stack := rest } (.invokevirtual index) mk (Value.ref b :: argsL).toArray X₁ hg hsize hdg hW (X₁.named hnamed) (hpre vm₁ X₁.warmed) with ⟨v, B, X', hpost, hsteps⟩ | ⟨q, B, X', hpost, hsteps⟩
  · exact Or.inl ⟨v, vm₁, B, X₁.warmed, X', hpost, fun target h => hstep₁ _ fun acts => by rw [doInvoke_state]; exact hsteps.trans h⟩
  · exact Or.inr ⟨q, vm₁, B, X₁.warmed, X', hpost, hstep₁ _ fun acts => by rw [doInvoke_state]; exact hsteps⟩
theorem vx_callS (X : Stand p l e R s m args below meth c T locs cells slots) (hexec : p.tables.exec = Jvm.exec) {own : String} {index : Nat} {y : MethodName} {bytes : ByteArray} {maxL : Nat} {ret : Option FieldType}
    (hown : s.vm.findClass own = some m.cls) (hlink : (Cond.methodLink own index y).before args s = true) (hstat : (Cond.static y).before args s = true) (hinit : (Cond.initialized y.cls).before args s = true)
    (hcode : (Cond.code y bytes maxL ret).before args s = true) (hy : y.cls ≠ "java/lang/invoke/MethodHandle" ∧ y.cls ≠ "java/lang/invoke/VarHandle")
    {W9 : Nat} {Pre : Pt → Array Value → Prop} {Post : Pt → Array Value → Option Value → Pt → Prop} {PostX : Pt → Array Value → Addr → Pt → Prop} (hK : vx_Back l R p e below s args y 3 W9 Pre Post PostX)
    {g : JFrame} (hg : g.method = m) (hsize : g.locals.size = c.maxLocals) {argsL rest : List Value} (hlen : ∀ sig, parseMethodDescriptor y.desc = some sig → argsL.length = sig.parameters.length)
    (hstack : g.stack = argsL.reverse ++ rest) (hW : 2 * g.monitorRoom + (rest.map fun v => v.category).sum ≤ W9) (hdg : decode c.code g.pc = .ok (.invokestatic index, 3))
    (hpre : ∀ vm₁, s.WarmedH vm₁ → Pre ⟨T.setVm vm₁, locs, cells, slots⟩ argsL.toArray) :
    (∃ (v : Option Value) (vm₁ : Vm) (B : Pt), s.WarmedH vm₁ ∧ Stand p l e R s m args below meth c B.U B.locs B.cells B.slots ∧ Post ⟨T.setVm vm₁, locs, cells, slots⟩ argsL.toArray v B ∧
      ∀ target, Steps p.tables e below (B.U.setTop { g with pc := g.pc + 3, stack := v.toList ++ rest }) target → Steps p.tables e below (T.setTop g) target) ∨
    (∃ (q : Addr) (vm₁ : Vm) (B : Pt), s.WarmedH vm₁ ∧ Stand p l e R s m args below meth c B.U B.locs B.cells B.slots ∧ PostX ⟨T.setVm vm₁, locs, cells, slots⟩ argsL.toArray q B ∧
      Steps p.tables e below (T.setTop g) ((B.U.setTop { g with stack := rest }).pushFrame (.throwing q))) := by
  obtain ⟨mk, hnamed⟩ := Cond.code_named hcode
  obtain ⟨methM, cM, hmethM, -, -, -, -, -, -, hsigM⟩ := Cond.code_spec hnamed hcode
  have hstatic : methM.isStatic = true := Cond.static_spec hnamed hmethM hstat
  obtain ⟨kP, hkP, -⟩ := className_of_methodNamed hnamed
  have hinitP : kP.init = .initialized := Cond.initialized_spec (findClass_of_methodNamed hnamed) hkP hinit
  obtain ⟨vm₁, X₁, hstep₁⟩ := X.invokestatic hexec hown hlink hnamed hmethM hstatic hkP hinitP hy (g := g) hg (argsL := argsL) (rest := rest) (hlen _ hsigM) hstack hdg
  rcases hK m meth c ⟨T.setVm vm₁, locs, cells, slots⟩ { g with stack := rest } (.invokestatic index) mk argsL.toArray X₁ hg hsize hdg hW (X₁.named hnamed) (hpre vm₁ X₁.warmed) with ⟨v, B, X', hpost, hsteps⟩ | ⟨q, B, X', hpost, hsteps⟩
  · exact Or.inl ⟨v, vm₁, B, X₁.warmed, X', hpost, fun target h => hstep₁ _ fun acts => by rw [doInvoke_state]; exact hsteps.trans h⟩
  · exact Or.inr ⟨q, vm₁, B, X₁.warmed, X', hpost, hstep₁ _ fun acts => by rw [doInvoke_state]; exact hsteps⟩
end Calls
theorem vx_cls {s : State} {T : State} {vm₁ : Vm} {E : String} {k : ClassId} (hW : s.WarmedH vm₁) (h : (T.setVm vm₁).vm.findClass E = some k) : s.vm.findClass E = some k := by
  have h1 : vm₁.findClass E = some k := h
  rw [hW.alike.findClass] at h1
  exact h1
/-- the method's frame g, with q thrown over it -/
def vx_W (p : Program) (l : Launch) (e : Env) (R : Room) (s : State) (m : MethodId) (args : Array Value) (below : List Frame) (meth : Method) (c : Code) (H : Heap) (locs : List Loc) (cells slots : Nat) (Q : State → Prop) (g : JFrame) (q : Addr) : Prop :=
  ∀ T : State, T.heap = H → Stand p l e R s m args below meth c T locs cells slots → ∃ t, Steps p.tables e below ((T.setTop g).pushFrame (.throwing q)) t ∧ Q t
def vx_Run (p : Program) (l : Launch) (e : Env) (R : Room) (s : State) (m : MethodId) (args : Array Value) (below : List Frame) (meth : Method) (c : Code) (H : Heap) (locs : List Loc) (cells slots mc ms : Nat) (g : JFrame) (rest : List Value) (Qa : State → Outcome → State → Prop) (XC : String → State → State → Prop) (free : Addr → Prop) : Prop :=
  ∀ T : State, T.heap = H → Stand p l e R s m args below meth c T locs cells slots →
    (∃ (v : Option Value) (st₀ t T' : State) (L : List Loc), st₀.heap = H ∧ Stand p l e R s m args below meth c T' (locs ++ L) (cells + mc) (slots + ms) ∧ (∀ q ∈ L, free q.base) ∧ T'.heap = t.heap ∧ T'.vm = t.vm ∧ Qa st₀ (.returned v) t ∧
      Goes p e below T g T' { g with pc := g.pc + 3, stack := v.toList ++ rest }) ∨
    (∃ (q : Addr) (st₀ t T' : State) (L : List Loc) (E : String) (ce : Cell), st₀.heap = H ∧ Stand p l e R s m args below meth c T' (locs ++ L) (cells + mc) (slots + ms) ∧ (∀ z ∈ L, free z.base) ∧ T'.heap = t.heap ∧ T'.vm = t.vm ∧ XC E st₀ t ∧ t.heap[q]? = some ce ∧ ce.vm = .none ∧ s.vm.findClass E = some ce.cls ∧
      Steps p.tables e below (T.setTop g) ((T'.setTop { g with stack := rest }).pushFrame (.throwing q)))
def vx_X {S : Type} (px : S → Prop) (B : String → S → State → Prop) (A : Nat → Prop) : String → State → State → Prop := fun E st t => ∃ u : S, px u ∧ B E u t ∧ va_F A st t
section Runs
variable {p : Program} {l : Launch} {e : Env} {R : Room} {s : State} {m : MethodId} {args : Array Value} {below : List Frame} {meth : Method} {c : Code} {H : Heap} {locs : List Loc} {cells slots : Nat}
variable {y : MethodName} {bytes cc : ByteArray} {maxL nL mc ms n index : Nat} {ret : Option FieldType} {ws : List Cond} {rm : Room} {Pc : Array Value → State → Prop} {Qc : Array Value → State → Outcome → State → Prop} {XC : String → State → State → Prop} {free : Addr → Prop} {Ts : List Cond} {own C : String} {b : Addr} {As rest : List Value} {g : JFrame}
theorem vx_callBack (cb : CallB R s args own index y bytes maxL ret ws rm mc ms n) (hM : vx_Met l y ws rm Pc Qc XC mc ms free) (hbl : FrameBlind Pc) : vx_Back l R p e below s args y 3 8 (PreOf R mc ms Pc) (PostOf Qc mc ms free) (vx_Post XC mc ms free) := by
  obtain ⟨hrc, hrs, hfr, hlo, hws, hcw, -, hini, -⟩ := cb
  exact vx_back (bytes := bytes) (maxL := maxL) (ret := ret) hM hbl hrc hrs hfr hlo hws hcw (fun a' U hW => word_at hW (Or.inl (by first | rfl | simp [Cond.onTables, Cond.keeps, Cond.steady])) hini)
theorem vx_runV (S : CallFix p m c cc nL s args Ts own) (hM : vx_Met l y ws rm Pc Qc XC mc ms free) (cw : CallW R s args own C index y bytes maxL ret ws rm mc ms n) (hp : PreV s H C b Pc As)
    (hg : g.method = m) (hn : As.length = n) (hsize : g.locals.size = nL) (hstack : g.stack = As.reverse ++ .ref b :: rest) (hW : 2 * g.monitorRoom + (rest.map fun v => v.category).sum ≤ 8) (hdg : decode cc g.pc = .ok (.invokevirtual index, 3)) (hf : cells + mc ≤ R.cells ∧ slots + ms ≤ R.slots) :
    vx_Run p l e R s m args below meth c H locs cells slots mc ms g rest (Qc (Value.ref b :: As).toArray) XC free := by
  have hK : vx_Back l R p e below s args y 3 8 (PreOf R mc ms Pc) (PostOf Qc mc ms free) (vx_Post XC mc ms free) := vx_callBack cw.1 hM hp.1
  obtain ⟨⟨-, -, -, -, -, -, hcode, -, hy, hlen, hl⟩, hin, hse⟩ := cw
  obtain ⟨hx, hb, hml, ho, -⟩ := S
  obtain ⟨-, ⟨cellB, hcB, hoB, hclB⟩, hPc⟩ := hp
  intro T hT X
  rcases vx_callV X hx (C := C) (bytes := bytes) (maxL := maxL) (ret := ret) ho hl hin hse hcode hy hK (by rw [hT]; exact hcB) hoB hclB hg (hsize.trans hml.symm) (argsL := As) (rest := rest) (fun sig h => hn.trans (hlen sig h)) hstack hW (by rw [hb]; exact hdg)
    (fun vm₁ hW₁ => ⟨hf.1, hf.2, hPc (T.setVm vm₁) hT hW₁⟩) with ⟨v, vm₁, ⟨U', l2, c2, s2⟩, hW₁, X', ⟨g', mk, t, L, e1, e2, hq, h1, hL, h2, h3⟩, st⟩ | ⟨q, vm₁, ⟨U', l2, c2, s2⟩, hW₁, X', ⟨g', mk, t, L, E, ce, e1, e2, hq, hce, hcv, hcl, h1, hL, h2, h3⟩, st⟩
  · dsimp only [Pt.U, Pt.locs, Pt.cells, Pt.slots] at X' e1 e2 h1 h2 h3 st
    subst h1; subst h2; subst h3
    exact Or.inl ⟨v, (T.setVm vm₁).calling g' mk (Value.ref b :: As).toArray, t, U', L, hT, X', hL, e1, e2, hq, st⟩
  · dsimp only [Pt.U, Pt.locs, Pt.cells, Pt.slots] at X' e1 e2 h1 h2 h3 st hcl
    subst h1; subst h2; subst h3
    exact Or.inr ⟨q, (T.setVm vm₁).calling g' mk (Value.ref b :: As).toArray, t, U', L, E, ce, hT, X', hL, e1, e2, hq, hce, hcv, vx_cls hW₁ hcl, st⟩
theorem vx_runS (S : CallFix p m c cc nL s args Ts own) (hM : vx_Met l y ws rm Pc Qc XC mc ms free) (cw : CallB R s args own index y bytes maxL ret ws rm mc ms n ∧ (Cond.static y).before args s = true) (hp : PreS s H Pc As)
    (hg : g.method = m) (hn : As.length = n) (hsize : g.locals.size = nL) (hstack : g.stack = As.reverse ++ rest) (hW : 2 * g.monitorRoom + (rest.map fun v => v.category).sum ≤ 8) (hdg : decode cc g.pc = .ok (.invokestatic index, 3)) (hf : cells + mc ≤ R.cells ∧ slots + ms ≤ R.slots) :
    vx_Run p l e R s m args below meth c H locs cells slots mc ms g rest (Qc As.toArray) XC free := by
  have hK : vx_Back l R p e below s args y 3 8 (PreOf R mc ms Pc) (PostOf Qc mc ms free) (vx_Post XC mc ms free) := vx_callBack cw.1 hM hp.1
  obtain ⟨⟨-, -, -, -, -, -, hcode, hini, hy, hlen, hl⟩, hstt⟩ := cw
  obtain ⟨hx, hb, hml, ho, -⟩ := S
  intro T hT X
  rcases vx_callS X hx (bytes := bytes) (maxL := maxL) (ret := ret) ho hl hstt hini hcode hy hK hg (hsize.trans hml.symm) (argsL := As) (rest := rest) (fun sig h => hn.trans (hlen sig h)) hstack hW (by rw [hb]; exact hdg)
    (fun vm₁ hW₁ => ⟨hf.1, hf.2, hp.2 (T.setVm vm₁) hT hW₁⟩) with ⟨v, vm₁, ⟨U', l2, c2, s2⟩, hW₁, X', ⟨g', mk, t, L, e1, e2, hq, h1, hL, h2, h3⟩, st⟩ | ⟨q, vm₁, ⟨U', l2, c2, s2⟩, hW₁, X', ⟨g', mk, t, L, E, ce, e1, e2, hq, hce, hcv, hcl, h1, hL, h2, h3⟩, st⟩
  · dsimp only [Pt.U, Pt.locs, Pt.cells, Pt.slots] at X' e1 e2 h1 h2 h3 st
    subst h1; subst h2; subst h3
    exact Or.inl ⟨v, (T.setVm vm₁).calling g' mk As.toArray, t, U', L, hT, X', hL, e1, e2, hq, st⟩
  · dsimp only [Pt.U, Pt.locs, Pt.cells, Pt.slots] at X' e1 e2 h1 h2 h3 st hcl
    subst h1; subst h2; subst h3
    exact Or.inr ⟨q, (T.setVm vm₁).calling g' mk As.toArray, t, U', L, E, ce, hT, X', hL, e1, e2, hq, hce, hcv, vx_cls hW₁ hcl, st⟩
end Runs
section Rows
variable {p : Program} {l : Launch} {e : Env} {R : Room} {s : State} {m : MethodId} {args : Array Value} {below : List Frame} {meth : Method} {c : Code} {H : Heap} {locs : List Loc} {cells slots : Nat} {Q : State → Prop}
variable {mc ms : Nat} {free : Addr → Prop} {A0 A1 : Nat → Prop} {H0 : Heap} {a : Array Value} {pc : Nat} {ls : Array Slot} {st0 rest : List Value}
theorem vx_keep {st₀ t T' : State} {L : List Loc} (h0 : st₀.heap = H) (e1 : T'.heap = t.heap) (hS : va_S A0 H0 H locs) (hA : ∀ q, q < H.size → A1 q → A0 q) (hf : ∀ q, free q → A0 q) (hL : ∀ q ∈ L, free q.base) (hF : va_F A1 st₀ t) :
    H.size ≤ T'.heap.size ∧ (∀ q : Nat, q < H.size → ¬ A1 q → T'.heap[q]? = H[q]?) ∧ va_S A0 H0 T'.heap (locs ++ L) := by
  obtain ⟨hz, hk⟩ := hF
  rw [h0] at hz hk
  exact ⟨by rw [e1]; exact hz, fun q h1 h2 => by rw [e1]; exact hk q h1 h2,
    ⟨Nat.le_trans hS.1 (by rw [e1]; exact hz), fun q h1 h2 => by rw [e1, hk q (Nat.lt_of_lt_of_le h1 hS.1) (fun z => h2 (hA q (Nat.lt_of_lt_of_le h1 hS.1) z))]; exact hS.2.1 q h1 h2, fun q hq => by
      rcases List.mem_append.mp hq with h | h
      · exact hS.2.2 q h
      · exact hf _ (hL q h)⟩⟩
theorem vx_calli {S SX : Type} {post : Int32 → S → Prop} {px : SX → Prop} {B : S → State → Prop} {BX : String → SX → State → Prop} {AX : Nat → Prop} (hr : vx_Run p l e R s m args below meth c H locs cells slots mc ms (F0 m pc ls st0) rest (va_Qi post B A1 a) (vx_X px BX AX) free) (hS : va_S A0 H0 H locs) (hA : ∀ q, q < H.size → A1 q → A0 q) (hf : ∀ q, free q → A0 q) (hAX : ∀ q, q < H.size → AX q → A0 q)
    (kx : ∀ (E : String) (ce : Cell) (q9 : Addr) (u : SX) (t : State) (H1 : Heap) (locs1 : List Loc), t.heap = H1 → s.vm.Alike t.vm → px u → BX E u t → H.size ≤ H1.size → (∀ q : Nat, q < H.size → ¬ AX q → H1[q]? = H[q]?) → va_S A0 H0 H1 locs1 → H1[q9]? = some ce → ce.vm = .none → s.vm.findClass E = some ce.cls → vx_W p l e R s m args below meth c H1 locs1 (cells + mc) (slots + ms) Q (F0 m pc ls rest) q9)
    (kk : ∀ (r : Int32) (u : S) (t : State) (H1 : Heap) (locs1 : List Loc), t.heap = H1 → s.vm.Alike t.vm → post r u → B u t → H.size ≤ H1.size → (∀ q : Nat, q < H.size → ¬ A1 q → H1[q]? = H[q]?) → va_S A0 H0 H1 locs1 → W p l e R s m args below meth c H1 locs1 (cells + mc) (slots + ms) Q (F0 m (pc + 3) ls (.int r :: rest))) : W p l e R s m args below meth c H locs cells slots Q (F0 m pc ls st0) := by
  intro T hT X
  rcases hr T hT X with ⟨v, st₀, t, T', L, h0, X', hL, e1, e2, ⟨⟨r, u, hv, hp, hb⟩, hF⟩, st⟩ | ⟨q, st₀, t, T', L, E, ce, h0, X', hL, e1, e2, ⟨u, hp, hb, hF⟩, hce, hcv, hcl, st⟩
  · cases hv
    obtain ⟨k1, k2, k3⟩ := vx_keep h0 e1 hS hA hf hL hF
    obtain ⟨t2, a1, b1⟩ := kk r u t T'.heap (locs ++ L) e1.symm (by rw [← e2]; exact X'.warmed.alike) hp hb k1 k2 k3 T' rfl X'
    exact ⟨t2, st t2 a1, b1⟩
  · obtain ⟨k1, k2, k3⟩ := vx_keep h0 e1 hS hAX hf hL hF
    obtain ⟨t2, a1, b1⟩ := kx E ce q u t T'.heap (locs ++ L) e1.symm (by rw [← e2]; exact X'.warmed.alike) hp hb k1 k2 k3 (by rw [e1]; exact hce) hcv hcl T' rfl X'
    exact ⟨t2, st.trans a1, b1⟩
theorem vx_calll {S SX : Type} {post : Int64 → S → Prop} {px : SX → Prop} {B : S → State → Prop} {BX : String → SX → State → Prop} {AX : Nat → Prop} (hr : vx_Run p l e R s m args below meth c H locs cells slots mc ms (F0 m pc ls st0) rest (va_Ql post B A1 a) (vx_X px BX AX) free) (hS : va_S A0 H0 H locs) (hA : ∀ q, q < H.size → A1 q → A0 q) (hf : ∀ q, free q → A0 q) (hAX : ∀ q, q < H.size → AX q → A0 q)
    (kx : ∀ (E : String) (ce : Cell) (q9 : Addr) (u : SX) (t : State) (H1 : Heap) (locs1 : List Loc), t.heap = H1 → s.vm.Alike t.vm → px u → BX E u t → H.size ≤ H1.size → (∀ q : Nat, q < H.size → ¬ AX q → H1[q]? = H[q]?) → va_S A0 H0 H1 locs1 → H1[q9]? = some ce → ce.vm = .none → s.vm.findClass E = some ce.cls → vx_W p l e R s m args below meth c H1 locs1 (cells + mc) (slots + ms) Q (F0 m pc ls rest) q9)
    (kk : ∀ (r : Int64) (u : S) (t : State) (H1 : Heap) (locs1 : List Loc), t.heap = H1 → s.vm.Alike t.vm → post r u → B u t → H.size ≤ H1.size → (∀ q : Nat, q < H.size → ¬ A1 q → H1[q]? = H[q]?) → va_S A0 H0 H1 locs1 → W p l e R s m args below meth c H1 locs1 (cells + mc) (slots + ms) Q (F0 m (pc + 3) ls (.long r :: rest))) : W p l e R s m args below meth c H locs cells slots Q (F0 m pc ls st0) := by
  intro T hT X
  rcases hr T hT X with ⟨v, st₀, t, T', L, h0, X', hL, e1, e2, ⟨⟨r, u, hv, hp, hb⟩, hF⟩, st⟩ | ⟨q, st₀, t, T', L, E, ce, h0, X', hL, e1, e2, ⟨u, hp, hb, hF⟩, hce, hcv, hcl, st⟩
  · cases hv
    obtain ⟨k1, k2, k3⟩ := vx_keep h0 e1 hS hA hf hL hF
    obtain ⟨t2, a1, b1⟩ := kk r u t T'.heap (locs ++ L) e1.symm (by rw [← e2]; exact X'.warmed.alike) hp hb k1 k2 k3 T' rfl X'
    exact ⟨t2, st t2 a1, b1⟩
  · obtain ⟨k1, k2, k3⟩ := vx_keep h0 e1 hS hAX hf hL hF
    obtain ⟨t2, a1, b1⟩ := kx E ce q u t T'.heap (locs ++ L) e1.symm (by rw [← e2]; exact X'.warmed.alike) hp hb k1 k2 k3 (by rw [e1]; exact hce) hcv hcl T' rfl X'
    exact ⟨t2, st.trans a1, b1⟩
theorem vx_callf {S SX : Type} {post : UInt32 → S → Prop} {px : SX → Prop} {B : S → State → Prop} {BX : String → SX → State → Prop} {AX : Nat → Prop} (hr : vx_Run p l e R s m args below meth c H locs cells slots mc ms (F0 m pc ls st0) rest (va_Qf post B A1 a) (vx_X px BX AX) free) (hS : va_S A0 H0 H locs) (hA : ∀ q, q < H.size → A1 q → A0 q) (hf : ∀ q, free q → A0 q) (hAX : ∀ q, q < H.size → AX q → A0 q)
    (kx : ∀ (E : String) (ce : Cell) (q9 : Addr) (u : SX) (t : State) (H1 : Heap) (locs1 : List Loc), t.heap = H1 → s.vm.Alike t.vm → px u → BX E u t → H.size ≤ H1.size → (∀ q : Nat, q < H.size → ¬ AX q → H1[q]? = H[q]?) → va_S A0 H0 H1 locs1 → H1[q9]? = some ce → ce.vm = .none → s.vm.findClass E = some ce.cls → vx_W p l e R s m args below meth c H1 locs1 (cells + mc) (slots + ms) Q (F0 m pc ls rest) q9)
    (kk : ∀ (r : UInt32) (u : S) (t : State) (H1 : Heap) (locs1 : List Loc), t.heap = H1 → s.vm.Alike t.vm → post r u → B u t → H.size ≤ H1.size → (∀ q : Nat, q < H.size → ¬ A1 q → H1[q]? = H[q]?) → va_S A0 H0 H1 locs1 → W p l e R s m args below meth c H1 locs1 (cells + mc) (slots + ms) Q (F0 m (pc + 3) ls (.float r :: rest))) : W p l e R s m args below meth c H locs cells slots Q (F0 m pc ls st0) := by
  intro T hT X
  rcases hr T hT X with ⟨v, st₀, t, T', L, h0, X', hL, e1, e2, ⟨⟨r, u, hv, hp, hb⟩, hF⟩, st⟩ | ⟨q, st₀, t, T', L, E, ce, h0, X', hL, e1, e2, ⟨u, hp, hb, hF⟩, hce, hcv, hcl, st⟩
  · cases hv
    obtain ⟨k1, k2, k3⟩ := vx_keep h0 e1 hS hA hf hL hF
    obtain ⟨t2, a1, b1⟩ := kk r u t T'.heap (locs ++ L) e1.symm (by rw [← e2]; exact X'.warmed.alike) hp hb k1 k2 k3 T' rfl X'
    exact ⟨t2, st t2 a1, b1⟩
  · obtain ⟨k1, k2, k3⟩ := vx_keep h0 e1 hS hAX hf hL hF
    obtain ⟨t2, a1, b1⟩ := kx E ce q u t T'.heap (locs ++ L) e1.symm (by rw [← e2]; exact X'.warmed.alike) hp hb k1 k2 k3 (by rw [e1]; exact hce) hcv hcl T' rfl X'
    exact ⟨t2, st.trans a1, b1⟩
theorem vx_calld {S SX : Type} {post : UInt64 → S → Prop} {px : SX → Prop} {B : S → State → Prop} {BX : String → SX → State → Prop} {AX : Nat → Prop} (hr : vx_Run p l e R s m args below meth c H locs cells slots mc ms (F0 m pc ls st0) rest (va_Qd post B A1 a) (vx_X px BX AX) free) (hS : va_S A0 H0 H locs) (hA : ∀ q, q < H.size → A1 q → A0 q) (hf : ∀ q, free q → A0 q) (hAX : ∀ q, q < H.size → AX q → A0 q)
    (kx : ∀ (E : String) (ce : Cell) (q9 : Addr) (u : SX) (t : State) (H1 : Heap) (locs1 : List Loc), t.heap = H1 → s.vm.Alike t.vm → px u → BX E u t → H.size ≤ H1.size → (∀ q : Nat, q < H.size → ¬ AX q → H1[q]? = H[q]?) → va_S A0 H0 H1 locs1 → H1[q9]? = some ce → ce.vm = .none → s.vm.findClass E = some ce.cls → vx_W p l e R s m args below meth c H1 locs1 (cells + mc) (slots + ms) Q (F0 m pc ls rest) q9)
    (kk : ∀ (r : UInt64) (u : S) (t : State) (H1 : Heap) (locs1 : List Loc), t.heap = H1 → s.vm.Alike t.vm → post r u → B u t → H.size ≤ H1.size → (∀ q : Nat, q < H.size → ¬ A1 q → H1[q]? = H[q]?) → va_S A0 H0 H1 locs1 → W p l e R s m args below meth c H1 locs1 (cells + mc) (slots + ms) Q (F0 m (pc + 3) ls (.double r :: rest))) : W p l e R s m args below meth c H locs cells slots Q (F0 m pc ls st0) := by
  intro T hT X
  rcases hr T hT X with ⟨v, st₀, t, T', L, h0, X', hL, e1, e2, ⟨⟨r, u, hv, hp, hb⟩, hF⟩, st⟩ | ⟨q, st₀, t, T', L, E, ce, h0, X', hL, e1, e2, ⟨u, hp, hb, hF⟩, hce, hcv, hcl, st⟩
  · cases hv
    obtain ⟨k1, k2, k3⟩ := vx_keep h0 e1 hS hA hf hL hF
    obtain ⟨t2, a1, b1⟩ := kk r u t T'.heap (locs ++ L) e1.symm (by rw [← e2]; exact X'.warmed.alike) hp hb k1 k2 k3 T' rfl X'
    exact ⟨t2, st t2 a1, b1⟩
  · obtain ⟨k1, k2, k3⟩ := vx_keep h0 e1 hS hAX hf hL hF
    obtain ⟨t2, a1, b1⟩ := kx E ce q u t T'.heap (locs ++ L) e1.symm (by rw [← e2]; exact X'.warmed.alike) hp hb k1 k2 k3 (by rw [e1]; exact hce) hcv hcl T' rfl X'
    exact ⟨t2, st.trans a1, b1⟩
theorem vx_callv {S SX : Type} {post : S → Prop} {px : SX → Prop} {B : S → State → Prop} {BX : String → SX → State → Prop} {AX : Nat → Prop} (hr : vx_Run p l e R s m args below meth c H locs cells slots mc ms (F0 m pc ls st0) rest (va_Qv post B A1 a) (vx_X px BX AX) free) (hS : va_S A0 H0 H locs) (hA : ∀ q, q < H.size → A1 q → A0 q) (hf : ∀ q, free q → A0 q) (hAX : ∀ q, q < H.size → AX q → A0 q)
    (kx : ∀ (E : String) (ce : Cell) (q9 : Addr) (u : SX) (t : State) (H1 : Heap) (locs1 : List Loc), t.heap = H1 → s.vm.Alike t.vm → px u → BX E u t → H.size ≤ H1.size → (∀ q : Nat, q < H.size → ¬ AX q → H1[q]? = H[q]?) → va_S A0 H0 H1 locs1 → H1[q9]? = some ce → ce.vm = .none → s.vm.findClass E = some ce.cls → vx_W p l e R s m args below meth c H1 locs1 (cells + mc) (slots + ms) Q (F0 m pc ls rest) q9)
    (kk : ∀ (u : S) (t : State) (H1 : Heap) (locs1 : List Loc), t.heap = H1 → s.vm.Alike t.vm → post u → B u t → H.size ≤ H1.size → (∀ q : Nat, q < H.size → ¬ A1 q → H1[q]? = H[q]?) → va_S A0 H0 H1 locs1 → W p l e R s m args below meth c H1 locs1 (cells + mc) (slots + ms) Q (F0 m (pc + 3) ls (rest))) : W p l e R s m args below meth c H locs cells slots Q (F0 m pc ls st0) := by
  intro T hT X
  rcases hr T hT X with ⟨v, st₀, t, T', L, h0, X', hL, e1, e2, ⟨⟨u, hv, hp, hb⟩, hF⟩, st⟩ | ⟨q, st₀, t, T', L, E, ce, h0, X', hL, e1, e2, ⟨u, hp, hb, hF⟩, hce, hcv, hcl, st⟩
  · cases hv
    obtain ⟨k1, k2, k3⟩ := vx_keep h0 e1 hS hA hf hL hF
    obtain ⟨t2, a1, b1⟩ := kk u t T'.heap (locs ++ L) e1.symm (by rw [← e2]; exact X'.warmed.alike) hp hb k1 k2 k3 T' rfl X'
    exact ⟨t2, st t2 a1, b1⟩
  · obtain ⟨k1, k2, k3⟩ := vx_keep h0 e1 hS hAX hf hL hF
    obtain ⟨t2, a1, b1⟩ := kx E ce q u t T'.heap (locs ++ L) e1.symm (by rw [← e2]; exact X'.warmed.alike) hp hb k1 k2 k3 (by rw [e1]; exact hce) hcv hcl T' rfl X'
    exact ⟨t2, st.trans a1, b1⟩
end Rows
section Ends
variable {p : Program} {l : Launch} {e : Env} {R : Room} {s : State} {m : MethodId} {args : Array Value} {below : List Frame} {meth : Method} {c : Code} {H : Heap} {locs : List Loc} {cells slots : Nat} {Q : State → Prop}
variable {mc ms : Nat} {free : Addr → Prop} {A0 A1 : Nat → Prop} {H0 : Heap} {a : Array Value} {ls : Array Slot} {st0 rest : List Value}
variable {Qc : Array Value → State → Outcome → State → Prop} {XC : String → State → State → Prop}
/-- what a body that may throw owes at its end -/
def vx_MQ (below : List Frame) (Qc : Array Value → State → Outcome → State → Prop) (XC : String → State → State → Prop) (a : Array Value) (s : State) (mc ms : Nat) (free : Addr → Prop) : State → Prop := fun t =>
  ∃ o, t.status = .running ∧ Ended t below o ∧ vx_Q Qc XC mc ms free a s o t
theorem vx_ret {g : JFrame} {mc ms : Nat} (k : W p l e R s m args below meth c H locs cells slots (MQ below Qc args s mc ms free) g) : W p l e R s m args below meth c H locs cells slots (vx_MQ below Qc XC args s mc ms free) g := by
  intro T hT X
  obtain ⟨t, a1, o, b1, b2, b3, b4⟩ := k T hT X
  exact ⟨t, a1, o, b1, b2, Or.inl ⟨b3, b4⟩⟩
/-- not caught here: it goes on to the caller -/
theorem vx_widen {g : JFrame} {q : Addr} {k n : Nat} (h1 : cells ≤ k) (h2 : slots ≤ n) (kk : vx_W p l e R s m args below meth c H locs k n Q g q) : vx_W p l e R s m args below meth c H locs cells slots Q g q := fun T hT X => kk T hT (stand_widen X h1 h2)
theorem vx_out {pc : Nat} {E : String} {ce : Cell} {q : Addr} {mc ms : Nat} (hout : ∀ x ∈ c.exceptionTable.toList, covers x pc = false) (hlocks : meth.locks = false) (hcell : H[q]? = some ce) (hv : ce.vm = .none) (hcl : s.vm.findClass E = some ce.cls)
    (hx : ∀ t : State, t.heap = H → s.vm.Alike t.vm → XC E s t) (hf : ∀ z ∈ locs, free z.base) (hc : cells ≤ mc) (hs : slots ≤ ms) :
    vx_W p l e R s m args below meth c H locs cells slots (vx_MQ below Qc XC args s mc ms free) (F0 m pc ls rest) q := by
  intro T hT X
  obtain ⟨st1, hrun, hend, hW, hsm⟩ := X.leaveThrown q (g := F0 m pc ls rest) rfl rfl rfl hout hlocks
  have hcell9 : (T.setFrames (.throwing q :: below)).heap[q]? = some ce := by
    show T.heap[q]? = some ce
    rw [hT]; exact hcell
  exact ⟨_, st1, .threw q, hrun, hend, Or.inr ⟨q, rfl, E, ce, locs, hx _ hT hW.alike, hcell9, hv, hcl, hW, hsm.mono hc hs, hf⟩⟩
theorem vx_frame {U : State} {k n : Nat} (h : s.sameButNew ({ U with vm := s.vm } : State) locs k n) : s.heap.size ≤ U.heap.size ∧ ∀ q : Nat, q < s.heap.size → (∀ z ∈ locs, z.base ≠ q) → U.heap[q]? = s.heap[q]? := by
  obtain ⟨-, h2, -, -, -, h6⟩ := h
  refine ⟨h2, fun q hq hz => ?_⟩
  obtain ⟨c9, e1, e2, e3, e4⟩ := h6 q _ (Array.getElem?_eq_getElem hq)
  have hs : c9.slots = (s.heap[q]).slots := Array.ext_getElem? fun i => e4 i fun hm => hz _ hm rfl
  have h9 : c9 = s.heap[q] := by
    rw [hs] at e2
    exact e2
  have e5 : U.heap[q]? = some c9 := e1
  rw [e5, h9, Array.getElem?_eq_getElem hq]
/-- the words of a throw but the four that speak of the heap -/
def vx_no (w : Cond) : Bool := decide (w ≠ .isRef (.static Bundle.tN "UNASSIGNED_STACK" Bundle.steD)) && decide (w ≠ .isRef (.static Bundle.tN "SUPPRESSED_SENTINEL" Bundle.listD)) && decide (w ≠ .laysStatic Bundle.tN "UNASSIGNED_STACK" Bundle.steD) && decide (w ≠ .laysStatic Bundle.tN "SUPPRESSED_SENTINEL" Bundle.listD)
def vx_at0 (own : String) (ic : Nat) (X : String) (names : List String) : List Cond := (Bundle.ownAtoms0 own ic X names).filter vx_no
def vx_atS (own : String) (ic : Nat) (X : String) (names : List String) : List Cond := (Bundle.ownAtoms own ic X names).filter vx_no
/-- a word that the tables alone decide, or a good one -/
def vx_ot (w : Cond) : Bool := w.onTables || goodWord w
theorem vx_ot_at {args a' : Array Value} {s U : State} {w : Cond} (hW : s.WarmedH U.vm) (hvm : s.vm = U.vm) (hg : vx_ot w = true) (h : w.before args s = true) : w.before a' U = true := by
  simp only [vx_ot, Bool.or_eq_true] at hg
  rcases hg with hg | hg
  · exact va_tabs hg hvm h
  · exact word_at hW (good_of_word hg) h
/-- a list's words: the good ones out of the method's own list, the others by premises of their own -/
theorem vx_hat {args : Array Value} {s : State} {L B : List Cond} (h1 : ∀ w ∈ L.filter goodWord, w.before args s = true) (h2 : ∀ w ∈ L.filter (fun w => !goodWord w), w ∈ B) (h3 : ∀ w ∈ B, w.before args s = true) : ∀ w ∈ L, w.before args s = true := by
  intro w hw
  by_cases g : goodWord w = true
  · exact h1 w (List.mem_filter.mpr ⟨hw, g⟩)
  · refine h3 w (h2 w (List.mem_filter.mpr ⟨hw, ?_⟩))
    show (!goodWord w) = true
    cases hgw : goodWord w
    · rfl
    · exact absurd hgw g
theorem vx_c {args : Array Value} {s : State} {w : Cond} {B : List Cond} (h : w.before args s = true) (t : ∀ w ∈ B, w.before args s = true) : ∀ w' ∈ w :: B, w'.before args s = true := fun w' h' => (List.mem_cons.mp h').elim (fun e => by rw [e]; exact h) (t w')
theorem vx_n {args : Array Value} {s : State} : ∀ w ∈ ([] : List Cond), w.before args s = true := fun _ h => nomatch h
theorem vx_own {args : Array Value} {s : State} {L : List Cond} (h1 : ∀ w ∈ L.filter vx_no, w.before args s = true)
    (hU : (Cond.isRef (.static Bundle.tN "UNASSIGNED_STACK" Bundle.steD)).before args s = true) (hN : (Cond.isRef (.static Bundle.tN "SUPPRESSED_SENTINEL" Bundle.listD)).before args s = true)
    (lU : (Cond.laysStatic Bundle.tN "UNASSIGNED_STACK" Bundle.steD).before args s = true) (lN : (Cond.laysStatic Bundle.tN "SUPPRESSED_SENTINEL" Bundle.listD).before args s = true) : ∀ w ∈ L, w.before args s = true := by
  intro w hw
  by_cases e1 : w = .isRef (.static Bundle.tN "UNASSIGNED_STACK" Bundle.steD)
  · rw [e1]; exact hU
  · by_cases e2 : w = .isRef (.static Bundle.tN "SUPPRESSED_SENTINEL" Bundle.listD)
    · rw [e2]; exact hN
    · by_cases e3 : w = .laysStatic Bundle.tN "UNASSIGNED_STACK" Bundle.steD
      · rw [e3]; exact lU
      · by_cases e4 : w = .laysStatic Bundle.tN "SUPPRESSED_SENTINEL" Bundle.listD
        · rw [e4]; exact lN
        · exact h1 w (List.mem_filter.mpr ⟨hw, by unfold vx_no; rw [decide_eq_true e1, decide_eq_true e2, decide_eq_true e3, decide_eq_true e4]; rfl⟩)
/-- where a static field lies, its class's statics cell in H -/
def vx_L (C n d : String) (A : Nat → Prop) (U : State) (H : Heap) : Prop := ∃ (c : ClassId) (k : Class) (i : Nat) (f : Field) (a : Nat) (cell : Cell), U.vm.findClass C = some c ∧ U.fieldFound? C n d = some (c, k, i, f) ∧ f.isStatic = true ∧ k.statics = some a ∧ H[a]? = some cell ∧ cell.vm.isStatics = true ∧ cell.cls = c ∧ f.slot < cell.slots.size ∧ k.staticTypes[f.slot]? = some f.type ∧ ¬ A a
theorem vx_L.moved {C n d : String} {A : Nat → Prop} {u U : State} {H : Heap} (hvm : u.vm.Alike U.vm) (h : vx_L C n d A u H) : vx_L C n d A U H := by
  obtain ⟨c, k, i, f, a, cell, h1, h2, h3, h4, h5, h6, h7, h8, h9, h10⟩ := h
  obtain ⟨k', hi', he⟩ := State.fieldFound?_setVm hvm h2
  exact ⟨c, k', i, f, a, cell, by rw [hvm.findClass]; exact h1, hi', h3, by rw [he]; exact h4, h5, h6, h7, h8, by rw [he]; exact h9, h10⟩
theorem vx_L.kept {C n d : String} {A : Nat → Prop} {U : State} {H H1 : Heap} (h : vx_L C n d A U H) (hq : ∀ a : Nat, a < H.size → ¬ A a → H1[a]? = H[a]?) : vx_L C n d A U H1 := by
  obtain ⟨c, k, i, f, a, cell, h1, h2, h3, h4, h5, h6, h7, h8, h9, h10⟩ := h
  exact ⟨c, k, i, f, a, cell, h1, h2, h3, h4, by rw [hq a (Array.getElem?_eq_some_iff.mp h5).1 h10]; exact h5, h6, h7, h8, h9, h10⟩
theorem vx_L.narrow {C n d : String} {A B : Nat → Prop} {U : State} {H : Heap} (h : vx_L C n d A U H) (hAB : ∀ q, B q → A q) : vx_L C n d B U H := by
  obtain ⟨c, k, i, f, a, cell, h1, h2, h3, h4, h5, h6, h7, h8, h9, h10⟩ := h
  exact ⟨c, k, i, f, a, cell, h1, h2, h3, h4, h5, h6, h7, h8, h9, fun z => h10 (hAB _ z)⟩
theorem vx_L.word {C n d : String} {A : Nat → Prop} {s : State} {args : Array Value} (h : vx_L C n d A s s.heap) : (Cond.laysStatic C n d).before args s = true := by
  obtain ⟨c, k, i, f, a, cell, h1, h2, h3, h4, h5, h6, h7, h8, h9, -⟩ := h
  show (Cond.laysStatic C n d).holds args s none s [] = true
  exact Cond.laysStatic_of h1 h2 h3 h4 h5 h6 h7 h8 h9
/-- .. and what it holds: null or some reference -/
def vx_Zq (C n d : String) (A : Nat → Prop) (U : State) (H : Heap) : Prop := va_Zq C n d A U H ∧ vx_L C n d A U H
theorem vx_Zq.moved {C n d : String} {A : Nat → Prop} {u U : State} {H : Heap} (hvm : u.vm.Alike U.vm) (h : vx_Zq C n d A u H) : vx_Zq C n d A U H := ⟨va_Zq.moved hvm h.1, vx_L.moved hvm h.2⟩
theorem vx_Zq.kept {C n d : String} {A : Nat → Prop} {U : State} {H H1 : Heap} (h : vx_Zq C n d A U H) (hq : ∀ a : Nat, a < H.size → ¬ A a → H1[a]? = H[a]?) : vx_Zq C n d A U H1 := ⟨va_Zq.kept h.1 hq, vx_L.kept h.2 hq⟩
theorem vx_Zq.narrow {C n d : String} {A B : Nat → Prop} {U : State} {H : Heap} (h : vx_Zq C n d A U H) (hAB : ∀ q, B q → A q) : vx_Zq C n d B U H := ⟨va_Zq.narrow h.1 hAB, vx_L.narrow h.2 hAB⟩
theorem vx_Zqof {args : Array Value} {s : State} {C n d : String} {A : Nat → Prop} (hl : (Cond.laysStatic C n d).before args s = true) (hini : (Cond.initialized C).before args s = true) (h : (Cond.isRef (.static C n d)).before args s = true) (hA : ∀ a : Nat, a < s.heap.size → ¬ A a) : vx_Zq C n d A s s.heap := by
  refine ⟨va_Zqof hl hini h hA, ?_⟩
  obtain ⟨c, k, i, f, a, cell, h1, h2, h3, h4, h5, h6, h7, h8, h9⟩ := Cond.laysStatic_spec hl
  exact ⟨c, k, i, f, a, cell, h1, h2, h3, h4, h5, h6, h7, h8, h9, hA a (Array.getElem?_eq_some_iff.mp h5).1⟩
theorem vx_isRef {C n d : String} {v : Value} {A : Nat → Prop} {s : State} {args : Array Value} (h : va_Z C n d v A s s.heap) (hv : v.isRef = true) : (Cond.isRef (.static C n d)).before args s = true := by
  obtain ⟨cf, kf, fi, f, a, cell, h1, h2, h3, h4, h5, h6, h7, -⟩ := h
  have he : (Term.static C n d).eval args s none [] s = some v := by
    simp [Term.eval, State.fieldNamed?, h1, h2, h4, h5, h6, h7]
  simp only [Cond.before, Cond.holds, Cond.value, he]
  cases v <;> simp_all [Value.isRef]
theorem vx_isRefq {C n d : String} {A : Nat → Prop} {s : State} {args : Array Value} (h : va_Zq C n d A s s.heap) : (Cond.isRef (.static C n d)).before args s = true := by
  rcases h with h | ⟨t, h⟩
  · exact vx_isRef h rfl
  · exact vx_isRef h rfl
/-- the same frame, seen from here: as if the method were called anew in this heap -/
theorem vx_rebase {T : State} (X : Stand p l e R s m args below meth c T locs cells slots) {R' : Room} (hf : R'.frames ≤ R.frames) (hl : R'.locals ≤ R.locals) (hc : cells + R'.cells ≤ R.cells) (hs : slots + R'.slots ≤ R.slots) :
    Stand p l e R' ((T.setVm s.vm).setFrames (.invoking m args :: below)) m args below meth c T [] 0 0 := by
  have htop : (T.setVm s.vm).topJava?.isSome := X.here.top
  have hF : ((T.setVm s.vm).setFrames (.invoking m args :: below)).frames = .invoking m args :: below := State.frames_setFrames _ (State.cur_lt_of_top htop)
  obtain ⟨g₀, hg0⟩ := Option.isSome_iff_exists.mp htop
  obtain ⟨r, hr⟩ := State.topJava?_eq_some.mp hg0
  have hl9 : e.platform.stackLimits (T.setVm s.vm).me = e.platform.stackLimits s.me := X.limits
  have hb9 : (T.setVm s.vm).me.stackBytes = s.me.stackBytes := X.bytes
  refine ⟨X.admits, X.cas, X.clock, hF, ?_, X.hears, X.method, X.code, X.here, X.tail, X.warmed, ?_, ?_, ?_⟩
  · have h := X.room
    have hU : ((T.setVm s.vm).setFrames (.invoking m args :: below)).localsInUse = s.localsInUse := by
      rw [State.localsInUse_invoking hF (meth := meth) (c := c) X.method X.code, State.localsInUse_invoking X.frames X.method X.code]
    simp only [State.hasRoom, Bool.and_eq_true, decide_eq_true_eq] at h ⊢
    obtain ⟨⟨⟨⟨h1, h2, h3, h4, h5, h6⟩, h7⟩, h8⟩, h9⟩ := h
    rw [X.frames, List.length_cons] at h2 h3
    have q1 := X.heapSize
    have q2 := X.used
    simp only [hF, hU, List.length_cons, State.stackLimits_setFrames, State.stackBytes_setFrames, hl9, hb9]
    refine ⟨⟨⟨⟨by omega, by omega, by omega, by omega, by omega, h6⟩, ?_⟩, ?_⟩, X.book⟩
    · show T.heap.size + R'.cells ≤ e.platform.maxCells
      omega
    · show T.slotsUsed + R'.slots ≤ e.platform.maxSlots
      omega
  · rw [State.stackLimits_setFrames]; rfl
  · rw [State.stackBytes_setFrames]; rfl
  · refine ⟨?_, Nat.le_refl _, Nat.le_refl _, ?_, ?_, fun a c9 h9 => ⟨c9, h9, rfl, rfl, fun _ _ => rfl⟩⟩
    · obtain ⟨t, ht, -⟩ := State.frames_cons hr
      show T.setVm s.vm = { ((T.setVm s.vm).setFrames (.invoking m args :: below)).setFrames (T.setVm s.vm).frames with heap := T.heap, slotsUsed := T.slotsUsed }
      rw [State.setFrames_setFrames, State.setFrames_self ht]
      rfl
    · show T.slotsUsed = T.slotsUsed + ((T.heap.toList.drop T.heap.size).map (·.slots.size)).sum
      rw [List.drop_eq_nil_of_le (Nat.le_of_eq Array.length_toList)]
      rfl
    · show ((T.heap.toList.drop T.heap.size).map (·.slots.size)).sum ≤ 0
      rw [List.drop_eq_nil_of_le (Nat.le_of_eq Array.length_toList)]
      exact Nat.le_refl _
/-- 'throw new E()': new; dup; invokespecial; athrow -/
theorem vx_throw0 {cc : ByteArray} {pc : Nat} (hexec : p.tables.exec = Jvm.exec) (hb : c.code = cc) (hl : l.stackTraces = false) {own cls : String} {names : List String} {ik ic mc ms : Nat} {A : Nat → Prop}
    (hown : s.vm.findClass own = some m.cls) (hcls : Bundle.fit cls = true) (hnames : ∀ n ∈ names, Bundle.fit n = true)
    (hk : (Cond.classLink own ik cls).before args s = true) (hini : (Cond.initialized cls).before args s = true) (hat : ∀ w ∈ vx_at0 own ic cls names, w.before args s = true)
    (hgood : ∀ w ∈ Cond.classLink own ik cls :: Cond.initialized cls :: vx_at0 own ic cls names, vx_ot w = true)
    (hU : vx_Zq Bundle.tN "UNASSIGNED_STACK" Bundle.steD A s s.heap) (hN : vx_Zq Bundle.tN "SUPPRESSED_SENTINEL" Bundle.listD A s s.heap) (hS : va_S A s.heap H locs) (hsize : ls.size = c.maxLocals)
    (d0 : decode cc pc = .ok (.new ik, 3)) (d3 : decode cc (pc + 3) = .ok (.dup, 1)) (d4 : decode cc (pc + 4) = .ok (.invokespecial ic, 3)) (d7 : decode cc (pc + 7) = .ok (.athrow, 1))
    (hout : ∀ x ∈ c.exceptionTable.toList, covers x (pc + 7) = false)
    (hRframes : names.length + 3 < R.frames) (hRlocals : (rest.map fun v => v.category).sum + (13 * (names.length + 1) + 42) ≤ R.locals) (hRcells : cells + 1 ≤ R.cells) (hRslots : slots + 6 ≤ R.slots) (hlocks : meth.locks = false)
    (hx : ∀ t : State, s.vm.Alike t.vm → H.size ≤ t.heap.size → (∀ q : Nat, q < H.size → t.heap[q]? = H[q]?) → XC cls s t)
    (hf : ∀ z ∈ locs, free z.base) (hc : cells + 1 ≤ mc) (hs : slots + 6 ≤ ms) :
    W p l e R s m args below meth c H locs cells slots (vx_MQ below Qc XC args s mc ms free) (F0 m pc ls rest) := by
  intro T hT X
  have htr : e.platform.stackTraces = false := (show e.platform.stackTraces = l.stackTraces by rw [X.admits.platform]).trans hl
  have Y := vx_rebase X (R' := { frames := R.frames, locals := R.locals, cells := 1, slots := 6 }) (Nat.le_refl _) (Nat.le_refl _) hRcells hRslots
  obtain ⟨s', hA⟩ : ∃ z, z = (T.setVm s.vm).setFrames (.invoking m args :: below) := ⟨_, rfl⟩
  rw [← hA] at Y
  have hvm : s'.vm = s.vm := by rw [hA]; rfl
  have hhp : s'.heap = H := by rw [hA]; exact hT
  have hW0 : s.WarmedH s'.vm := by rw [hvm]; exact State.WarmedH.refl s
  have hat' : ∀ w ∈ vx_at0 own ic cls names, w.before args s' = true := fun w hw => vx_ot_at hW0 hvm.symm (hgood w (List.mem_cons_of_mem _ (List.mem_cons_of_mem _ hw))) (hat w hw)
  have hk' : (Cond.classLink own ik cls).before args s' = true := vx_ot_at hW0 hvm.symm (hgood _ List.mem_cons_self) hk
  have hini' : (Cond.initialized cls).before args s' = true := vx_ot_at hW0 hvm.symm (hgood _ (List.mem_cons_of_mem _ List.mem_cons_self)) hini
  have hU' : vx_Zq Bundle.tN "UNASSIGNED_STACK" Bundle.steD A s' s'.heap := by rw [hhp]; exact vx_Zq.moved hW0.alike (hU.kept hS.2.1)
  have hN' : vx_Zq Bundle.tN "SUPPRESSED_SENTINEL" Bundle.listD A s' s'.heap := by rw [hhp]; exact vx_Zq.moved hW0.alike (hN.kept hS.2.1)
  have h : ∀ w ∈ Bundle.ownAtoms0 own ic cls names, w.before args s' = true := vx_own hat' (vx_isRefq hU'.1) (vx_isRefq hN'.1) hU'.2.word hN'.2.word
  have hown' : s'.vm.findClass own = some m.cls := by rw [hvm]; exact hown
  have hins : (Cond.instantiable cls 6).before args s' = true := h _ (by simp [Bundle.ownAtoms0])
  obtain ⟨vm₁, cX, kX, hfX, hkX, -, -, X₁, st1⟩ := Y.newCold hexec (own := own) (C := cls) (index := ik) (n := 6) hown' hk' hins hini'
    (g := F0 m pc ls rest) rfl (by rw [hb]; exact d0) (Nat.le_refl _) (Nat.le_refl _)
  generalize hT1 : (T.setVm vm₁).pushCell { cls := cX, slots := kX.instanceTypes.map defaultValue, vm := .none } = T1 at X₁ st1
  have hcat : (Value.ref T.heap.size).category = 1 := rfl
  have hcellA : T1.heap[T.heap.size]? = some (freshCell cX kX) := by rw [← hT1]; exact State.heap_pushCell_size _ _
  have d3' : decode c.code (pc + 3) = .ok (.dup, 1) := by rw [hb]; exact d3
  obtain ⟨U, hsteps, hrun, hend, hW, hsame, ce, hce, hO⟩ := X₁.ctorThrow0 hexec htr (own := own) (cls := cls) (names := names) (ic := ic) hown' hcls hnames h (fun x hx => nomatch hx) hfX hkX hcellA (by rw [hhp, hT]; exact Nat.le_refl _)
    (g := { method := m, pc := pc + 4, locals := ls, stack := .ref T.heap.size :: .ref T.heap.size :: rest, locked := none }) rfl hsize rfl rfl (rest := rest) rfl
    (by rw [hb]; exact d4) (by rw [hb]; exact d7) hout hRframes (by simp only [List.map_cons, List.sum_cons, hcat]; omega) hlocks
  obtain ⟨f1, f2⟩ := vx_frame hsame
  rw [hhp] at f1 f2
  have hWs : s.WarmedH U.vm := State.WarmedH.trans hW0 hW
  have hcl : s.vm.findClass cls = some ce.cls := by
    have h9 := hO.cls
    rw [hvm] at h9
    exact h9
  have hall : s.sameButNew ({ U with vm := s.vm } : State) locs mc ms := by
    subst hA
    obtain ⟨e1, e2⟩ := hsame
    rw [State.setFrames_setFrames] at e1
    have h2 : (T.setVm s.vm).sameButNew ({ U with vm := s.vm } : State) [] (0 + 1) (0 + 6) := ⟨e1, e2⟩
    have h3 := X.same.trans h2
    rw [List.append_nil] at h3
    exact h3.mono hc hs
  refine ⟨U, ?_, .threw T.heap.size, hrun, hend, Or.inr ⟨T.heap.size, rfl, cls, ce, locs, hx U hWs.alike f1 (fun q hq => f2 q hq (fun z hz => nomatch hz)), hce, hO.vm, hcl, hWs, hall, hf⟩⟩
  refine st1 _ ?_
  show Steps p.tables e below (T1.setTop { method := m, pc := pc + 3, locals := ls, stack := .ref T.heap.size :: rest, locked := none }) _
  jvm_step X₁.here [X₁.here.top, hexec, d3', Value.category]
  exact hsteps
/-- 'throw new E("text")': new; dup; ldc; invokespecial; athrow -/
theorem vx_throwS {cc : ByteArray} {pc : Nat} (hexec : p.tables.exec = Jvm.exec) (hb : c.code = cc) (hl : l.stackTraces = false) {own cls text : String} {names : List String} {ik is ic mc ms sa : Nat} {A : Nat → Prop}
    (hown : s.vm.findClass own = some m.cls) (hcls : Bundle.fit cls = true) (hnames : ∀ n ∈ names, Bundle.fit n = true)
    (hk : (Cond.classLink own ik cls).before args s = true) (hini : (Cond.initialized cls).before args s = true) (hstr : vk_R own is text sa s) (hat : ∀ w ∈ vx_atS own ic cls names, w.before args s = true)
    (hgood : ∀ w ∈ Cond.classLink own ik cls :: Cond.initialized cls :: vx_atS own ic cls names, vx_ot w = true)
    (hU : vx_Zq Bundle.tN "UNASSIGNED_STACK" Bundle.steD A s s.heap) (hN : vx_Zq Bundle.tN "SUPPRESSED_SENTINEL" Bundle.listD A s s.heap) (hS : va_S A s.heap H locs) (hsize : ls.size = c.maxLocals)
    (d0 : decode cc pc = .ok (.new ik, 3)) (d3 : decode cc (pc + 3) = .ok (.dup, 1)) (d4 : decode cc (pc + 4) = .ok (.ldc is, 2)) (d6 : decode cc (pc + 6) = .ok (.invokespecial ic, 3)) (d9 : decode cc (pc + 9) = .ok (.athrow, 1))
    (hout : ∀ x ∈ c.exceptionTable.toList, covers x (pc + 9) = false)
    (hRframes : names.length + 3 < R.frames) (hRlocals : (rest.map fun v => v.category).sum + (13 * (names.length + 1) + 43) ≤ R.locals) (hRcells : cells + 1 ≤ R.cells) (hRslots : slots + 6 ≤ R.slots) (hlocks : meth.locks = false)
    (hx : ∀ t : State, s.vm.Alike t.vm → H.size ≤ t.heap.size → (∀ q : Nat, q < H.size → t.heap[q]? = H[q]?) → XC cls s t)
    (hf : ∀ z ∈ locs, free z.base) (hc : cells + 1 ≤ mc) (hs : slots + 6 ≤ ms) :
    W p l e R s m args below meth c H locs cells slots (vx_MQ below Qc XC args s mc ms free) (F0 m pc ls rest) := by
  intro T hT X
  have htr : e.platform.stackTraces = false := (show e.platform.stackTraces = l.stackTraces by rw [X.admits.platform]).trans hl
  have Y := vx_rebase X (R' := { frames := R.frames, locals := R.locals, cells := 1, slots := 6 }) (Nat.le_refl _) (Nat.le_refl _) hRcells hRslots
  obtain ⟨s', hA⟩ : ∃ z, z = (T.setVm s.vm).setFrames (.invoking m args :: below) := ⟨_, rfl⟩
  rw [← hA] at Y
  have hvm : s'.vm = s.vm := by rw [hA]; rfl
  have hhp : s'.heap = H := by rw [hA]; exact hT
  have hW0 : s.WarmedH s'.vm := by rw [hvm]; exact State.WarmedH.refl s
  have hat' : ∀ w ∈ vx_atS own ic cls names, w.before args s' = true := fun w hw => vx_ot_at hW0 hvm.symm (hgood w (List.mem_cons_of_mem _ (List.mem_cons_of_mem _ hw))) (hat w hw)
  have hk' : (Cond.classLink own ik cls).before args s' = true := vx_ot_at hW0 hvm.symm (hgood _ List.mem_cons_self) hk
  have hini' : (Cond.initialized cls).before args s' = true := vx_ot_at hW0 hvm.symm (hgood _ (List.mem_cons_of_mem _ List.mem_cons_self)) hini
  have hU' : vx_Zq Bundle.tN "UNASSIGNED_STACK" Bundle.steD A s' s'.heap := by rw [hhp]; exact vx_Zq.moved hW0.alike (hU.kept hS.2.1)
  have hN' : vx_Zq Bundle.tN "SUPPRESSED_SENTINEL" Bundle.listD A s' s'.heap := by rw [hhp]; exact vx_Zq.moved hW0.alike (hN.kept hS.2.1)
  have h : ∀ w ∈ Bundle.ownAtoms own ic cls names, w.before args s' = true := vx_own hat' (vx_isRefq hU'.1) (vx_isRefq hN'.1) hU'.2.word hN'.2.word
  have hown' : s'.vm.findClass own = some m.cls := by rw [hvm]; exact hown
  have hins : (Cond.instantiable cls 6).before args s' = true := h _ (by simp [Bundle.ownAtoms])
  obtain ⟨vm₁, cX, kX, hfX, hkX, -, -, X₁, st1⟩ := Y.newCold hexec (own := own) (C := cls) (index := ik) (n := 6) hown' hk' hins hini'
    (g := F0 m pc ls rest) rfl (by rw [hb]; exact d0) (Nat.le_refl _) (Nat.le_refl _)
  generalize hT1 : (T.setVm vm₁).pushCell { cls := cX, slots := kX.instanceTypes.map defaultValue, vm := .none } = T1 at X₁ st1
  have hcat : (Value.ref T.heap.size).category = 1 := rfl
  have hcellA : T1.heap[T.heap.size]? = some (freshCell cX kX) := by rw [← hT1]; exact State.heap_pushCell_size _ _
  have d3' : decode c.code (pc + 3) = .ok (.dup, 1) := by rw [hb]; exact d3
  have d4' : decode c.code (pc + 4) = .ok (.ldc is, 2) := by rw [hb]; exact d4
  have hstr' : vk_R own is text sa s' := vk_R.warm hW0 hstr
  obtain ⟨U, hsteps, hrun, hend, hW, hsame, ce, hce, hO⟩ := X₁.ctorThrowS hexec htr (own := own) (cls := cls) (names := names) (ic := ic) hown' hcls hnames h (fun x hx => nomatch hx) hfX hkX hcellA (by rw [hhp, hT]; exact Nat.le_refl _) (msg := .ref sa) rfl
    (g := { method := m, pc := pc + 6, locals := ls, stack := .ref sa :: .ref T.heap.size :: .ref T.heap.size :: rest, locked := none }) rfl hsize rfl rfl (rest := rest) rfl
    (by rw [hb]; exact d6) (by rw [hb]; exact d9) hout hRframes (by simp only [List.map_cons, List.sum_cons, hcat]; omega) hlocks
  obtain ⟨f1, f2⟩ := vx_frame hsame
  rw [hhp] at f1 f2
  have hWs : s.WarmedH U.vm := State.WarmedH.trans hW0 hW
  have hcl : s.vm.findClass cls = some ce.cls := by
    have h9 := hO.cls
    rw [hvm] at h9
    exact h9
  have hall : s.sameButNew ({ U with vm := s.vm } : State) locs mc ms := by
    subst hA
    obtain ⟨e1, e2⟩ := hsame
    rw [State.setFrames_setFrames] at e1
    have h2 : (T.setVm s.vm).sameButNew ({ U with vm := s.vm } : State) [] (0 + 1) (0 + 6) := ⟨e1, e2⟩
    have h3 := X.same.trans h2
    rw [List.append_nil] at h3
    exact h3.mono hc hs
  refine ⟨U, ?_, .threw T.heap.size, hrun, hend, Or.inr ⟨T.heap.size, rfl, cls, ce, locs, hx U hWs.alike f1 (fun q hq => f2 q hq (fun z hz => nomatch hz)), hce, hO.vm, hcl, hWs, hall, hf⟩⟩
  refine st1 _ ?_
  show Steps p.tables e below (T1.setTop { method := m, pc := pc + 3, locals := ls, stack := .ref T.heap.size :: rest, locked := none }) _
  jvm_step X₁.here [X₁.here.top, hexec, d3', Value.category]
  exact X₁.ldcString hexec (own := own) (text := text) (index := is) (a := sa) hown' hstr'.1 hstr'.2
    (g := { method := m, pc := pc + 4, locals := ls, stack := .ref T.heap.size :: .ref T.heap.size :: rest, locked := none }) rfl d4' _ hsteps
/-- 'throw new E("text")', the text by a wide index -/
theorem vx_throwSW {cc : ByteArray} {pc : Nat} (hexec : p.tables.exec = Jvm.exec) (hb : c.code = cc) (hl : l.stackTraces = false) {own cls text : String} {names : List String} {ik is ic mc ms sa : Nat} {A : Nat → Prop}
    (hown : s.vm.findClass own = some m.cls) (hcls : Bundle.fit cls = true) (hnames : ∀ n ∈ names, Bundle.fit n = true)
    (hk : (Cond.classLink own ik cls).before args s = true) (hini : (Cond.initialized cls).before args s = true) (hstr : vk_R own is text sa s) (hat : ∀ w ∈ vx_atS own ic cls names, w.before args s = true)
    (hgood : ∀ w ∈ Cond.classLink own ik cls :: Cond.initialized cls :: vx_atS own ic cls names, vx_ot w = true)
    (hU : vx_Zq Bundle.tN "UNASSIGNED_STACK" Bundle.steD A s s.heap) (hN : vx_Zq Bundle.tN "SUPPRESSED_SENTINEL" Bundle.listD A s s.heap) (hS : va_S A s.heap H locs) (hsize : ls.size = c.maxLocals)
    (d0 : decode cc pc = .ok (.new ik, 3)) (d3 : decode cc (pc + 3) = .ok (.dup, 1)) (d4 : decode cc (pc + 4) = .ok (.ldc_w is, 3)) (d7 : decode cc (pc + 7) = .ok (.invokespecial ic, 3)) (d10 : decode cc (pc + 10) = .ok (.athrow, 1))
    (hout : ∀ x ∈ c.exceptionTable.toList, covers x (pc + 10) = false)
    (hRframes : names.length + 3 < R.frames) (hRlocals : (rest.map fun v => v.category).sum + (13 * (names.length + 1) + 43) ≤ R.locals) (hRcells : cells + 1 ≤ R.cells) (hRslots : slots + 6 ≤ R.slots) (hlocks : meth.locks = false)
    (hx : ∀ t : State, s.vm.Alike t.vm → H.size ≤ t.heap.size → (∀ q : Nat, q < H.size → t.heap[q]? = H[q]?) → XC cls s t)
    (hf : ∀ z ∈ locs, free z.base) (hc : cells + 1 ≤ mc) (hs : slots + 6 ≤ ms) :
    W p l e R s m args below meth c H locs cells slots (vx_MQ below Qc XC args s mc ms free) (F0 m pc ls rest) := by
  intro T hT X
  have htr : e.platform.stackTraces = false := (show e.platform.stackTraces = l.stackTraces by rw [X.admits.platform]).trans hl
  have Y := vx_rebase X (R' := { frames := R.frames, locals := R.locals, cells := 1, slots := 6 }) (Nat.le_refl _) (Nat.le_refl _) hRcells hRslots
  obtain ⟨s', hA⟩ : ∃ z, z = (T.setVm s.vm).setFrames (.invoking m args :: below) := ⟨_, rfl⟩
  rw [← hA] at Y
  have hvm : s'.vm = s.vm := by rw [hA]; rfl
  have hhp : s'.heap = H := by rw [hA]; exact hT
  have hW0 : s.WarmedH s'.vm := by rw [hvm]; exact State.WarmedH.refl s
  have hat' : ∀ w ∈ vx_atS own ic cls names, w.before args s' = true := fun w hw => vx_ot_at hW0 hvm.symm (hgood w (List.mem_cons_of_mem _ (List.mem_cons_of_mem _ hw))) (hat w hw)
  have hk' : (Cond.classLink own ik cls).before args s' = true := vx_ot_at hW0 hvm.symm (hgood _ List.mem_cons_self) hk
  have hini' : (Cond.initialized cls).before args s' = true := vx_ot_at hW0 hvm.symm (hgood _ (List.mem_cons_of_mem _ List.mem_cons_self)) hini
  have hU' : vx_Zq Bundle.tN "UNASSIGNED_STACK" Bundle.steD A s' s'.heap := by rw [hhp]; exact vx_Zq.moved hW0.alike (hU.kept hS.2.1)
  have hN' : vx_Zq Bundle.tN "SUPPRESSED_SENTINEL" Bundle.listD A s' s'.heap := by rw [hhp]; exact vx_Zq.moved hW0.alike (hN.kept hS.2.1)
  have h : ∀ w ∈ Bundle.ownAtoms own ic cls names, w.before args s' = true := vx_own hat' (vx_isRefq hU'.1) (vx_isRefq hN'.1) hU'.2.word hN'.2.word
  have hown' : s'.vm.findClass own = some m.cls := by rw [hvm]; exact hown
  have hins : (Cond.instantiable cls 6).before args s' = true := h _ (by simp [Bundle.ownAtoms])
  obtain ⟨vm₁, cX, kX, hfX, hkX, -, -, X₁, st1⟩ := Y.newCold hexec (own := own) (C := cls) (index := ik) (n := 6) hown' hk' hins hini'
    (g := F0 m pc ls rest) rfl (by rw [hb]; exact d0) (Nat.le_refl _) (Nat.le_refl _)
  generalize hT1 : (T.setVm vm₁).pushCell { cls := cX, slots := kX.instanceTypes.map defaultValue, vm := .none } = T1 at X₁ st1
  have hcat : (Value.ref T.heap.size).category = 1 := rfl
  have hcellA : T1.heap[T.heap.size]? = some (freshCell cX kX) := by rw [← hT1]; exact State.heap_pushCell_size _ _
  have d3' : decode c.code (pc + 3) = .ok (.dup, 1) := by rw [hb]; exact d3
  have d4' : decode c.code (pc + 4) = .ok (.ldc_w is, 3) := by rw [hb]; exact d4
  have hstr' : vk_R own is text sa s' := vk_R.warm hW0 hstr
  obtain ⟨U, hsteps, hrun, hend, hW, hsame, ce, hce, hO⟩ := X₁.ctorThrowS hexec htr (own := own) (cls := cls) (names := names) (ic := ic) hown' hcls hnames h (fun x hx => nomatch hx) hfX hkX hcellA (by rw [hhp, hT]; exact Nat.le_refl _) (msg := .ref sa) rfl
    (g := { method := m, pc := pc + 7, locals := ls, stack := .ref sa :: .ref T.heap.size :: .ref T.heap.size :: rest, locked := none }) rfl hsize rfl rfl (rest := rest) rfl
    (by rw [hb]; exact d7) (by rw [hb]; exact d10) hout hRframes (by simp only [List.map_cons, List.sum_cons, hcat]; omega) hlocks
  obtain ⟨f1, f2⟩ := vx_frame hsame
  rw [hhp] at f1 f2
  have hWs : s.WarmedH U.vm := State.WarmedH.trans hW0 hW
  have hcl : s.vm.findClass cls = some ce.cls := by
    have h9 := hO.cls
    rw [hvm] at h9
    exact h9
  have hall : s.sameButNew ({ U with vm := s.vm } : State) locs mc ms := by
    subst hA
    obtain ⟨e1, e2⟩ := hsame
    rw [State.setFrames_setFrames] at e1
    have h2 : (T.setVm s.vm).sameButNew ({ U with vm := s.vm } : State) [] (0 + 1) (0 + 6) := ⟨e1, e2⟩
    have h3 := X.same.trans h2
    rw [List.append_nil] at h3
    exact h3.mono hc hs
  refine ⟨U, ?_, .threw T.heap.size, hrun, hend, Or.inr ⟨T.heap.size, rfl, cls, ce, locs, hx U hWs.alike f1 (fun q hq => f2 q hq (fun z hz => nomatch hz)), hce, hO.vm, hcl, hWs, hall, hf⟩⟩
  refine st1 _ ?_
  show Steps p.tables e below (T1.setTop { method := m, pc := pc + 3, locals := ls, stack := .ref T.heap.size :: rest, locked := none }) _
  jvm_step X₁.here [X₁.here.top, hexec, d3', Value.category]
  exact X₁.ldcStringW hexec (own := own) (text := text) (index := is) (a := sa) hown' hstr'.1 hstr'.2
    (g := { method := m, pc := pc + 4, locals := ls, stack := .ref T.heap.size :: .ref T.heap.size :: rest, locked := none }) rfl d4' _ hsteps
end Ends
section Bodies
variable {l : Launch}
theorem vx_ofW {y : MethodName} {ws ws' : List Cond} {rm : Room} {Pc : Array Value → State → Prop} {Qc : Array Value → State → Outcome → State → Prop} {XC : String → State → State → Prop} {mc ms : Nat} {free : Addr → Prop} {cc : ByteArray} {maxL : Nat} {ret : Option FieldType}
    (hy : plainName y.cls = true) (hw : ws = Cond.code y cc maxL ret :: ws')
    (body : ∀ p e s m args below meth c s₁, BodyLoose p l y (headSpec ws rm) cc maxL ret e s m args below meth c s₁ → c.maxLocals = maxL → (∀ x ∈ c.exceptionTable.toList, False) → Pc args s →
      W p l e (headSpec ws rm).room s m args below meth c s.heap [] 0 0 (vx_MQ below Qc XC args s mc ms free) (entryFrame m args maxL)) : vx_Met l y ws rm Pc Qc XC mc ms free := by
  refine MetFree.of_bodyS (code := cc) (maxLocals := maxL) (ret := ret) hy ?_ ?_
  · intro args s m h hn
    obtain ⟨meth, c, h1, h2, h3, h4, h5, h6, -, -⟩ := Cond.code_spec hn (atoms_spec (ws := ws) h _ (by rw [hw]; exact List.mem_cons_self))
    exact ⟨meth, c, h1, h2, h3, h4, h5, h6⟩
  · intro p e s m args below meth c s₁ B hml hP _
    have hh0 : s₁.heap = s.heap := by rw [B.state]; rfl
    have ht : ∀ x ∈ c.exceptionTable.toList, False := by
      obtain ⟨meth9, c9, h1, h2, -, -, -, -, h7, -⟩ := Cond.code_spec B.named (atoms_spec (ws := ws) B.pre _ (by rw [hw]; exact List.mem_cons_self))
      cases Option.some.inj (h1.symm.trans B.method)
      cases Option.some.inj (h2.symm.trans (Stand.of_body B).code)
      intro x hx
      rw [Array.isEmpty_iff.mp h7] at hx
      cases hx
    obtain ⟨t, a1, o, b1, b2, b3⟩ := body p e s m args below meth c s₁ B hml ht hP s₁ hh0 (Stand.of_body B)
    exact ⟨t, o, a1, b1, b2, b3⟩
/-- the table of a body with handlers -/
theorem vx_table {p : Program} {x y : MethodName} {S : Spec} {cc bytes : ByteArray} {maxL maxL' : Nat} {ret ret' : Option FieldType} {e : Env} {s s₁ : State} {m : MethodId} {args : Array Value} {below : List Frame} {meth : Method} {c : Code} {hh : List (Nat × Nat × Nat × Nat)}
    (B : BodyLoose p l y S cc maxL ret e s m args below meth c s₁) (h : (Cond.codeWith y bytes maxL' ret' hh).before args s = true) : c.exceptionTable.toList = tableOf hh := by
  obtain ⟨m9, meth9, c9, hn9, h1, h2, -, -, h6, -⟩ := Cond.codeWith_spec h
  cases Option.some.inj (hn9.symm.trans B.named)
  cases Option.some.inj (h1.symm.trans B.method)
  cases Option.some.inj (h2.symm.trans (Stand.of_body B).code)
  rw [← h6, table_eq]
end Bodies
end VXA
/-! ===== END ===== -/
/-! ===== BEGIN a static call of a method with an exception table ===== -/
section VXS
variable {p : Program} {l : Launch} {e : Env} {R : Room} {s : State} {m : MethodId} {args : Array Value} {below : List Frame} {meth : Method} {c : Code} {T : State} {H : Heap} {locs : List Loc} {cells slots : Nat}
abbrev vx_CSW (R : Room) (s : State) (args : Array Value) (own : String) (index : Nat) (y : MethodName) (bytes : ByteArray) (maxL : Nat) (ret : Option FieldType) (hh : List (Nat × Nat × Nat × Nat)) (ws : List Cond) (rm : Room) (mc ms n : Nat) : Prop :=
  (rm.cells = mc ∧ rm.slots = ms ∧ rm.frames + 1 ≤ R.frames ∧ 8 + (maxL + 11) + rm.locals ≤ R.locals ∧ (∀ w ∈ ws, ∀ (a' : Array Value) (U : State), s.WarmedH U.vm → w.before a' U = true) ∧ Cond.codeWith y bytes maxL ret hh ∈ ws) ∧
  (Cond.codeWith y bytes maxL ret hh).before args s = true ∧ (Cond.initialized y.cls).before args s = true ∧ (y.cls ≠ "java/lang/invoke/MethodHandle" ∧ y.cls ≠ "java/lang/invoke/VarHandle") ∧
  (∀ sig, parseMethodDescriptor y.desc = some sig → n = sig.parameters.length) ∧ (Cond.methodLink own index y).before args s = true ∧ (Cond.static y).before args s = true
theorem vx_cwSW {own : String} {index maxL mc ms : Nat} {y : MethodName} {bytes : ByteArray} {ret : Option FieldType} {hh : List (Nat × Nat × Nat × Nat)} {Ts ws ws' : List Cond} {rm : Room} (n : Nat) (ht : ∀ w ∈ Ts, w.before args s = true) (hT : GoodIn Ts (va_wsS own index y ws)) (hw : ws = Cond.codeWith y bytes maxL ret hh :: ws') (hrc : rm.cells = mc) (hrs : rm.slots = ms)
    (hd : y.cls ≠ "java/lang/invoke/MethodHandle" ∧ y.cls ≠ "java/lang/invoke/VarHandle" ∧ (parseMethodDescriptor y.desc).map (fun d => d.parameters.length) = some n) (hR : rm.frames + 1 ≤ R.frames ∧ 8 + (maxL + 11) + rm.locals ≤ R.locals) :
    vx_CSW R s args own index y bytes maxL ret hh ws rm mc ms n := by
  have ok : ∀ w ∈ va_wsS own index y ws, w.before args s = true := fun w h => ht w (hT w h).1
  have hG : GoodIn Ts ws := fun w h => hT w (by unfold va_wsS; exact List.mem_append_right _ h)
  have hc : Cond.codeWith y bytes maxL ret hh ∈ ws := by rw [hw]; exact List.mem_cons_self
  refine ⟨⟨hrc, hrs, hR.1, hR.2, pay_in ht hG, hc⟩, ht _ (hG _ hc).1, ok _ (by simp [va_wsS]), ⟨hd.1, hd.2.1⟩, fun sig h => ?_, ok _ (by simp [va_wsS]), ok _ (by simp [va_wsS])⟩
  have h2 := hd.2.2
  rw [h] at h2
  exact (Option.some.inj h2).symm
theorem vx_callSW (X : Stand p l e R s m args below meth c T locs cells slots) (hexec : p.tables.exec = Jvm.exec) {own : String} {index : Nat} {y : MethodName} {bytes : ByteArray} {maxL : Nat} {ret : Option FieldType} {hh : List (Nat × Nat × Nat × Nat)}
    (hown : s.vm.findClass own = some m.cls) (hlink : (Cond.methodLink own index y).before args s = true) (hstat : (Cond.static y).before args s = true) (hinit : (Cond.initialized y.cls).before args s = true)
    (hcode : (Cond.codeWith y bytes maxL ret hh).before args s = true) (hy : y.cls ≠ "java/lang/invoke/MethodHandle" ∧ y.cls ≠ "java/lang/invoke/VarHandle")
    {W9 : Nat} {Pre : Pt → Array Value → Prop} {Post : Pt → Array Value → Option Value → Pt → Prop} (hK : Back l R p e below s args y 3 W9 Pre Post)
    {g : JFrame} (hg : g.method = m) (hsize : g.locals.size = c.maxLocals) {argsL rest : List Value} (hlen : ∀ sig, parseMethodDescriptor y.desc = some sig → argsL.length = sig.parameters.length)
    (hstack : g.stack = argsL.reverse ++ rest) (hW : 2 * g.monitorRoom + (rest.map fun v => v.category).sum ≤ W9) (hdg : decode c.code g.pc = .ok (.invokestatic index, 3))
    (hpre : ∀ vm₁, s.WarmedH vm₁ → Pre ⟨T.setVm vm₁, locs, cells, slots⟩ argsL.toArray) :
    ∃ (v : Option Value) (vm₁ : Vm) (B : Pt), s.WarmedH vm₁ ∧ Stand p l e R s m args below meth c B.U B.locs B.cells B.slots ∧ Post ⟨T.setVm vm₁, locs, cells, slots⟩ argsL.toArray v B ∧
      ∀ target, Steps p.tables e below (B.U.setTop { g with pc := g.pc + 3, stack := v.toList ++ rest }) target → Steps p.tables e below (T.setTop g) target := by
  obtain ⟨mk, methM, cM, hnamed, hmethM, -, -, -, -, -, -, hsigM⟩ := Cond.codeWith_spec hcode
  have hstatic : methM.isStatic = true := Cond.static_spec hnamed hmethM hstat
  obtain ⟨kP, hkP, -⟩ := className_of_methodNamed hnamed
  have hinitP : kP.init = .initialized := Cond.initialized_spec (findClass_of_methodNamed hnamed) hkP hinit
  obtain ⟨vm₁, X₁, hstep₁⟩ := X.invokestatic hexec hown hlink hnamed hmethM hstatic hkP hinitP hy (g := g) hg (argsL := argsL) (rest := rest) (hlen _ hsigM) hstack hdg
  obtain ⟨v, B, X', hpost, hsteps⟩ := hK m meth c ⟨T.setVm vm₁, locs, cells, slots⟩ { g with stack := rest } (.invokestatic index) mk argsL.toArray X₁ hg hsize hdg hW (X₁.named hnamed) (hpre vm₁ X₁.warmed)
  exact ⟨v, vm₁, B, X₁.warmed, X', hpost, fun target h => hstep₁ _ fun acts => by rw [doInvoke_state]; exact hsteps.trans h⟩
theorem vx_runSW {y : MethodName} {bytes cc : ByteArray} {maxL nL mc ms n index : Nat} {ret : Option FieldType} {hh : List (Nat × Nat × Nat × Nat)} {ws : List Cond} {rm : Room} {Pc : Array Value → State → Prop} {Qc : Array Value → State → Outcome → State → Prop} {free : Addr → Prop} {Ts : List Cond} {own : String} {As rest : List Value} {g : JFrame}
    (S : CallFix p m c cc nL s args Ts own) (hM : Met l y ws rm Pc Qc mc ms free) (cw : vx_CSW R s args own index y bytes maxL ret hh ws rm mc ms n) (hp : PreS s H Pc As)
    (hg : g.method = m) (hn : As.length = n) (hsize : g.locals.size = nL) (hstack : g.stack = As.reverse ++ rest) (hW : 2 * g.monitorRoom + (rest.map fun v => v.category).sum ≤ 8) (hdg : decode cc g.pc = .ok (.invokestatic index, 3)) (hf : cells + mc ≤ R.cells ∧ slots + ms ≤ R.slots) :
    va_Run p l e R s m args below meth c H locs cells slots mc ms g rest (Qc As.toArray) (free) := by
  obtain ⟨⟨hrc, hrs, hfr, hlo, hws, hcw⟩, hcode, hini, hy, hlen, hl, hstt⟩ := cw
  have hK : Back l R p e below s args y 3 8 (PreOf R mc ms Pc) (PostOf Qc mc ms free) := va_backW (hh := hh) (bytes := bytes) (maxL := maxL) (ret := ret) hM hp.1 hrc hrs hfr hlo hws hcw (fun a' U hW => word_at hW (Or.inl (by first | rfl | simp [Cond.onTables, Cond.keeps, Cond.steady])) hini)
  obtain ⟨hx, hb, hml, ho, -⟩ := S
  intro T hT X
  obtain ⟨v, vm₁, ⟨U', l2, c2, s2⟩, hW₁, X', ⟨g', mk, t, L, e1, e2, hq, h1, hL, h2, h3⟩, st⟩ := vx_callSW X hx (hh := hh) (bytes := bytes) (maxL := maxL) (ret := ret) ho hl hstt hini hcode hy hK hg (hsize.trans hml.symm) (argsL := As) (rest := rest) (fun sig h => hn.trans (hlen sig h)) hstack hW (by rw [hb]; exact hdg)
    (fun vm₁ hW₁ => ⟨hf.1, hf.2, hp.2 (T.setVm vm₁) hT hW₁⟩)
  dsimp only [Pt.U, Pt.locs, Pt.cells, Pt.slots] at X' e1 e2 h1 h2 h3 st
  subst h1; subst h2; subst h3
  exact ⟨v, (T.setVm vm₁).calling g' mk As.toArray, t, U', L, hT, X', hL, e1, e2, hq, st⟩
/-- a thing of a world lies in the heap -/
theorem vx_lt {D : va_G} {cl : List vw_C} {ws : va_W} {H1 : Heap} (h : va_P D cl ws H1) {k : Nat} {q : Nat × va_E} (hk : ws[k]? = some q) : q.1 < H1.size := (h k q hk).lt
end VXS
/-! ===== END ===== -/
/-! ===== BEGIN methods with a table of their own: called by a name, returning or throwing ===== -/
section VXH
/-! vx_backW, vx_callVX, vx_callSX, vx_callVW, vx_runVW, vx_runVX, vx_runSX, vx_ofWH follow the same proofs as their sisters above (Free/Laws.lean, Shelf42/LK1.lean); vx_outP calls Shelf42/NT130.lean (outThrough). -/
section
variable {l : Launch} {R : Room} {p : Program} {e : Env} {below : List Frame} {s : State} {sargs : Array Value} {y : MethodName} {len W9 : Nat}
theorem vx_backW {ws : List Cond} {rm : Room} {Pc : Array Value → State → Prop} {Qc : Array Value → State → Outcome → State → Prop} {XC : String → State → State → Prop} {mc ms : Nat} {free : Addr → Prop} {bytes : ByteArray} {maxL : Nat} {ret : Option FieldType} {hh : List (Nat × Nat × Nat × Nat)}
    (hM : vx_Met l y ws rm Pc Qc XC mc ms free) (hblind : FrameBlind Pc) (hrc : rm.cells = mc) (hrs : rm.slots = ms)
    (hframes : rm.frames + 1 ≤ R.frames) (hlocals : W9 + (maxL + 11) + rm.locals ≤ R.locals)
    (hws : ∀ w ∈ ws, ∀ a' U, s.WarmedH U.vm → w.before a' U = true) (hcode : Cond.codeWith y bytes maxL ret hh ∈ ws) (hinit : ∀ a' U, s.WarmedH U.vm → (Cond.initialized y.cls).before a' U = true) :
    vx_Back l R p e below s sargs y len W9 (PreOf R mc ms Pc) (PostOf Qc mc ms free) (vx_Post XC mc ms free) := by
  intro m meth c A g ig mk a X hg hsize hdg hW hn hp
  have h1 : (headSpec ws rm).pre.before a A.U = true := atoms_intro fun w hw => hws w hw _ _ X.warmed
  have h2 : (Cond.codeWith y bytes maxL ret hh).before a A.U = true := hws _ hcode _ _ X.warmed
  have h3 : (Cond.initialized y.cls).before a A.U = true := hinit _ _ X.warmed
  have h4 : A.cells + (headSpec ws rm).room.cells ≤ R.cells := by rw [show (headSpec ws rm).room.cells = mc from hrc]; exact hp.1
  have h5 : A.slots + (headSpec ws rm).room.slots ≤ R.slots := by rw [show (headSpec ws rm).room.slots = ms from hrs]; exact hp.2.1
  have hPc : Pc a (A.U.calling g mk a) := hblind _ _ _ _ hp.2.2
  obtain ⟨U, Ls, c0, s0⟩ := A
  dsimp only [Pt.U, Pt.locs, Pt.cells, Pt.slots] at h1 h2 h3 h4 h5 X hn hPc ⊢
  obtain ⟨m9, methY, cY, hn9, hmY, hcY, -, hlY, -⟩ := Cond.codeWith_spec h2
  cases Option.some.inj (hn9.symm.trans hn)
  obtain ⟨kY, hkY, -⟩ := className_of_methodNamed hn
  have hinitY : kY.init = .initialized := Cond.initialized_spec (findClass_of_methodNamed hn) hkY h3
  have h : At U g.method c below := by rw [hg]; exact X.here
  have hlocals9 : W9 + (maxL + 11) + (headSpec ws rm).room.locals ≤ R.locals := hlocals
  have happ : (headSpec ws rm).appliesLoose y e.platform (U.calling g mk a) = true :=
    Spec.appliesLoose_calling (g := g) h hdg hn hkY hinitY
      (X.room_calling (g := g) (R' := (headSpec ws rm).room) hsize hmY hcY hframes (by rw [hlY]; omega) h4 h5) h1
  obtain ⟨mid, hmid⟩ := h.above
  have hfr : (U.setTop g).frames = (.java g :: mid) ++ below := by rw [State.frames_setTop' g h.top, hmid]; rfl
  obtain ⟨o, s₂, hsteps, -, hend, hq⟩ := Steps.callFree hM p X.admits X.cas X.clock (acts := []) hfr happ hPc trivial
  have hq' : vx_Q Qc XC mc ms free a (U.calling g mk a) o s₂ := hq
  rw [State.frames_setTop' g h.top] at hend
  obtain ⟨g₀, hg0⟩ := Option.isSome_iff_exists.mp h.top
  obtain ⟨r, hr⟩ := State.topJava?_eq_some.mp hg0
  have hr' : (({ U with heap := s₂.heap, slotsUsed := s₂.slotsUsed } : State).setVm s₂.vm).frames = .java g₀ :: r := hr
  rcases hq' with ⟨hqc, L, hfe, hL⟩ | ⟨q, rfl, E, ce, L, hx, hce, hcv, hcl, hW₂, hsm, hL⟩
  · obtain ⟨⟨v, rfl⟩, hW₂, e2, q2, q3, q4, q5, q6⟩ := id hfe
    have e3 : s₂ = ({ (U.calling g mk a).setFrames s₂.frames with heap := s₂.heap, slotsUsed := s₂.slotsUsed } : State).setVm s₂.vm := by
      have : s₂ = ({ s₂ with vm := (U.calling g mk a).vm } : State).setVm s₂.vm := rfl
      rw [e2] at this
      exact this
    obtain ⟨c₂, i₂, len₂, hc₂, hd₂, hf₂⟩ := hend
    have hW' : U.WarmedH s₂.vm := hW₂
    have hcc : c₂ = c := by
      have h1 : s₂.code? g.method = U.code? g.method := by
        rw [State.code?_eq, State.code?_eq, hW'.alike.method?]
      exact Option.some.inj (hc₂.symm.trans (h1.trans h.code))
    subst hcc
    have hlen : len₂ = len := by rw [hdg] at hd₂; cases hd₂; rfl
    subst hlen
    have hs₂ : s₂ = (({ U with heap := s₂.heap, slotsUsed := s₂.slotsUsed } : State).setVm s₂.vm).setTop { g with pc := g.pc + len₂, stack := v.toList ++ g.stack } := by
      refine e3.trans ?_
      rw [hf₂, State.calling_eq h.top, State.setFrames_setFrames, State.setTop_of_frames _ hr', hr]
      rfl
    have hsame : U.sameButNew ({ U with heap := s₂.heap, slotsUsed := s₂.slotsUsed } : State) L mc ms := by
      refine ⟨?_, q2, q3, q4, q5, q6⟩
      obtain ⟨t, ht, -⟩ := State.frames_cons hr
      show ({ U with heap := s₂.heap, slotsUsed := s₂.slotsUsed } : State) = { U.setFrames U.frames with heap := s₂.heap, slotsUsed := s₂.slotsUsed }
      rw [State.setFrames_self ht]
    subst hg
    refine Or.inl ⟨v, ⟨(({ U with heap := s₂.heap, slotsUsed := s₂.slotsUsed } : State).setVm s₂.vm), Ls ++ L, c0 + mc, s0 + ms⟩,
      ⟨X.admits, X.cas, X.clock, X.frames, X.room, X.hears, X.method, X.code, (X.here.setHeapUsed s₂.heap s₂.slotsUsed).setVm hW'.alike, X.tail, State.WarmedH.trans X.warmed hW', X.limits, X.bytes, X.same.trans (hsame.setVm s.vm)⟩,
      ⟨g, mk, s₂, L, rfl, rfl, hqc, rfl, hL, rfl, rfl⟩, ?_⟩
    show Steps p.tables e below _ ((({ U with heap := s₂.heap, slotsUsed := s₂.slotsUsed } : State).setVm s₂.vm).setTop { g with pc := g.pc + len₂, stack := v.toList ++ g.stack })
    rw [← hs₂]
    exact hsteps
  · obtain ⟨e2, q2, q3, q4, q5, q6⟩ := id hsm
    have e3 : s₂ = ({ (U.calling g mk a).setFrames s₂.frames with heap := s₂.heap, slotsUsed := s₂.slotsUsed } : State).setVm s₂.vm := by
      have : s₂ = ({ s₂ with vm := (U.calling g mk a).vm } : State).setVm s₂.vm := rfl
      rw [e2] at this
      exact this
    have hf₂ : s₂.frames = .throwing q :: .java g :: U.frames.tail := hend
    have hW' : U.WarmedH s₂.vm := hW₂
    have hs₂ : s₂ = ((({ U with heap := s₂.heap, slotsUsed := s₂.slotsUsed } : State).setVm s₂.vm).setTop g).pushFrame (.throwing q) := by
      refine e3.trans ?_
      rw [hf₂, State.calling_eq h.top, State.setFrames_setFrames, State.pushFrame, State.frames_setTop _ hr', State.setTop_of_frames _ hr', State.setFrames_setFrames, hr]
      rfl
    have hsame : U.sameButNew ({ U with heap := s₂.heap, slotsUsed := s₂.slotsUsed } : State) L mc ms := by
      refine ⟨?_, q2, q3, q4, q5, q6⟩
      obtain ⟨t, ht, -⟩ := State.frames_cons hr
      show ({ U with heap := s₂.heap, slotsUsed := s₂.slotsUsed } : State) = { U.setFrames U.frames with heap := s₂.heap, slotsUsed := s₂.slotsUsed }
      rw [State.setFrames_self ht]
    subst hg
    refine Or.inr ⟨q, ⟨(({ U with heap := s₂.heap, slotsUsed := s₂.slotsUsed } : State).setVm s₂.vm), Ls ++ L, c0 + mc, s0 + ms⟩,
      ⟨X.admits, X.cas, X.clock, X.frames, X.room, X.hears, X.method, X.code, (X.here.setHeapUsed s₂.heap s₂.slotsUsed).setVm hW'.alike, X.tail, State.WarmedH.trans X.warmed hW', X.limits, X.bytes, X.same.trans (hsame.setVm s.vm)⟩,
      ⟨g, mk, s₂, L, E, ce, rfl, rfl, hx, hce, hcv, hcl, rfl, hL, rfl, rfl⟩, ?_⟩
    show Steps p.tables e below _ (((({ U with heap := s₂.heap, slotsUsed := s₂.slotsUsed } : State).setVm s₂.vm).setTop g).pushFrame (.throwing q))
    rw [← hs₂]
    exact hsteps
end
variable {p : Program} {l : Launch} {e : Env} {R : Room} {s : State} {m : MethodId} {args : Array Value} {below : List Frame} {meth : Method} {c : Code} {T : State} {H : Heap} {locs : List Loc} {cells slots : Nat}
theorem vx_callVX (X : Stand p l e R s m args below meth c T locs cells slots) (hexec : p.tables.exec = Jvm.exec) {own C : String} {index : Nat} {y : MethodName} {bytes : ByteArray} {maxL : Nat} {ret : Option FieldType} {hh : List (Nat × Nat × Nat × Nat)}
    (hown : s.vm.findClass own = some m.cls) (hlink : (Cond.methodLink own index y).before args s = true) (hinst : (Cond.instanceMethod y).before args s = true) (hsel : (Cond.selects C y y).before args s = true)
    (hcode : (Cond.codeWith y bytes maxL ret hh).before args s = true) (hy : y.cls ≠ "java/lang/invoke/MethodHandle" ∧ y.cls ≠ "java/lang/invoke/VarHandle")
    {W9 : Nat} {Pre : Pt → Array Value → Prop} {Post : Pt → Array Value → Option Value → Pt → Prop} {PostX : Pt → Array Value → Addr → Pt → Prop} (hK : vx_Back l R p e below s args y 3 W9 Pre Post PostX)
    {b : Addr} {cellB : Cell} (hcell : T.heap[b]? = some cellB) (hobj : cellB.vm.isStatics = false) (hcls : s.vm.findClass C = some cellB.cls)
    {g : JFrame} (hg : g.method = m) (hsize : g.locals.size = c.maxLocals) {argsL rest : List Value} (hlen : ∀ sig, parseMethodDescriptor y.desc = some sig → argsL.length = sig.parameters.length)
    (hstack : g.stack = argsL.reverse ++ .ref b :: rest) (hW : 2 * g.monitorRoom + (rest.map fun v => v.category).sum ≤ W9) (hdg : decode c.code g.pc = .ok (.invokevirtual index, 3))
    (hpre : ∀ vm₁, s.WarmedH vm₁ → Pre ⟨T.setVm vm₁, locs, cells, slots⟩ (Value.ref b :: argsL).toArray) :
    (∃ (v : Option Value) (vm₁ : Vm) (B : Pt), s.WarmedH vm₁ ∧ Stand p l e R s m args below meth c B.U B.locs B.cells B.slots ∧ Post ⟨T.setVm vm₁, locs, cells, slots⟩ (Value.ref b :: argsL).toArray v B ∧
      ∀ target, Steps p.tables e below (B.U.setTop { g with pc := g.pc + 3, stack := v.toList ++ rest }) target → Steps p.tables e below (T.setTop g) target) ∨
    (∃ (q : Addr) (vm₁ : Vm) (B : Pt), s.WarmedH vm₁ ∧ Stand p l e R s m args below meth c B.U B.locs B.cells B.slots ∧ PostX ⟨T.setVm vm₁, locs, cells, slots⟩ (Value.ref b :: argsL).toArray q B ∧
      Steps p.tables e below (T.setTop g) ((B.U.setTop { g with stack := rest }).pushFrame (.throwing q))) := by
  obtain ⟨mk, methM, hnamed, hmethM, hstM, habM⟩ := Cond.instanceMethod_spec hinst
  obtain ⟨m8, methM', cM, hn8, hmethM', -, -, -, -, -, -, hsigM⟩ := Cond.codeWith_spec hcode
  cases Option.some.inj (hn8.symm.trans hnamed)
  cases hmethM.symm.trans hmethM'
  obtain ⟨c2, r2, m2, q1, q2, q3, q4, kP, hkP, hkPi⟩ := Cond.selects_spec hsel
  cases hcls.symm.trans q1
  cases (State.methodFound?_of_named hnamed hy).symm.trans q2
  cases hnamed.symm.trans q3
  have hselP : selectMethod e.platform s.vm cellB.cls mk = .method mk := by rw [Launch.admits_selectMethod X.admits]; exact q4
  obtain ⟨vm₁, X₁, hstep₁⟩ := X.invokevirtual hexec hown hlink hnamed hmethM hstM hkP hkPi hy (a := b) (cell := cellB) hcell
    (fun z h => by rw [h] at hobj; cases hobj) hselP hmethM habM hkP hkPi (g := g) hg (argsL := argsL) (rest := rest) (hlen _ hsigM) hstack hdg
  rcases hK m meth c ⟨T.setVm vm₁, locs, cells, slots⟩ { g with stack := rest } (.invokevirtual index) mk (Value.ref b :: argsL).toArray X₁ hg hsize hdg hW (X₁.named hnamed) (hpre vm₁ X₁.warmed) with ⟨v, B, X', hpost, hsteps⟩ | ⟨q, B, X', hpost, hsteps⟩
  · exact Or.inl ⟨v, vm₁, B, X₁.warmed, X', hpost, fun target h => hstep₁ _ fun acts => by rw [doInvoke_state]; exact hsteps.trans h⟩
  · exact Or.inr ⟨q, vm₁, B, X₁.warmed, X', hpost, hstep₁ _ fun acts => by rw [doInvoke_state]; exact hsteps⟩
theorem vx_callSX (X : Stand p l e R s m args below meth c T locs cells slots) (hexec : p.tables.exec = Jvm.exec) {own : String} {index : Nat} {y : MethodName} {bytes : ByteArray} {maxL : Nat} {ret : Option FieldType} {hh : List (Nat × Nat × Nat × Nat)}
    (hown : s.vm.findClass own = some m.cls) (hlink : (Cond.methodLink own index y).before args s = true) (hstat : (Cond.static y).before args s = true) (hinit : (Cond.initialized y.cls).before args s = true)
    (hcode : (Cond.codeWith y bytes maxL ret hh).before args s = true) (hy : y.cls ≠ "java/lang/invoke/MethodHandle" ∧ y.cls ≠ "java/lang/invoke/VarHandle")
    {W9 : Nat} {Pre : Pt → Array Value → Prop} {Post : Pt → Array Value → Option Value → Pt → Prop} {PostX : Pt → Array Value → Addr → Pt → Prop} (hK : vx_Back l R p e below s args y 3 W9 Pre Post PostX)
    {g : JFrame} (hg : g.method = m) (hsize : g.locals.size = c.maxLocals) {argsL rest : List Value} (hlen : ∀ sig, parseMethodDescriptor y.desc = some sig → argsL.length = sig.parameters.length)
    (hstack : g.stack = argsL.reverse ++ rest) (hW : 2 * g.monitorRoom + (rest.map fun v => v.category).sum ≤ W9) (hdg : decode c.code g.pc = .ok (.invokestatic index, 3))
    (hpre : ∀ vm₁, s.WarmedH vm₁ → Pre ⟨T.setVm vm₁, locs, cells, slots⟩ argsL.toArray) :
    (∃ (v : Option Value) (vm₁ : Vm) (B : Pt), s.WarmedH vm₁ ∧ Stand p l e R s m args below meth c B.U B.locs B.cells B.slots ∧ Post ⟨T.setVm vm₁, locs, cells, slots⟩ argsL.toArray v B ∧
      ∀ target, Steps p.tables e below (B.U.setTop { g with pc := g.pc + 3, stack := v.toList ++ rest }) target → Steps p.tables e below (T.setTop g) target) ∨
    (∃ (q : Addr) (vm₁ : Vm) (B : Pt), s.WarmedH vm₁ ∧ Stand p l e R s m args below meth c B.U B.locs B.cells B.slots ∧ PostX ⟨T.setVm vm₁, locs, cells, slots⟩ argsL.toArray q B ∧
      Steps p.tables e below (T.setTop g) ((B.U.setTop { g with stack := rest }).pushFrame (.throwing q))) := by
  obtain ⟨mk, methM, cM, hnamed, hmethM, -, -, -, -, -, -, hsigM⟩ := Cond.codeWith_spec hcode
  have hstatic : methM.isStatic = true := Cond.static_spec hnamed hmethM hstat
  obtain ⟨kP, hkP, -⟩ := className_of_methodNamed hnamed
  have hinitP : kP.init = .initialized := Cond.initialized_spec (findClass_of_methodNamed hnamed) hkP hinit
  obtain ⟨vm₁, X₁, hstep₁⟩ := X.invokestatic hexec hown hlink hnamed hmethM hstatic hkP hinitP hy (g := g) hg (argsL := argsL) (rest := rest) (hlen _ hsigM) hstack hdg
  rcases hK m meth c ⟨T.setVm vm₁, locs, cells, slots⟩ { g with stack := rest } (.invokestatic index) mk argsL.toArray X₁ hg hsize hdg hW (X₁.named hnamed) (hpre vm₁ X₁.warmed) with ⟨v, B, X', hpost, hsteps⟩ | ⟨q, B, X', hpost, hsteps⟩
  · exact Or.inl ⟨v, vm₁, B, X₁.warmed, X', hpost, fun target h => hstep₁ _ fun acts => by rw [doInvoke_state]; exact hsteps.trans h⟩
  · exact Or.inr ⟨q, vm₁, B, X₁.warmed, X', hpost, hstep₁ _ fun acts => by rw [doInvoke_state]; exact hsteps⟩
theorem vx_callVW (X : Stand p l e R s m args below meth c T locs cells slots) (hexec : p.tables.exec = Jvm.exec) {own C : String} {index : Nat} {y : MethodName} {bytes : ByteArray} {maxL : Nat} {ret : Option FieldType} {hh : List (Nat × Nat × Nat × Nat)}
    (hown : s.vm.findClass own = some m.cls) (hlink : (Cond.methodLink own index y).before args s = true) (hinst : (Cond.instanceMethod y).before args s = true) (hsel : (Cond.selects C y y).before args s = true)
    (hcode : (Cond.codeWith y bytes maxL ret hh).before args s = true) (hy : y.cls ≠ "java/lang/invoke/MethodHandle" ∧ y.cls ≠ "java/lang/invoke/VarHandle")
    {W9 : Nat} {Pre : Pt → Array Value → Prop} {Post : Pt → Array Value → Option Value → Pt → Prop} (hK : Back l R p e below s args y 3 W9 Pre Post)
    {b : Addr} {cellB : Cell} (hcell : T.heap[b]? = some cellB) (hobj : cellB.vm.isStatics = false) (hcls : s.vm.findClass C = some cellB.cls)
    {g : JFrame} (hg : g.method = m) (hsize : g.locals.size = c.maxLocals) {argsL rest : List Value} (hlen : ∀ sig, parseMethodDescriptor y.desc = some sig → argsL.length = sig.parameters.length)
    (hstack : g.stack = argsL.reverse ++ .ref b :: rest) (hW : 2 * g.monitorRoom + (rest.map fun v => v.category).sum ≤ W9) (hdg : decode c.code g.pc = .ok (.invokevirtual index, 3))
    (hpre : ∀ vm₁, s.WarmedH vm₁ → Pre ⟨T.setVm vm₁, locs, cells, slots⟩ (Value.ref b :: argsL).toArray) :
    ∃ (v : Option Value) (vm₁ : Vm) (B : Pt), s.WarmedH vm₁ ∧ Stand p l e R s m args below meth c B.U B.locs B.cells B.slots ∧ Post ⟨T.setVm vm₁, locs, cells, slots⟩ (Value.ref b :: argsL).toArray v B ∧
      ∀ target, Steps p.tables e below (B.U.setTop { g with pc := g.pc + 3, stack := v.toList ++ rest }) target → Steps p.tables e below (T.setTop g) target := by
  obtain ⟨mk, methM, hnamed, hmethM, hstM, habM⟩ := Cond.instanceMethod_spec hinst
  obtain ⟨m8, methM', cM, hn8, hmethM', -, -, -, -, -, -, hsigM⟩ := Cond.codeWith_spec hcode
  cases Option.some.inj (hn8.symm.trans hnamed)
  cases hmethM.symm.trans hmethM'
  obtain ⟨c2, r2, m2, q1, q2, q3, q4, kP, hkP, hkPi⟩ := Cond.selects_spec hsel
  cases hcls.symm.trans q1
  cases (State.methodFound?_of_named hnamed hy).symm.trans q2
  cases hnamed.symm.trans q3
  have hselP : selectMethod e.platform s.vm cellB.cls mk = .method mk := by rw [Launch.admits_selectMethod X.admits]; exact q4
  obtain ⟨vm₁, X₁, hstep₁⟩ := X.invokevirtual hexec hown hlink hnamed hmethM hstM hkP hkPi hy (a := b) (cell := cellB) hcell
    (fun z h => by rw [h] at hobj; cases hobj) hselP hmethM habM hkP hkPi (g := g) hg (argsL := argsL) (rest := rest) (hlen _ hsigM) hstack hdg
  obtain ⟨v, B, X', hpost, hsteps⟩ := hK m meth c ⟨T.setVm vm₁, locs, cells, slots⟩ { g with stack := rest } (.invokevirtual index) mk (Value.ref b :: argsL).toArray X₁ hg hsize hdg hW (X₁.named hnamed) (hpre vm₁ X₁.warmed)
  exact ⟨v, vm₁, B, X₁.warmed, X', hpost, fun target h => hstep₁ _ fun acts => by rw [doInvoke_state]; exact hsteps.trans h⟩
abbrev vx_CVW (R : Room) (s : State) (args : Array Value) (own C : String) (index : Nat) (y : MethodName) (bytes : ByteArray) (maxL : Nat) (ret : Option FieldType) (hh : List (Nat × Nat × Nat × Nat)) (ws : List Cond) (rm : Room) (mc ms n : Nat) : Prop :=
  (rm.cells = mc ∧ rm.slots = ms ∧ rm.frames + 1 ≤ R.frames ∧ 8 + (maxL + 11) + rm.locals ≤ R.locals ∧ (∀ w ∈ ws, ∀ (a' : Array Value) (U : State), s.WarmedH U.vm → w.before a' U = true) ∧ Cond.codeWith y bytes maxL ret hh ∈ ws) ∧
  (Cond.codeWith y bytes maxL ret hh).before args s = true ∧ (Cond.initialized y.cls).before args s = true ∧ (y.cls ≠ "java/lang/invoke/MethodHandle" ∧ y.cls ≠ "java/lang/invoke/VarHandle") ∧
  (∀ sig, parseMethodDescriptor y.desc = some sig → n = sig.parameters.length) ∧ (Cond.methodLink own index y).before args s = true ∧ (Cond.instanceMethod y).before args s = true ∧ (Cond.selects C y y).before args s = true
theorem vx_cwVW {own C : String} {index maxL mc ms : Nat} {y : MethodName} {bytes : ByteArray} {ret : Option FieldType} {hh : List (Nat × Nat × Nat × Nat)} {Ts ws ws' : List Cond} {rm : Room} (n : Nat) (ht : ∀ w ∈ Ts, w.before args s = true) (hT : GoodIn Ts (wsV own index C y ws)) (hw : ws = Cond.codeWith y bytes maxL ret hh :: ws') (hrc : rm.cells = mc) (hrs : rm.slots = ms)
    (hd : y.cls = C ∧ y.cls ≠ "java/lang/invoke/MethodHandle" ∧ y.cls ≠ "java/lang/invoke/VarHandle" ∧ (parseMethodDescriptor y.desc).map (fun d => d.parameters.length) = some n) (hR : rm.frames + 1 ≤ R.frames ∧ 8 + (maxL + 11) + rm.locals ≤ R.locals) :
    vx_CVW R s args own C index y bytes maxL ret hh ws rm mc ms n := by
  obtain ⟨hC, hd⟩ := hd
  subst hC
  have ok : ∀ w ∈ wsV own index y.cls y ws, w.before args s = true := fun w h => ht w (hT w h).1
  have hG : GoodIn Ts ws := fun w h => hT w (by unfold wsV; exact List.mem_append_right _ h)
  have hc : Cond.codeWith y bytes maxL ret hh ∈ ws := by rw [hw]; exact List.mem_cons_self
  refine ⟨⟨hrc, hrs, hR.1, hR.2, pay_in ht hG, hc⟩, ht _ (hG _ hc).1, ok _ (by simp [wsV]), ⟨hd.1, hd.2.1⟩, fun sig h => ?_, ok _ (by simp [wsV]), ok _ (by simp [wsV]), ok _ (by simp [wsV])⟩
  have h2 := hd.2.2
  rw [h] at h2
  exact (Option.some.inj h2).symm
theorem vx_runVW {y : MethodName} {bytes cc : ByteArray} {maxL nL mc ms n index : Nat} {ret : Option FieldType} {hh : List (Nat × Nat × Nat × Nat)} {ws : List Cond} {rm : Room} {Pc : Array Value → State → Prop} {Qc : Array Value → State → Outcome → State → Prop} {free : Addr → Prop} {Ts : List Cond} {own C : String} {b : Addr} {As rest : List Value} {g : JFrame}
    (S : CallFix p m c cc nL s args Ts own) (hM : Met l y ws rm Pc Qc mc ms free) (cw : vx_CVW R s args own C index y bytes maxL ret hh ws rm mc ms n) (hp : PreV s H C b Pc As)
    (hg : g.method = m) (hn : As.length = n) (hsize : g.locals.size = nL) (hstack : g.stack = As.reverse ++ .ref b :: rest) (hW : 2 * g.monitorRoom + (rest.map fun v => v.category).sum ≤ 8) (hdg : decode cc g.pc = .ok (.invokevirtual index, 3)) (hf : cells + mc ≤ R.cells ∧ slots + ms ≤ R.slots) :
    va_Run p l e R s m args below meth c H locs cells slots mc ms g rest (Qc (Value.ref b :: As).toArray) free := by
  obtain ⟨⟨hrc, hrs, hfr, hlo, hws, hcw⟩, hcode, hini, hy, hlen, hl, hin, hse⟩ := cw
  have hK : Back l R p e below s args y 3 8 (PreOf R mc ms Pc) (PostOf Qc mc ms free) := va_backW (hh := hh) (bytes := bytes) (maxL := maxL) (ret := ret) hM hp.1 hrc hrs hfr hlo hws hcw (fun a' U hW => word_at hW (Or.inl (by first | rfl | simp [Cond.onTables, Cond.keeps, Cond.steady])) hini)
  obtain ⟨hx, hb, hml, ho, -⟩ := S
  obtain ⟨-, ⟨cellB, hcB, hoB, hclB⟩, hPc⟩ := hp
  intro T hT X
  obtain ⟨v, vm₁, ⟨U', l2, c2, s2⟩, hW₁, X', ⟨g', mk, t, L, e1, e2, hq, h1, hL, h2, h3⟩, st⟩ := vx_callVW X hx (C := C) (hh := hh) (bytes := bytes) (maxL := maxL) (ret := ret) ho hl hin hse hcode hy hK (by rw [hT]; exact hcB) hoB hclB hg (hsize.trans hml.symm) (argsL := As) (rest := rest) (fun sig h => hn.trans (hlen sig h)) hstack hW (by rw [hb]; exact hdg)
    (fun vm₁ hW₁ => ⟨hf.1, hf.2, hPc (T.setVm vm₁) hT hW₁⟩)
  dsimp only [Pt.U, Pt.locs, Pt.cells, Pt.slots] at X' e1 e2 h1 h2 h3 st
  subst h1; subst h2; subst h3
  exact ⟨v, (T.setVm vm₁).calling g' mk (Value.ref b :: As).toArray, t, U', L, hT, X', hL, e1, e2, hq, st⟩
section
variable {y : MethodName} {bytes cc : ByteArray} {maxL nL mc ms n index : Nat} {ret : Option FieldType} {ws : List Cond} {rm : Room} {Pc : Array Value → State → Prop} {Qc : Array Value → State → Outcome → State → Prop} {XC : String → State → State → Prop} {free : Addr → Prop} {Ts : List Cond} {own C : String} {b : Addr} {As rest : List Value} {g : JFrame}
theorem vx_runVX {hh : List (Nat × Nat × Nat × Nat)} (S : CallFix p m c cc nL s args Ts own) (hM : vx_Met l y ws rm Pc Qc XC mc ms free) (cw : vx_CVW R s args own C index y bytes maxL ret hh ws rm mc ms n) (hp : PreV s H C b Pc As)
    (hg : g.method = m) (hn : As.length = n) (hsize : g.locals.size = nL) (hstack : g.stack = As.reverse ++ .ref b :: rest) (hW : 2 * g.monitorRoom + (rest.map fun v => v.category).sum ≤ 8) (hdg : decode cc g.pc = .ok (.invokevirtual index, 3)) (hf : cells + mc ≤ R.cells ∧ slots + ms ≤ R.slots) :
    vx_Run p l e R s m args below meth c H locs cells slots mc ms g rest (Qc (Value.ref b :: As).toArray) XC free := by
  obtain ⟨⟨hrc, hrs, hfr, hlo, hws, hcw⟩, hcode, hini, hy, hlen, hl, hin, hse⟩ := cw
  have hK : vx_Back l R p e below s args y 3 8 (PreOf R mc ms Pc) (PostOf Qc mc ms free) (vx_Post XC mc ms free) := vx_backW (hh := hh) (bytes := bytes) (maxL := maxL) (ret := ret) hM hp.1 hrc hrs hfr hlo hws hcw (fun a' U hW => word_at hW (Or.inl (by first | rfl | simp [Cond.onTables, Cond.keeps, Cond.steady])) hini)
  obtain ⟨hx, hb, hml, ho, -⟩ := S
  obtain ⟨-, ⟨cellB, hcB, hoB, hclB⟩, hPc⟩ := hp
  intro T hT X
  rcases vx_callVX X hx (C := C) (hh := hh) (bytes := bytes) (maxL := maxL) (ret := ret) ho hl hin hse hcode hy hK (by rw [hT]; exact hcB) hoB hclB hg (hsize.trans hml.symm) (argsL := As) (rest := rest) (fun sig h => hn.trans (hlen sig h)) hstack hW (by rw [hb]; exact hdg)
    (fun vm₁ hW₁ => ⟨hf.1, hf.2, hPc (T.setVm vm₁) hT hW₁⟩) with ⟨v, vm₁, ⟨U', l2, c2, s2⟩, hW₁, X', ⟨g', mk, t, L, e1, e2, hq, h1, hL, h2, h3⟩, st⟩ | ⟨q, vm₁, ⟨U', l2, c2, s2⟩, hW₁, X', ⟨g', mk, t, L, E, ce, e1, e2, hq, hce, hcv, hcl, h1, hL, h2, h3⟩, st⟩
  · dsimp only [Pt.U, Pt.locs, Pt.cells, Pt.slots] at X' e1 e2 h1 h2 h3 st
    subst h1; subst h2; subst h3
    exact Or.inl ⟨v, (T.setVm vm₁).calling g' mk (Value.ref b :: As).toArray, t, U', L, hT, X', hL, e1, e2, hq, st⟩
  · dsimp only [Pt.U, Pt.locs, Pt.cells, Pt.slots] at X' e1 e2 h1 h2 h3 st hcl
    subst h1; subst h2; subst h3
    exact Or.inr ⟨q, (T.setVm vm₁).calling g' mk (Value.ref b :: As).toArray, t, U', L, E, ce, hT, X', hL, e1, e2, hq, hce, hcv, vx_cls hW₁ hcl, st⟩
theorem vx_runSX {hh : List (Nat × Nat × Nat × Nat)} (S : CallFix p m c cc nL s args Ts own) (hM : vx_Met l y ws rm Pc Qc XC mc ms free) (cw : vx_CSW R s args own index y bytes maxL ret hh ws rm mc ms n) (hp : PreS s H Pc As)
    (hg : g.method = m) (hn : As.length = n) (hsize : g.locals.size = nL) (hstack : g.stack = As.reverse ++ rest) (hW : 2 * g.monitorRoom + (rest.map fun v => v.category).sum ≤ 8) (hdg : decode cc g.pc = .ok (.invokestatic index, 3)) (hf : cells + mc ≤ R.cells ∧ slots + ms ≤ R.slots) :
    vx_Run p l e R s m args below meth c H locs cells slots mc ms g rest (Qc As.toArray) XC free := by
  obtain ⟨⟨hrc, hrs, hfr, hlo, hws, hcw⟩, hcode, hini, hy, hlen, hl, hstt⟩ := cw
  have hK : vx_Back l R p e below s args y 3 8 (PreOf R mc ms Pc) (PostOf Qc mc ms free) (vx_Post XC mc ms free) := vx_backW (hh := hh) (bytes := bytes) (maxL := maxL) (ret := ret) hM hp.1 hrc hrs hfr hlo hws hcw (fun a' U hW => word_at hW (Or.inl (by first | rfl | simp [Cond.onTables, Cond.keeps, Cond.steady])) hini)
  obtain ⟨hx, hb, hml, ho, -⟩ := S
  intro T hT X
  rcases vx_callSX X hx (hh := hh) (bytes := bytes) (maxL := maxL) (ret := ret) ho hl hstt hini hcode hy hK hg (hsize.trans hml.symm) (argsL := As) (rest := rest) (fun sig h => hn.trans (hlen sig h)) hstack hW (by rw [hb]; exact hdg)
    (fun vm₁ hW₁ => ⟨hf.1, hf.2, hp.2 (T.setVm vm₁) hT hW₁⟩) with ⟨v, vm₁, ⟨U', l2, c2, s2⟩, hW₁, X', ⟨g', mk, t, L, e1, e2, hq, h1, hL, h2, h3⟩, st⟩ | ⟨q, vm₁, ⟨U', l2, c2, s2⟩, hW₁, X', ⟨g', mk, t, L, E, ce, e1, e2, hq, hce, hcv, hcl, h1, hL, h2, h3⟩, st⟩
  · dsimp only [Pt.U, Pt.locs, Pt.cells, Pt.slots] at X' e1 e2 h1 h2 h3 st
    subst h1; subst h2; subst h3
    exact Or.inl ⟨v, (T.setVm vm₁).calling g' mk As.toArray, t, U', L, hT, X', hL, e1, e2, hq, st⟩
  · dsimp only [Pt.U, Pt.locs, Pt.cells, Pt.slots] at X' e1 e2 h1 h2 h3 st hcl
    subst h1; subst h2; subst h3
    exact Or.inr ⟨q, (T.setVm vm₁).calling g' mk As.toArray, t, U', L, E, ce, hT, X', hL, e1, e2, hq, hce, hcv, vx_cls hW₁ hcl, st⟩
end
end VXH
theorem vx_ofWH {l : Launch} {y : MethodName} {ws ws' : List Cond} {rm : Room} {Pc : Array Value → State → Prop} {Qc : Array Value → State → Outcome → State → Prop} {XC : String → State → State → Prop} {mc ms : Nat} {free : Addr → Prop} {cc : ByteArray} {maxL : Nat} {ret : Option FieldType} {hh : List (Nat × Nat × Nat × Nat)}
    (hy : plainName y.cls = true) (hw : ws = Cond.codeWith y cc maxL ret hh :: ws')
    (body : ∀ p e s m args below meth c s₁, BodyLoose p l y (headSpec ws rm) cc maxL ret e s m args below meth c s₁ → c.maxLocals = maxL → Pc args s →
      W p l e (headSpec ws rm).room s m args below meth c s.heap [] 0 0 (vx_MQ below Qc XC args s mc ms free) (entryFrame m args maxL)) : vx_Met l y ws rm Pc Qc XC mc ms free := by
  refine MetFree.of_bodyS (code := cc) (maxLocals := maxL) (ret := ret) hy ?_ ?_
  · intro args s m h hn
    obtain ⟨m9, meth, c, hn9, h1, h2, h3, h4, -, h5, h6, -⟩ := Cond.codeWith_spec (atoms_spec (ws := ws) h _ (by rw [hw]; exact List.mem_cons_self))
    cases hn.symm.trans hn9
    exact ⟨meth, c, h1, h2, h3, h4, h5, h6⟩
  · intro p e s m args below meth c s₁ B hml hP _
    have hh0 : s₁.heap = s.heap := by rw [B.state]; rfl
    obtain ⟨t, a1, o, b1, b2, b3⟩ := body p e s m args below meth c s₁ B hml hP s₁ hh0 (Stand.of_body B)
    exact ⟨t, o, a1, b1, b2, b3⟩
/-! ===== END ===== -/
end
section
def RX0 : String := "ClockPool$Frame"
def TX0 : u_T := fun k => match k with
  | 0 => ("ClockPool$Frame", "row", "[I", true)
  | 1 => ("ClockPool$Frame", "page", "I", false)
  | 2 => ("ClockPool$Frame", "pins", "I", false)
  | 3 => ("ClockPool$Frame", "dirty", "Z", false)
  | _ => ("ClockPool$Frame", "marked", "Z", false)
def tyX0 : Nat → FieldType := fun k => match k with
  | 0 => .array .int
  | 1 => .int
  | 2 => .int
  | 3 => .boolean
  | _ => .boolean
abbrev wsX00 : List Cond := u_ws RX0 TX0 5
theorem nmX0 : ∀ a, a < 5 → ∀ b, b < 5 → a ≠ b → (TX0 a).2.1 ≠ (TX0 b).2.1 := by decide +kernel
theorem tyX0_ok : ∀ k, k < 5 → parseFieldDescriptor (TX0 k).2.2.1 = some (tyX0 k) := by decide +kernel
abbrev cX0_init : ByteArray := prog_2_method_1_code
def yX0_init : MethodName := ⟨RX0, "<init>", "()V"⟩
abbrev cX0_change : ByteArray := prog_2_method_2_code
def yX0_change : MethodName := ⟨RX0, "change", "(III)V"⟩
abbrev cX0_mayBeTaken : ByteArray := prog_2_method_3_code
def yX0_mayBeTaken : MethodName := ⟨RX0, "mayBeTaken", "(I)Z"⟩
abbrev cX0_makeEmpty : ByteArray := prog_2_method_4_code
def yX0_makeEmpty : MethodName := ⟨RX0, "makeEmpty", "()V"⟩
def RX1 : String := "ClockPool$Log"
def TX1 : u_T := fun k => match k with
  | 0 => ("ClockPool$Log", "cells", "[I", true)
  | 1 => ("ClockPool$Log", "undone", "[Z", true)
  | 2 => ("ClockPool$Log", "lastUpdate", "[I", true)
  | 3 => ("ClockPool$Log", "lastOver", "[I", true)
  | 4 => ("ClockPool$Log", "openUpdates", "[I", true)
  | 5 => ("ClockPool$Log", "size", "I", false)
  | _ => ("ClockPool$Log", "flushed", "I", false)
def tyX1 : Nat → FieldType := fun k => match k with
  | 0 => .array .int
  | 1 => .array .boolean
  | 2 => .array .int
  | 3 => .array .int
  | 4 => .array .int
  | 5 => .int
  | _ => .int
abbrev wsX10 : List Cond := u_ws RX1 TX1 7
theorem nmX1 : ∀ a, a < 7 → ∀ b, b < 7 → a ≠ b → (TX1 a).2.1 ≠ (TX1 b).2.1 := by decide +kernel
theorem tyX1_ok : ∀ k, k < 7 → parseFieldDescriptor (TX1 k).2.2.1 = some (tyX1 k) := by decide +kernel
abbrev cX1_init : ByteArray := prog_3_method_1_code
def yX1_init : MethodName := ⟨RX1, "<init>", "()V"⟩
abbrev cX1_value : ByteArray := prog_3_method_2_code
def yX1_value : MethodName := ⟨RX1, "value", "(II)I"⟩
abbrev cX1_changesPage : ByteArray := prog_3_method_3_code
def yX1_changesPage : MethodName := ⟨RX1, "changesPage", "(I)Z"⟩
abbrev cX1_isOpen : ByteArray := prog_3_method_4_code
def yX1_isOpen : MethodName := ⟨RX1, "isOpen", "(I)Z"⟩
abbrev cX1_isUnended : ByteArray := prog_3_method_5_code
def yX1_isUnended : MethodName := ⟨RX1, "isUnended", "(I)Z"⟩
abbrev cX1_hasRoomFor : ByteArray := prog_3_method_6_code
def yX1_hasRoomFor : MethodName := ⟨RX1, "hasRoomFor", "(I)Z"⟩
abbrev cX1_appendUndo : ByteArray := prog_3_method_7_code
def yX1_appendUndo : MethodName := ⟨RX1, "appendUndo", "(II)I"⟩
abbrev cX1_appendLast : ByteArray := prog_3_method_8_code
def yX1_appendLast : MethodName := ⟨RX1, "appendLast", "(II)I"⟩
abbrev cX1_append : ByteArray := prog_3_method_9_code
def yX1_append : MethodName := ⟨RX1, "append", "(IIIIIII)I"⟩
abbrev cX1_follow : ByteArray := prog_3_method_10_code
def yX1_follow : MethodName := ⟨RX1, "follow", "(I)V"⟩
abbrev cX1_flushTo : ByteArray := prog_3_method_11_code
def yX1_flushTo : MethodName := ⟨RX1, "flushTo", "(I)V"⟩
abbrev cX1_dropUnflushed : ByteArray := prog_3_method_12_code
def yX1_dropUnflushed : MethodName := ⟨RX1, "dropUnflushed", "()I"⟩
def RX2 : String := "ClockPool$Pool"
def TX2 : u_T := fun k => match k with
  | 0 => ("ClockPool$Pool", "disk", "[[I", true)
  | 1 => ("ClockPool$Pool", "frames", "[LClockPool$Frame;", true)
  | 2 => ("ClockPool$Pool", "hand", "I", false)
  | 3 => ("ClockPool$Pool", "written", "I", false)
  | _ => ("ClockPool$Pool", "come", "I", false)
def tyX2 : Nat → FieldType := fun k => match k with
  | 0 => .array (.array .int)
  | 1 => .array (.object "ClockPool$Frame")
  | 2 => .int
  | 3 => .int
  | _ => .int
abbrev wsX20 : List Cond := u_ws RX2 TX2 5
theorem nmX2 : ∀ a, a < 5 → ∀ b, b < 5 → a ≠ b → (TX2 a).2.1 ≠ (TX2 b).2.1 := by decide +kernel
theorem tyX2_ok : ∀ k, k < 5 → parseFieldDescriptor (TX2 k).2.2.1 = some (tyX2 k) := by decide +kernel
abbrev cX2_init : ByteArray := prog_4_method_1_code
def yX2_init : MethodName := ⟨RX2, "<init>", "(I)V"⟩
abbrev cX2_find : ByteArray := prog_4_method_2_code
def yX2_find : MethodName := ⟨RX2, "find", "(I)I"⟩
abbrev cX2_bring : ByteArray := prog_4_method_3_code
def yX2_bring : MethodName := ⟨RX2, "bring", "(II)I"⟩
abbrev cX2_roomFor : ByteArray := prog_4_method_4_code
def yX2_roomFor : MethodName := ⟨RX2, "roomFor", "(I)I"⟩
abbrev cX2_turnHand : ByteArray := prog_4_method_5_code
def yX2_turnHand : MethodName := ⟨RX2, "turnHand", "(I)I"⟩
abbrev cX2_load : ByteArray := prog_4_method_6_code
def yX2_load : MethodName := ⟨RX2, "load", "(ILClockPool$Frame;)V"⟩
abbrev cX2_writeBack : ByteArray := prog_4_method_7_code
def yX2_writeBack : MethodName := ⟨RX2, "writeBack", "(LClockPool$Frame;)V"⟩
abbrev cX2_clear : ByteArray := prog_4_method_8_code
def yX2_clear : MethodName := ⟨RX2, "clear", "()V"⟩
def RX3 : String := "ClockPool"
def TX3 : u_T := fun k => match k with
  | 0 => ("ClockPool", "pool", "LClockPool$Pool;", true)
  | 1 => ("ClockPool", "records", "LClockPool$Log;", true)
  | 2 => ("ClockPool", "active", "[Z", true)
  | 3 => ("ClockPool", "abortBegun", "[Z", true)
  | 4 => ("ClockPool", "crashes", "I", false)
  | _ => ("ClockPool", "undoneByCrash", "I", false)
def tyX3 : Nat → FieldType := fun k => match k with
  | 0 => .object "ClockPool$Pool"
  | 1 => .object "ClockPool$Log"
  | 2 => .array .boolean
  | 3 => .array .boolean
  | 4 => .int
  | _ => .int
abbrev wsX30 : List Cond := u_ws RX3 TX3 6
theorem nmX3 : ∀ a, a < 6 → ∀ b, b < 6 → a ≠ b → (TX3 a).2.1 ≠ (TX3 b).2.1 := by decide +kernel
theorem tyX3_ok : ∀ k, k < 6 → parseFieldDescriptor (TX3 k).2.2.1 = some (tyX3 k) := by decide +kernel
abbrev cX3_init : ByteArray := prog_1_method_1_code
def yX3_init : MethodName := ⟨RX3, "<init>", "(I)V"⟩
abbrev cX3_fetch : ByteArray := prog_1_method_2_code
def yX3_fetch : MethodName := ⟨RX3, "fetch", "(I)I"⟩
abbrev cX3_release : ByteArray := prog_1_method_3_code
def yX3_release : MethodName := ⟨RX3, "release", "(I)I"⟩
abbrev cX3_get : ByteArray := prog_1_method_4_code
def yX3_get : MethodName := ⟨RX3, "get", "(II)I"⟩
abbrev cX3_begin : ByteArray := prog_1_method_5_code
def yX3_begin : MethodName := ⟨RX3, "begin", "()I"⟩
abbrev cX3_set : ByteArray := prog_1_method_6_code
def yX3_set : MethodName := ⟨RX3, "set", "(IIII)I"⟩
abbrev cX3_commit : ByteArray := prog_1_method_7_code
def yX3_commit : MethodName := ⟨RX3, "commit", "(I)I"⟩
abbrev cX3_abort : ByteArray := prog_1_method_8_code
def yX3_abort : MethodName := ⟨RX3, "abort", "(I)I"⟩
abbrev cX3_flush : ByteArray := prog_1_method_9_code
def yX3_flush : MethodName := ⟨RX3, "flush", "(I)I"⟩
abbrev cX3_clean : ByteArray := prog_1_method_10_code
def yX3_clean : MethodName := ⟨RX3, "clean", "(I)Z"⟩
abbrev cX3_crash : ByteArray := prog_1_method_11_code
def yX3_crash : MethodName := ⟨RX3, "crash", "()I"⟩
abbrev cX3_disk : ByteArray := prog_1_method_12_code
def yX3_disk : MethodName := ⟨RX3, "disk", "(II)I"⟩
abbrev cX3_frame : ByteArray := prog_1_method_13_code
def yX3_frame : MethodName := ⟨RX3, "frame", "(II)I"⟩
abbrev cX3_log : ByteArray := prog_1_method_14_code
def yX3_log : MethodName := ⟨RX3, "log", "(II)I"⟩
abbrev cX3_count : ByteArray := prog_1_method_15_code
def yX3_count : MethodName := ⟨RX3, "count", "(I)I"⟩
abbrev cX3_checkBelow : ByteArray := prog_1_method_16_code
def yX3_checkBelow : MethodName := ⟨RX3, "checkBelow", "(II)V"⟩
abbrev cX3_checkActive : ByteArray := prog_1_method_17_code
def yX3_checkActive : MethodName := ⟨RX3, "checkActive", "(I)V"⟩
abbrev cX3_checkGoesOn : ByteArray := prog_1_method_18_code
def yX3_checkGoesOn : MethodName := ⟨RX3, "checkGoesOn", "(I)V"⟩
abbrev cX3_pinnedFrame : ByteArray := prog_1_method_19_code
def yX3_pinnedFrame : MethodName := ⟨RX3, "pinnedFrame", "(I)LClockPool$Frame;"⟩
abbrev cX3_leastInactive : ByteArray := prog_1_method_20_code
def yX3_leastInactive : MethodName := ⟨RX3, "leastInactive", "()I"⟩
abbrev cX3_activeOnes : ByteArray := prog_1_method_21_code
def yX3_activeOnes : MethodName := ⟨RX3, "activeOnes", "()I"⟩
abbrev cX3_forgetActiveOnes : ByteArray := prog_1_method_22_code
def yX3_forgetActiveOnes : MethodName := ⟨RX3, "forgetActiveOnes", "()V"⟩
abbrev cX3_undoInPool : ByteArray := prog_1_method_23_code
def yX3_undoInPool : MethodName := ⟨RX3, "undoInPool", "(I)Z"⟩
abbrev cX3_redoOnDisk : ByteArray := prog_1_method_24_code
def yX3_redoOnDisk : MethodName := ⟨RX3, "redoOnDisk", "()V"⟩
abbrev cX3_undoOnDisk : ByteArray := prog_1_method_25_code
def yX3_undoOnDisk : MethodName := ⟨RX3, "undoOnDisk", "()I"⟩
abbrev cX3_putOnDisk : ByteArray := prog_1_method_26_code
def yX3_putOnDisk : MethodName := ⟨RX3, "putOnDisk", "(I)V"⟩
abbrev cX3_endUnended : ByteArray := prog_1_method_27_code
def yX3_endUnended : MethodName := ⟨RX3, "endUnended", "()V"⟩
def RX4 : String := "ClockPoolModel"
def TX4 : u_T := fun k => match k with
  | 0 => ("ClockPoolModel", "refusal", "I", false)
  | 1 => ("ClockPoolModel", "frames", "I", true)
  | 2 => ("ClockPoolModel", "disk", "[I", true)
  | 3 => ("ClockPoolModel", "diskLsn", "[I", true)
  | 4 => ("ClockPoolModel", "held", "[I", true)
  | 5 => ("ClockPoolModel", "number", "[I", true)
  | 6 => ("ClockPoolModel", "frameLsn", "[I", true)
  | 7 => ("ClockPoolModel", "pins", "[I", true)
  | 8 => ("ClockPoolModel", "isDirty", "[Z", true)
  | 9 => ("ClockPoolModel", "isMarked", "[Z", true)
  | 10 => ("ClockPoolModel", "hand", "I", false)
  | 11 => ("ClockPoolModel", "records", "I", false)
  | 12 => ("ClockPoolModel", "flushed", "I", false)
  | 13 => ("ClockPoolModel", "kind", "[I", true)
  | 14 => ("ClockPoolModel", "of", "[I", true)
  | 15 => ("ClockPoolModel", "page", "[I", true)
  | 16 => ("ClockPoolModel", "which", "[I", true)
  | 17 => ("ClockPoolModel", "was", "[I", true)
  | 18 => ("ClockPoolModel", "becomes", "[I", true)
  | 19 => ("ClockPoolModel", "undoes", "[I", true)
  | 20 => ("ClockPoolModel", "isUndone", "[Z", true)
  | 21 => ("ClockPoolModel", "isActive", "[Z", true)
  | 22 => ("ClockPoolModel", "isLeaving", "[Z", true)
  | 23 => ("ClockPoolModel", "written", "I", false)
  | 24 => ("ClockPoolModel", "come", "I", false)
  | 25 => ("ClockPoolModel", "crashes", "I", false)
  | _ => ("ClockPoolModel", "undone", "I", false)
def tyX4 : Nat → FieldType := fun k => match k with
  | 0 => .int
  | 1 => .int
  | 2 => .array .int
  | 3 => .array .int
  | 4 => .array .int
  | 5 => .array .int
  | 6 => .array .int
  | 7 => .array .int
  | 8 => .array .boolean
  | 9 => .array .boolean
  | 10 => .int
  | 11 => .int
  | 12 => .int
  | 13 => .array .int
  | 14 => .array .int
  | 15 => .array .int
  | 16 => .array .int
  | 17 => .array .int
  | 18 => .array .int
  | 19 => .array .int
  | 20 => .array .boolean
  | 21 => .array .boolean
  | 22 => .array .boolean
  | 23 => .int
  | 24 => .int
  | 25 => .int
  | _ => .int
abbrev wsX40 : List Cond := u_ws RX4 TX4 27
theorem nmX4 : ∀ a, a < 27 → ∀ b, b < 27 → a ≠ b → (TX4 a).2.1 ≠ (TX4 b).2.1 := by decide +kernel
theorem tyX4_ok : ∀ k, k < 27 → parseFieldDescriptor (TX4 k).2.2.1 = some (tyX4 k) := by decide +kernel
abbrev cX4_init : ByteArray := prog_6_method_1_code
def yX4_init : MethodName := ⟨RX4, "<init>", "(I)V"⟩
abbrev cX4_thrown : ByteArray := prog_6_method_2_code
def yX4_thrown : MethodName := ⟨RX4, "thrown", "()I"⟩
abbrev cX4_refused : ByteArray := prog_6_method_3_code
def yX4_refused : MethodName := ⟨RX4, "refused", "(I)Z"⟩
abbrev cX4_isIn : ByteArray := prog_6_method_4_code
def yX4_isIn : MethodName := ⟨RX4, "isIn", "(III)Z"⟩
abbrev cX4_frameOf : ByteArray := prog_6_method_5_code
def yX4_frameOf : MethodName := ⟨RX4, "frameOf", "(I)I"⟩
abbrev cX4_mayGo : ByteArray := prog_6_method_6_code
def yX4_mayGo : MethodName := ⟨RX4, "mayGo", "(I)Z"⟩
abbrev cX4_write : ByteArray := prog_6_method_7_code
def yX4_write : MethodName := ⟨RX4, "write", "(I)V"⟩
abbrev cX4_room : ByteArray := prog_6_method_8_code
def yX4_room : MethodName := ⟨RX4, "room", "()I"⟩
abbrev cX4_bring : ByteArray := prog_6_method_9_code
def yX4_bring : MethodName := ⟨RX4, "bring", "(I)I"⟩
abbrev cX4_fetch : ByteArray := prog_6_method_10_code
def yX4_fetch : MethodName := ⟨RX4, "fetch", "(I)I"⟩
abbrev cX4_isPinned : ByteArray := prog_6_method_11_code
def yX4_isPinned : MethodName := ⟨RX4, "isPinned", "(I)Z"⟩
abbrev cX4_release : ByteArray := prog_6_method_12_code
def yX4_release : MethodName := ⟨RX4, "release", "(I)I"⟩
abbrev cX4_get : ByteArray := prog_6_method_13_code
def yX4_get : MethodName := ⟨RX4, "get", "(II)I"⟩
abbrev cX4_record : ByteArray := prog_6_method_14_code
def yX4_record : MethodName := ⟨RX4, "record", "(II)I"⟩
abbrev cX4_lastOf : ByteArray := prog_6_method_15_code
def yX4_lastOf : MethodName := ⟨RX4, "lastOf", "(I)I"⟩
abbrev cX4_undosOf : ByteArray := prog_6_method_16_code
def yX4_undosOf : MethodName := ⟨RX4, "undosOf", "(I)I"⟩
abbrev cX4_needed : ByteArray := prog_6_method_17_code
def yX4_needed : MethodName := ⟨RX4, "needed", "()I"⟩
abbrev cX4_begin : ByteArray := prog_6_method_18_code
def yX4_begin : MethodName := ⟨RX4, "begin", "()I"⟩
abbrev cX4_set : ByteArray := prog_6_method_19_code
def yX4_set : MethodName := ⟨RX4, "set", "(IIII)I"⟩
abbrev cX4_commit : ByteArray := prog_6_method_20_code
def yX4_commit : MethodName := ⟨RX4, "commit", "(I)I"⟩
abbrev cX4_tellUndo : ByteArray := prog_6_method_21_code
def yX4_tellUndo : MethodName := ⟨RX4, "tellUndo", "(II)I"⟩
abbrev cX4_abort : ByteArray := prog_6_method_22_code
def yX4_abort : MethodName := ⟨RX4, "abort", "(I)I"⟩
abbrev cX4_flush : ByteArray := prog_6_method_23_code
def yX4_flush : MethodName := ⟨RX4, "flush", "(I)I"⟩
abbrev cX4_clean : ByteArray := prog_6_method_24_code
def yX4_clean : MethodName := ⟨RX4, "clean", "(I)Z"⟩
abbrev cX4_loseRecords : ByteArray := prog_6_method_25_code
def yX4_loseRecords : MethodName := ⟨RX4, "loseRecords", "()V"⟩
abbrev cX4_redo : ByteArray := prog_6_method_26_code
def yX4_redo : MethodName := ⟨RX4, "redo", "()V"⟩
abbrev cX4_isOpen : ByteArray := prog_6_method_27_code
def yX4_isOpen : MethodName := ⟨RX4, "isOpen", "(I)Z"⟩
abbrev cX4_crash : ByteArray := prog_6_method_28_code
def yX4_crash : MethodName := ⟨RX4, "crash", "()I"⟩
abbrev cX4_isLatest : ByteArray := prog_6_method_29_code
def yX4_isLatest : MethodName := ⟨RX4, "isLatest", "(I)Z"⟩
abbrev cX4_disk : ByteArray := prog_6_method_30_code
def yX4_disk : MethodName := ⟨RX4, "disk", "(II)I"⟩
abbrev cX4_frame : ByteArray := prog_6_method_31_code
def yX4_frame : MethodName := ⟨RX4, "frame", "(II)I"⟩
abbrev cX4_log : ByteArray := prog_6_method_32_code
def yX4_log : MethodName := ⟨RX4, "log", "(II)I"⟩
abbrev cX4_count : ByteArray := prog_6_method_33_code
def yX4_count : MethodName := ⟨RX4, "count", "(I)I"⟩
def RJ9 : String := "java/lang/Math"
def TJ9 : u_T := fun k => match k with
  | _ => ("", "", "", false)
def tyJ9 : Nat → FieldType := fun k => match k with
  | _ => .int
abbrev wsJ90 : List Cond := u_ws RJ9 TJ9 0
theorem nmJ9 : ∀ a, a < 0 → ∀ b, b < 0 → a ≠ b → (TJ9 a).2.1 ≠ (TJ9 b).2.1 := by decide +kernel
theorem tyJ9_ok : ∀ k, k < 0 → parseFieldDescriptor (TJ9 k).2.2.1 = some (tyJ9 k) := by decide +kernel
abbrev cJ9_max_7cf53 : ByteArray := prog_10_method_65_code
def yJ9_max_7cf53 : MethodName := ⟨RJ9, "max", "(II)I"⟩
abbrev cJ9_min_7cf53 : ByteArray := prog_10_method_69_code
def yJ9_min_7cf53 : MethodName := ⟨RJ9, "min", "(II)I"⟩
def RJ10 : String := "java/lang/System"
def TJ10 : u_T := fun k => match k with
  | _ => ("", "", "", false)
def tyJ10 : Nat → FieldType := fun k => match k with
  | _ => .int
abbrev wsJ100 : List Cond := u_ws RJ10 TJ10 0
theorem nmJ10 : ∀ a, a < 0 → ∀ b, b < 0 → a ≠ b → (TJ10 a).2.1 ≠ (TJ10 b).2.1 := by decide +kernel
theorem tyJ10_ok : ∀ k, k < 0 → parseFieldDescriptor (TJ10 k).2.2.1 = some (tyJ10 k) := by decide +kernel
def RJ7 : String := "java/util/Arrays"
def TJ7 : u_T := fun k => match k with
  | _ => ("", "", "", false)
def tyJ7 : Nat → FieldType := fun k => match k with
  | _ => .int
abbrev wsJ70 : List Cond := u_ws RJ7 TJ7 0
theorem nmJ7 : ∀ a, a < 0 → ∀ b, b < 0 → a ≠ b → (TJ7 a).2.1 ≠ (TJ7 b).2.1 := by decide +kernel
theorem tyJ7_ok : ∀ k, k < 0 → parseFieldDescriptor (TJ7 k).2.2.1 = some (tyJ7 k) := by decide +kernel
abbrev cJ7_fill_53178 : ByteArray := prog_14_method_103_code
def yJ7_fill_53178 : MethodName := ⟨RJ7, "fill", "([II)V"⟩
def RL : String := "ClockPoolLaw"
abbrev cL_cell : ByteArray := method_2_code
def yL_cell : MethodName := ⟨RL, "cell", "([II)I"⟩
abbrev cL_fetch : ByteArray := method_3_code
def yL_fetch : MethodName := ⟨RL, "fetch", "(LClockPool;I[J)I"⟩
abbrev cL_release : ByteArray := method_4_code
def yL_release : MethodName := ⟨RL, "release", "(LClockPool;I[J)I"⟩
abbrev cL_get : ByteArray := method_5_code
def yL_get : MethodName := ⟨RL, "get", "(LClockPool;II[J)I"⟩
abbrev cL_set : ByteArray := method_6_code
def yL_set : MethodName := ⟨RL, "set", "(LClockPool;IIII[J)I"⟩
abbrev cL_commit : ByteArray := method_7_code
def yL_commit : MethodName := ⟨RL, "commit", "(LClockPool;I[J)I"⟩
abbrev cL_abort : ByteArray := method_8_code
def yL_abort : MethodName := ⟨RL, "abort", "(LClockPool;I[J)I"⟩
abbrev cL_flush : ByteArray := method_9_code
def yL_flush : MethodName := ⟨RL, "flush", "(LClockPool;I[J)I"⟩
abbrev cL_clean : ByteArray := method_10_code
def yL_clean : MethodName := ⟨RL, "clean", "(LClockPool;I[J)I"⟩
abbrev cL_disk : ByteArray := method_11_code
def yL_disk : MethodName := ⟨RL, "disk", "(LClockPool;II[J)I"⟩
abbrev cL_frame : ByteArray := method_12_code
def yL_frame : MethodName := ⟨RL, "frame", "(LClockPool;II[J)I"⟩
abbrev cL_log : ByteArray := method_13_code
def yL_log : MethodName := ⟨RL, "log", "(LClockPool;II[J)I"⟩
abbrev cL_count : ByteArray := method_14_code
def yL_count : MethodName := ⟨RL, "count", "(LClockPool;I[J)I"⟩
abbrev cL_law : ByteArray := code
def yL_law : MethodName := ⟨RL, "law", "([I)Z"⟩
abbrev vwCl : List vw_C := [(RX0, TX0, 5), (RX1, TX1, 7), (RX2, TX2, 5), (RX3, TX3, 6), (RX4, TX4, 27)]
end
section
theorem dX0_init_0 : decode cX0_init 0 = .ok (.aload_n 0, 1) := by decide +kernel
theorem dX0_init_1 : decode cX0_init 1 = .ok (.invokespecial 3, 3) := by decide +kernel
theorem dX0_init_4 : decode cX0_init 4 = .ok (.aload_n 0, 1) := by decide +kernel
theorem dX0_init_5 : decode cX0_init 5 = .ok (.bipush 9, 2) := by decide +kernel
theorem dX0_init_7 : decode cX0_init 7 = .ok (.newarray .int, 2) := by decide +kernel
theorem dX0_init_9 : decode cX0_init 9 = .ok (.putfield 9, 3) := by decide +kernel
theorem dX0_init_12 : decode cX0_init 12 = .ok (.aload_n 0, 1) := by decide +kernel
theorem dX0_init_13 : decode cX0_init 13 = .ok (.iconst (-1), 1) := by decide +kernel
theorem dX0_init_14 : decode cX0_init 14 = .ok (.putfield 15, 3) := by decide +kernel
theorem dX0_init_17 : decode cX0_init 17 = .ok (.return_, 1) := by decide +kernel
theorem dX0_change_0 : decode cX0_change 0 = .ok (.aload_n 0, 1) := by decide +kernel
theorem dX0_change_1 : decode cX0_change 1 = .ok (.getfield 9, 3) := by decide +kernel
theorem dX0_change_4 : decode cX0_change 4 = .ok (.iload_n 1, 1) := by decide +kernel
theorem dX0_change_5 : decode cX0_change 5 = .ok (.iload_n 2, 1) := by decide +kernel
theorem dX0_change_6 : decode cX0_change 6 = .ok (.iastore, 1) := by decide +kernel
theorem dX0_change_7 : decode cX0_change 7 = .ok (.aload_n 0, 1) := by decide +kernel
theorem dX0_change_8 : decode cX0_change 8 = .ok (.getfield 9, 3) := by decide +kernel
theorem dX0_change_11 : decode cX0_change 11 = .ok (.bipush 8, 2) := by decide +kernel
theorem dX0_change_13 : decode cX0_change 13 = .ok (.iload_n 3, 1) := by decide +kernel
theorem dX0_change_14 : decode cX0_change 14 = .ok (.iastore, 1) := by decide +kernel
theorem dX0_change_15 : decode cX0_change 15 = .ok (.aload_n 0, 1) := by decide +kernel
theorem dX0_change_16 : decode cX0_change 16 = .ok (.iconst 1, 1) := by decide +kernel
theorem dX0_change_17 : decode cX0_change 17 = .ok (.putfield 19, 3) := by decide +kernel
theorem dX0_change_20 : decode cX0_change 20 = .ok (.return_, 1) := by decide +kernel
theorem dX0_mayBeTaken_0 : decode cX0_mayBeTaken 0 = .ok (.aload_n 0, 1) := by decide +kernel
theorem dX0_mayBeTaken_1 : decode cX0_mayBeTaken 1 = .ok (.getfield 23, 3) := by decide +kernel
theorem dX0_mayBeTaken_4 : decode cX0_mayBeTaken 4 = .ok (.ifCond .ne 25, 3) := by decide +kernel
theorem dX0_mayBeTaken_7 : decode cX0_mayBeTaken 7 = .ok (.aload_n 0, 1) := by decide +kernel
theorem dX0_mayBeTaken_8 : decode cX0_mayBeTaken 8 = .ok (.getfield 19, 3) := by decide +kernel
theorem dX0_mayBeTaken_11 : decode cX0_mayBeTaken 11 = .ok (.ifCond .eq 14, 3) := by decide +kernel
theorem dX0_mayBeTaken_14 : decode cX0_mayBeTaken 14 = .ok (.aload_n 0, 1) := by decide +kernel
theorem dX0_mayBeTaken_15 : decode cX0_mayBeTaken 15 = .ok (.getfield 9, 3) := by decide +kernel
theorem dX0_mayBeTaken_18 : decode cX0_mayBeTaken 18 = .ok (.bipush 8, 2) := by decide +kernel
theorem dX0_mayBeTaken_20 : decode cX0_mayBeTaken 20 = .ok (.iaload, 1) := by decide +kernel
theorem dX0_mayBeTaken_21 : decode cX0_mayBeTaken 21 = .ok (.iload_n 1, 1) := by decide +kernel
theorem dX0_mayBeTaken_22 : decode cX0_mayBeTaken 22 = .ok (.if_icmp .gt 7, 3) := by decide +kernel
theorem dX0_mayBeTaken_25 : decode cX0_mayBeTaken 25 = .ok (.iconst 1, 1) := by decide +kernel
theorem dX0_mayBeTaken_26 : decode cX0_mayBeTaken 26 = .ok (.goto 4, 3) := by decide +kernel
theorem dX0_mayBeTaken_29 : decode cX0_mayBeTaken 29 = .ok (.iconst 0, 1) := by decide +kernel
theorem dX0_mayBeTaken_30 : decode cX0_mayBeTaken 30 = .ok (.ireturn, 1) := by decide +kernel
theorem dX0_makeEmpty_0 : decode cX0_makeEmpty 0 = .ok (.aload_n 0, 1) := by decide +kernel
theorem dX0_makeEmpty_1 : decode cX0_makeEmpty 1 = .ok (.getfield 9, 3) := by decide +kernel
theorem dX0_makeEmpty_4 : decode cX0_makeEmpty 4 = .ok (.iconst 0, 1) := by decide +kernel
theorem dX0_makeEmpty_5 : decode cX0_makeEmpty 5 = .ok (.invokestatic 26, 3) := by decide +kernel
theorem dX0_makeEmpty_8 : decode cX0_makeEmpty 8 = .ok (.aload_n 0, 1) := by decide +kernel
theorem dX0_makeEmpty_9 : decode cX0_makeEmpty 9 = .ok (.iconst (-1), 1) := by decide +kernel
theorem dX0_makeEmpty_10 : decode cX0_makeEmpty 10 = .ok (.putfield 15, 3) := by decide +kernel
theorem dX0_makeEmpty_13 : decode cX0_makeEmpty 13 = .ok (.aload_n 0, 1) := by decide +kernel
theorem dX0_makeEmpty_14 : decode cX0_makeEmpty 14 = .ok (.iconst 0, 1) := by decide +kernel
theorem dX0_makeEmpty_15 : decode cX0_makeEmpty 15 = .ok (.putfield 23, 3) := by decide +kernel
theorem dX0_makeEmpty_18 : decode cX0_makeEmpty 18 = .ok (.aload_n 0, 1) := by decide +kernel
theorem dX0_makeEmpty_19 : decode cX0_makeEmpty 19 = .ok (.iconst 0, 1) := by decide +kernel
theorem dX0_makeEmpty_20 : decode cX0_makeEmpty 20 = .ok (.putfield 19, 3) := by decide +kernel
theorem dX0_makeEmpty_23 : decode cX0_makeEmpty 23 = .ok (.aload_n 0, 1) := by decide +kernel
theorem dX0_makeEmpty_24 : decode cX0_makeEmpty 24 = .ok (.iconst 0, 1) := by decide +kernel
theorem dX0_makeEmpty_25 : decode cX0_makeEmpty 25 = .ok (.putfield 32, 3) := by decide +kernel
theorem dX0_makeEmpty_28 : decode cX0_makeEmpty 28 = .ok (.return_, 1) := by decide +kernel
theorem dX1_init_0 : decode cX1_init 0 = .ok (.aload_n 0, 1) := by decide +kernel
theorem dX1_init_1 : decode cX1_init 1 = .ok (.invokespecial 3, 3) := by decide +kernel
theorem dX1_init_4 : decode cX1_init 4 = .ok (.aload_n 0, 1) := by decide +kernel
theorem dX1_init_5 : decode cX1_init 5 = .ok (.sipush 2807, 3) := by decide +kernel
theorem dX1_init_8 : decode cX1_init 8 = .ok (.newarray .int, 2) := by decide +kernel
theorem dX1_init_10 : decode cX1_init 10 = .ok (.putfield 9, 3) := by decide +kernel
theorem dX1_init_13 : decode cX1_init 13 = .ok (.aload_n 0, 1) := by decide +kernel
theorem dX1_init_14 : decode cX1_init 14 = .ok (.sipush 401, 3) := by decide +kernel
theorem dX1_init_17 : decode cX1_init 17 = .ok (.newarray .boolean, 2) := by decide +kernel
theorem dX1_init_19 : decode cX1_init 19 = .ok (.putfield 15, 3) := by decide +kernel
theorem dX1_init_22 : decode cX1_init 22 = .ok (.aload_n 0, 1) := by decide +kernel
theorem dX1_init_23 : decode cX1_init 23 = .ok (.bipush 8, 2) := by decide +kernel
theorem dX1_init_25 : decode cX1_init 25 = .ok (.newarray .int, 2) := by decide +kernel
theorem dX1_init_27 : decode cX1_init 27 = .ok (.putfield 19, 3) := by decide +kernel
theorem dX1_init_30 : decode cX1_init 30 = .ok (.aload_n 0, 1) := by decide +kernel
theorem dX1_init_31 : decode cX1_init 31 = .ok (.bipush 8, 2) := by decide +kernel
theorem dX1_init_33 : decode cX1_init 33 = .ok (.newarray .int, 2) := by decide +kernel
theorem dX1_init_35 : decode cX1_init 35 = .ok (.putfield 22, 3) := by decide +kernel
theorem dX1_init_38 : decode cX1_init 38 = .ok (.aload_n 0, 1) := by decide +kernel
theorem dX1_init_39 : decode cX1_init 39 = .ok (.bipush 8, 2) := by decide +kernel
theorem dX1_init_41 : decode cX1_init 41 = .ok (.newarray .int, 2) := by decide +kernel
theorem dX1_init_43 : decode cX1_init 43 = .ok (.putfield 25, 3) := by decide +kernel
theorem dX1_init_46 : decode cX1_init 46 = .ok (.return_, 1) := by decide +kernel
theorem dX1_value_0 : decode cX1_value 0 = .ok (.aload_n 0, 1) := by decide +kernel
theorem dX1_value_1 : decode cX1_value 1 = .ok (.getfield 9, 3) := by decide +kernel
theorem dX1_value_4 : decode cX1_value 4 = .ok (.iload_n 1, 1) := by decide +kernel
theorem dX1_value_5 : decode cX1_value 5 = .ok (.bipush 7, 2) := by decide +kernel
theorem dX1_value_7 : decode cX1_value 7 = .ok (.imul, 1) := by decide +kernel
theorem dX1_value_8 : decode cX1_value 8 = .ok (.iload_n 2, 1) := by decide +kernel
theorem dX1_value_9 : decode cX1_value 9 = .ok (.iadd, 1) := by decide +kernel
theorem dX1_value_10 : decode cX1_value 10 = .ok (.iaload, 1) := by decide +kernel
theorem dX1_value_11 : decode cX1_value 11 = .ok (.ireturn, 1) := by decide +kernel
theorem dX1_changesPage_0 : decode cX1_changesPage 0 = .ok (.aload_n 0, 1) := by decide +kernel
theorem dX1_changesPage_1 : decode cX1_changesPage 1 = .ok (.iload_n 1, 1) := by decide +kernel
theorem dX1_changesPage_2 : decode cX1_changesPage 2 = .ok (.iconst 0, 1) := by decide +kernel
theorem dX1_changesPage_3 : decode cX1_changesPage 3 = .ok (.invokevirtual 28, 3) := by decide +kernel
theorem dX1_changesPage_6 : decode cX1_changesPage 6 = .ok (.istore_n 2, 1) := by decide +kernel
theorem dX1_changesPage_7 : decode cX1_changesPage 7 = .ok (.iload_n 2, 1) := by decide +kernel
theorem dX1_changesPage_8 : decode cX1_changesPage 8 = .ok (.ifCond .eq 8, 3) := by decide +kernel
theorem dX1_changesPage_11 : decode cX1_changesPage 11 = .ok (.iload_n 2, 1) := by decide +kernel
theorem dX1_changesPage_12 : decode cX1_changesPage 12 = .ok (.iconst 1, 1) := by decide +kernel
theorem dX1_changesPage_13 : decode cX1_changesPage 13 = .ok (.if_icmp .ne 7, 3) := by decide +kernel
theorem dX1_changesPage_16 : decode cX1_changesPage 16 = .ok (.iconst 1, 1) := by decide +kernel
theorem dX1_changesPage_17 : decode cX1_changesPage 17 = .ok (.goto 4, 3) := by decide +kernel
theorem dX1_changesPage_20 : decode cX1_changesPage 20 = .ok (.iconst 0, 1) := by decide +kernel
theorem dX1_changesPage_21 : decode cX1_changesPage 21 = .ok (.ireturn, 1) := by decide +kernel
theorem dX1_isOpen_0 : decode cX1_isOpen 0 = .ok (.aload_n 0, 1) := by decide +kernel
theorem dX1_isOpen_1 : decode cX1_isOpen 1 = .ok (.iload_n 1, 1) := by decide +kernel
theorem dX1_isOpen_2 : decode cX1_isOpen 2 = .ok (.iconst 0, 1) := by decide +kernel
theorem dX1_isOpen_3 : decode cX1_isOpen 3 = .ok (.invokevirtual 28, 3) := by decide +kernel
theorem dX1_isOpen_6 : decode cX1_isOpen 6 = .ok (.ifCond .ne 31, 3) := by decide +kernel
theorem dX1_isOpen_9 : decode cX1_isOpen 9 = .ok (.aload_n 0, 1) := by decide +kernel
theorem dX1_isOpen_10 : decode cX1_isOpen 10 = .ok (.getfield 15, 3) := by decide +kernel
theorem dX1_isOpen_13 : decode cX1_isOpen 13 = .ok (.iload_n 1, 1) := by decide +kernel
theorem dX1_isOpen_14 : decode cX1_isOpen 14 = .ok (.baload, 1) := by decide +kernel
theorem dX1_isOpen_15 : decode cX1_isOpen 15 = .ok (.ifCond .ne 22, 3) := by decide +kernel
theorem dX1_isOpen_18 : decode cX1_isOpen 18 = .ok (.iload_n 1, 1) := by decide +kernel
theorem dX1_isOpen_19 : decode cX1_isOpen 19 = .ok (.aload_n 0, 1) := by decide +kernel
theorem dX1_isOpen_20 : decode cX1_isOpen 20 = .ok (.getfield 22, 3) := by decide +kernel
theorem dX1_isOpen_23 : decode cX1_isOpen 23 = .ok (.aload_n 0, 1) := by decide +kernel
theorem dX1_isOpen_24 : decode cX1_isOpen 24 = .ok (.iload_n 1, 1) := by decide +kernel
theorem dX1_isOpen_25 : decode cX1_isOpen 25 = .ok (.iconst 1, 1) := by decide +kernel
theorem dX1_isOpen_26 : decode cX1_isOpen 26 = .ok (.invokevirtual 28, 3) := by decide +kernel
theorem dX1_isOpen_29 : decode cX1_isOpen 29 = .ok (.iaload, 1) := by decide +kernel
theorem dX1_isOpen_30 : decode cX1_isOpen 30 = .ok (.if_icmp .le 7, 3) := by decide +kernel
theorem dX1_isOpen_33 : decode cX1_isOpen 33 = .ok (.iconst 1, 1) := by decide +kernel
theorem dX1_isOpen_34 : decode cX1_isOpen 34 = .ok (.goto 4, 3) := by decide +kernel
theorem dX1_isOpen_37 : decode cX1_isOpen 37 = .ok (.iconst 0, 1) := by decide +kernel
theorem dX1_isOpen_38 : decode cX1_isOpen 38 = .ok (.ireturn, 1) := by decide +kernel
theorem dX1_isUnended_0 : decode cX1_isUnended 0 = .ok (.aload_n 0, 1) := by decide +kernel
theorem dX1_isUnended_1 : decode cX1_isUnended 1 = .ok (.getfield 19, 3) := by decide +kernel
theorem dX1_isUnended_4 : decode cX1_isUnended 4 = .ok (.iload_n 1, 1) := by decide +kernel
theorem dX1_isUnended_5 : decode cX1_isUnended 5 = .ok (.iaload, 1) := by decide +kernel
theorem dX1_isUnended_6 : decode cX1_isUnended 6 = .ok (.aload_n 0, 1) := by decide +kernel
theorem dX1_isUnended_7 : decode cX1_isUnended 7 = .ok (.getfield 22, 3) := by decide +kernel
theorem dX1_isUnended_10 : decode cX1_isUnended 10 = .ok (.iload_n 1, 1) := by decide +kernel
theorem dX1_isUnended_11 : decode cX1_isUnended 11 = .ok (.iaload, 1) := by decide +kernel
theorem dX1_isUnended_12 : decode cX1_isUnended 12 = .ok (.if_icmp .le 7, 3) := by decide +kernel
theorem dX1_isUnended_15 : decode cX1_isUnended 15 = .ok (.iconst 1, 1) := by decide +kernel
theorem dX1_isUnended_16 : decode cX1_isUnended 16 = .ok (.goto 4, 3) := by decide +kernel
theorem dX1_isUnended_19 : decode cX1_isUnended 19 = .ok (.iconst 0, 1) := by decide +kernel
theorem dX1_isUnended_20 : decode cX1_isUnended 20 = .ok (.ireturn, 1) := by decide +kernel
theorem dX1_hasRoomFor_0 : decode cX1_hasRoomFor 0 = .ok (.aload_n 0, 1) := by decide +kernel
theorem dX1_hasRoomFor_1 : decode cX1_hasRoomFor 1 = .ok (.getfield 32, 3) := by decide +kernel
theorem dX1_hasRoomFor_4 : decode cX1_hasRoomFor 4 = .ok (.iload_n 1, 1) := by decide +kernel
theorem dX1_hasRoomFor_5 : decode cX1_hasRoomFor 5 = .ok (.iadd, 1) := by decide +kernel
theorem dX1_hasRoomFor_6 : decode cX1_hasRoomFor 6 = .ok (.istore_n 2, 1) := by decide +kernel
theorem dX1_hasRoomFor_7 : decode cX1_hasRoomFor 7 = .ok (.iconst 0, 1) := by decide +kernel
theorem dX1_hasRoomFor_8 : decode cX1_hasRoomFor 8 = .ok (.istore_n 3, 1) := by decide +kernel
theorem dX1_hasRoomFor_9 : decode cX1_hasRoomFor 9 = .ok (.iload_n 3, 1) := by decide +kernel
theorem dX1_hasRoomFor_10 : decode cX1_hasRoomFor 10 = .ok (.bipush 8, 2) := by decide +kernel
theorem dX1_hasRoomFor_12 : decode cX1_hasRoomFor 12 = .ok (.if_icmp .ge 18, 3) := by decide +kernel
theorem dX1_hasRoomFor_15 : decode cX1_hasRoomFor 15 = .ok (.iload_n 2, 1) := by decide +kernel
theorem dX1_hasRoomFor_16 : decode cX1_hasRoomFor 16 = .ok (.aload_n 0, 1) := by decide +kernel
theorem dX1_hasRoomFor_17 : decode cX1_hasRoomFor 17 = .ok (.getfield 25, 3) := by decide +kernel
theorem dX1_hasRoomFor_20 : decode cX1_hasRoomFor 20 = .ok (.iload_n 3, 1) := by decide +kernel
theorem dX1_hasRoomFor_21 : decode cX1_hasRoomFor 21 = .ok (.iaload, 1) := by decide +kernel
theorem dX1_hasRoomFor_22 : decode cX1_hasRoomFor 22 = .ok (.iadd, 1) := by decide +kernel
theorem dX1_hasRoomFor_23 : decode cX1_hasRoomFor 23 = .ok (.istore_n 2, 1) := by decide +kernel
theorem dX1_hasRoomFor_24 : decode cX1_hasRoomFor 24 = .ok (.iinc 3 1, 3) := by decide +kernel
theorem dX1_hasRoomFor_27 : decode cX1_hasRoomFor 27 = .ok (.goto (-18), 3) := by decide +kernel
theorem dX1_hasRoomFor_30 : decode cX1_hasRoomFor 30 = .ok (.iload_n 2, 1) := by decide +kernel
theorem dX1_hasRoomFor_31 : decode cX1_hasRoomFor 31 = .ok (.sipush 400, 3) := by decide +kernel
theorem dX1_hasRoomFor_34 : decode cX1_hasRoomFor 34 = .ok (.if_icmp .gt 7, 3) := by decide +kernel
theorem dX1_hasRoomFor_37 : decode cX1_hasRoomFor 37 = .ok (.iconst 1, 1) := by decide +kernel
theorem dX1_hasRoomFor_38 : decode cX1_hasRoomFor 38 = .ok (.goto 4, 3) := by decide +kernel
theorem dX1_hasRoomFor_41 : decode cX1_hasRoomFor 41 = .ok (.iconst 0, 1) := by decide +kernel
theorem dX1_hasRoomFor_42 : decode cX1_hasRoomFor 42 = .ok (.ireturn, 1) := by decide +kernel
theorem dX1_appendUndo_0 : decode cX1_appendUndo 0 = .ok (.aload_n 0, 1) := by decide +kernel
theorem dX1_appendUndo_1 : decode cX1_appendUndo 1 = .ok (.iconst 1, 1) := by decide +kernel
theorem dX1_appendUndo_2 : decode cX1_appendUndo 2 = .ok (.aload_n 0, 1) := by decide +kernel
theorem dX1_appendUndo_3 : decode cX1_appendUndo 3 = .ok (.iload_n 1, 1) := by decide +kernel
theorem dX1_appendUndo_4 : decode cX1_appendUndo 4 = .ok (.iconst 1, 1) := by decide +kernel
theorem dX1_appendUndo_5 : decode cX1_appendUndo 5 = .ok (.invokevirtual 28, 3) := by decide +kernel
theorem dX1_appendUndo_8 : decode cX1_appendUndo 8 = .ok (.aload_n 0, 1) := by decide +kernel
theorem dX1_appendUndo_9 : decode cX1_appendUndo 9 = .ok (.iload_n 1, 1) := by decide +kernel
theorem dX1_appendUndo_10 : decode cX1_appendUndo 10 = .ok (.iconst 2, 1) := by decide +kernel
theorem dX1_appendUndo_11 : decode cX1_appendUndo 11 = .ok (.invokevirtual 28, 3) := by decide +kernel
theorem dX1_appendUndo_14 : decode cX1_appendUndo 14 = .ok (.aload_n 0, 1) := by decide +kernel
theorem dX1_appendUndo_15 : decode cX1_appendUndo 15 = .ok (.iload_n 1, 1) := by decide +kernel
theorem dX1_appendUndo_16 : decode cX1_appendUndo 16 = .ok (.iconst 3, 1) := by decide +kernel
theorem dX1_appendUndo_17 : decode cX1_appendUndo 17 = .ok (.invokevirtual 28, 3) := by decide +kernel
theorem dX1_appendUndo_20 : decode cX1_appendUndo 20 = .ok (.iload_n 2, 1) := by decide +kernel
theorem dX1_appendUndo_21 : decode cX1_appendUndo 21 = .ok (.aload_n 0, 1) := by decide +kernel
theorem dX1_appendUndo_22 : decode cX1_appendUndo 22 = .ok (.iload_n 1, 1) := by decide +kernel
theorem dX1_appendUndo_23 : decode cX1_appendUndo 23 = .ok (.iconst 4, 1) := by decide +kernel
theorem dX1_appendUndo_24 : decode cX1_appendUndo 24 = .ok (.invokevirtual 28, 3) := by decide +kernel
theorem dX1_appendUndo_27 : decode cX1_appendUndo 27 = .ok (.iload_n 1, 1) := by decide +kernel
theorem dX1_appendUndo_28 : decode cX1_appendUndo 28 = .ok (.invokevirtual 36, 3) := by decide +kernel
theorem dX1_appendUndo_31 : decode cX1_appendUndo 31 = .ok (.ireturn, 1) := by decide +kernel
theorem dX1_appendLast_0 : decode cX1_appendLast 0 = .ok (.aload_n 0, 1) := by decide +kernel
theorem dX1_appendLast_1 : decode cX1_appendLast 1 = .ok (.iload_n 1, 1) := by decide +kernel
theorem dX1_appendLast_2 : decode cX1_appendLast 2 = .ok (.iload_n 2, 1) := by decide +kernel
theorem dX1_appendLast_3 : decode cX1_appendLast 3 = .ok (.iconst (-1), 1) := by decide +kernel
theorem dX1_appendLast_4 : decode cX1_appendLast 4 = .ok (.iconst (-1), 1) := by decide +kernel
theorem dX1_appendLast_5 : decode cX1_appendLast 5 = .ok (.iconst (-1), 1) := by decide +kernel
theorem dX1_appendLast_6 : decode cX1_appendLast 6 = .ok (.iconst (-1), 1) := by decide +kernel
theorem dX1_appendLast_7 : decode cX1_appendLast 7 = .ok (.iconst (-1), 1) := by decide +kernel
theorem dX1_appendLast_8 : decode cX1_appendLast 8 = .ok (.invokevirtual 36, 3) := by decide +kernel
theorem dX1_appendLast_11 : decode cX1_appendLast 11 = .ok (.ireturn, 1) := by decide +kernel
theorem dX1_append_0 : decode cX1_append 0 = .ok (.aload_n 0, 1) := by decide +kernel
theorem dX1_append_1 : decode cX1_append 1 = .ok (.getfield 32, 3) := by decide +kernel
theorem dX1_append_4 : decode cX1_append 4 = .ok (.sipush 400, 3) := by decide +kernel
theorem dX1_append_7 : decode cX1_append 7 = .ok (.if_icmp .lt 8, 3) := by decide +kernel
theorem dX1_append_10 : decode cX1_append 10 = .ok (.aload_n 0, 1) := by decide +kernel
theorem dX1_append_11 : decode cX1_append 11 = .ok (.getfield 32, 3) := by decide +kernel
theorem dX1_append_14 : decode cX1_append 14 = .ok (.ireturn, 1) := by decide +kernel
theorem dX1_append_15 : decode cX1_append 15 = .ok (.aload_n 0, 1) := by decide +kernel
theorem dX1_append_16 : decode cX1_append 16 = .ok (.dup, 1) := by decide +kernel
theorem dX1_append_17 : decode cX1_append 17 = .ok (.getfield 32, 3) := by decide +kernel
theorem dX1_append_20 : decode cX1_append 20 = .ok (.iconst 1, 1) := by decide +kernel
theorem dX1_append_21 : decode cX1_append 21 = .ok (.iadd, 1) := by decide +kernel
theorem dX1_append_22 : decode cX1_append 22 = .ok (.putfield 32, 3) := by decide +kernel
theorem dX1_append_25 : decode cX1_append 25 = .ok (.aload_n 0, 1) := by decide +kernel
theorem dX1_append_26 : decode cX1_append 26 = .ok (.getfield 32, 3) := by decide +kernel
theorem dX1_append_29 : decode cX1_append 29 = .ok (.bipush 7, 2) := by decide +kernel
theorem dX1_append_31 : decode cX1_append 31 = .ok (.imul, 1) := by decide +kernel
theorem dX1_append_32 : decode cX1_append 32 = .ok (.istore 8, 2) := by decide +kernel
theorem dX1_append_34 : decode cX1_append 34 = .ok (.aload_n 0, 1) := by decide +kernel
theorem dX1_append_35 : decode cX1_append 35 = .ok (.getfield 9, 3) := by decide +kernel
theorem dX1_append_38 : decode cX1_append 38 = .ok (.iload 8, 2) := by decide +kernel
theorem dX1_append_40 : decode cX1_append 40 = .ok (.iconst 0, 1) := by decide +kernel
theorem dX1_append_41 : decode cX1_append 41 = .ok (.iadd, 1) := by decide +kernel
theorem dX1_append_42 : decode cX1_append 42 = .ok (.iload_n 1, 1) := by decide +kernel
theorem dX1_append_43 : decode cX1_append 43 = .ok (.iastore, 1) := by decide +kernel
theorem dX1_append_44 : decode cX1_append 44 = .ok (.aload_n 0, 1) := by decide +kernel
theorem dX1_append_45 : decode cX1_append 45 = .ok (.getfield 9, 3) := by decide +kernel
theorem dX1_append_48 : decode cX1_append 48 = .ok (.iload 8, 2) := by decide +kernel
theorem dX1_append_50 : decode cX1_append 50 = .ok (.iconst 1, 1) := by decide +kernel
theorem dX1_append_51 : decode cX1_append 51 = .ok (.iadd, 1) := by decide +kernel
theorem dX1_append_52 : decode cX1_append 52 = .ok (.iload_n 2, 1) := by decide +kernel
theorem dX1_append_53 : decode cX1_append 53 = .ok (.iastore, 1) := by decide +kernel
theorem dX1_append_54 : decode cX1_append 54 = .ok (.aload_n 0, 1) := by decide +kernel
theorem dX1_append_55 : decode cX1_append 55 = .ok (.getfield 9, 3) := by decide +kernel
theorem dX1_append_58 : decode cX1_append 58 = .ok (.iload 8, 2) := by decide +kernel
theorem dX1_append_60 : decode cX1_append 60 = .ok (.iconst 2, 1) := by decide +kernel
theorem dX1_append_61 : decode cX1_append 61 = .ok (.iadd, 1) := by decide +kernel
theorem dX1_append_62 : decode cX1_append 62 = .ok (.iload_n 3, 1) := by decide +kernel
theorem dX1_append_63 : decode cX1_append 63 = .ok (.iastore, 1) := by decide +kernel
theorem dX1_append_64 : decode cX1_append 64 = .ok (.aload_n 0, 1) := by decide +kernel
theorem dX1_append_65 : decode cX1_append 65 = .ok (.getfield 9, 3) := by decide +kernel
theorem dX1_append_68 : decode cX1_append 68 = .ok (.iload 8, 2) := by decide +kernel
theorem dX1_append_70 : decode cX1_append 70 = .ok (.iconst 3, 1) := by decide +kernel
theorem dX1_append_71 : decode cX1_append 71 = .ok (.iadd, 1) := by decide +kernel
theorem dX1_append_72 : decode cX1_append 72 = .ok (.iload 4, 2) := by decide +kernel
theorem dX1_append_74 : decode cX1_append 74 = .ok (.iastore, 1) := by decide +kernel
theorem dX1_append_75 : decode cX1_append 75 = .ok (.aload_n 0, 1) := by decide +kernel
theorem dX1_append_76 : decode cX1_append 76 = .ok (.getfield 9, 3) := by decide +kernel
theorem dX1_append_79 : decode cX1_append 79 = .ok (.iload 8, 2) := by decide +kernel
theorem dX1_append_81 : decode cX1_append 81 = .ok (.iconst 4, 1) := by decide +kernel
theorem dX1_append_82 : decode cX1_append 82 = .ok (.iadd, 1) := by decide +kernel
theorem dX1_append_83 : decode cX1_append 83 = .ok (.iload 5, 2) := by decide +kernel
theorem dX1_append_85 : decode cX1_append 85 = .ok (.iastore, 1) := by decide +kernel
theorem dX1_append_86 : decode cX1_append 86 = .ok (.aload_n 0, 1) := by decide +kernel
theorem dX1_append_87 : decode cX1_append 87 = .ok (.getfield 9, 3) := by decide +kernel
theorem dX1_append_90 : decode cX1_append 90 = .ok (.iload 8, 2) := by decide +kernel
theorem dX1_append_92 : decode cX1_append 92 = .ok (.iconst 5, 1) := by decide +kernel
theorem dX1_append_93 : decode cX1_append 93 = .ok (.iadd, 1) := by decide +kernel
theorem dX1_append_94 : decode cX1_append 94 = .ok (.iload 6, 2) := by decide +kernel
theorem dX1_append_96 : decode cX1_append 96 = .ok (.iastore, 1) := by decide +kernel
theorem dX1_append_97 : decode cX1_append 97 = .ok (.aload_n 0, 1) := by decide +kernel
theorem dX1_append_98 : decode cX1_append 98 = .ok (.getfield 9, 3) := by decide +kernel
theorem dX1_append_101 : decode cX1_append 101 = .ok (.iload 8, 2) := by decide +kernel
theorem dX1_append_103 : decode cX1_append 103 = .ok (.bipush 6, 2) := by decide +kernel
theorem dX1_append_105 : decode cX1_append 105 = .ok (.iadd, 1) := by decide +kernel
theorem dX1_append_106 : decode cX1_append 106 = .ok (.iload 7, 2) := by decide +kernel
theorem dX1_append_108 : decode cX1_append 108 = .ok (.iastore, 1) := by decide +kernel
theorem dX1_append_109 : decode cX1_append 109 = .ok (.aload_n 0, 1) := by decide +kernel
theorem dX1_append_110 : decode cX1_append 110 = .ok (.aload_n 0, 1) := by decide +kernel
theorem dX1_append_111 : decode cX1_append 111 = .ok (.getfield 32, 3) := by decide +kernel
theorem dX1_append_114 : decode cX1_append 114 = .ok (.invokevirtual 40, 3) := by decide +kernel
theorem dX1_append_117 : decode cX1_append 117 = .ok (.aload_n 0, 1) := by decide +kernel
theorem dX1_append_118 : decode cX1_append 118 = .ok (.getfield 32, 3) := by decide +kernel
theorem dX1_append_121 : decode cX1_append 121 = .ok (.ireturn, 1) := by decide +kernel
theorem dX1_follow_0 : decode cX1_follow 0 = .ok (.aload_n 0, 1) := by decide +kernel
theorem dX1_follow_1 : decode cX1_follow 1 = .ok (.iload_n 1, 1) := by decide +kernel
theorem dX1_follow_2 : decode cX1_follow 2 = .ok (.iconst 1, 1) := by decide +kernel
theorem dX1_follow_3 : decode cX1_follow 3 = .ok (.invokevirtual 28, 3) := by decide +kernel
theorem dX1_follow_6 : decode cX1_follow 6 = .ok (.istore_n 2, 1) := by decide +kernel
theorem dX1_follow_7 : decode cX1_follow 7 = .ok (.aload_n 0, 1) := by decide +kernel
theorem dX1_follow_8 : decode cX1_follow 8 = .ok (.iload_n 1, 1) := by decide +kernel
theorem dX1_follow_9 : decode cX1_follow 9 = .ok (.iconst 0, 1) := by decide +kernel
theorem dX1_follow_10 : decode cX1_follow 10 = .ok (.invokevirtual 28, 3) := by decide +kernel
theorem dX1_follow_13 : decode cX1_follow 13 = .ok (.istore_n 3, 1) := by decide +kernel
theorem dX1_follow_14 : decode cX1_follow 14 = .ok (.aload_n 0, 1) := by decide +kernel
theorem dX1_follow_15 : decode cX1_follow 15 = .ok (.getfield 15, 3) := by decide +kernel
theorem dX1_follow_18 : decode cX1_follow 18 = .ok (.iload_n 1, 1) := by decide +kernel
theorem dX1_follow_19 : decode cX1_follow 19 = .ok (.iconst 0, 1) := by decide +kernel
theorem dX1_follow_20 : decode cX1_follow 20 = .ok (.bastore, 1) := by decide +kernel
theorem dX1_follow_21 : decode cX1_follow 21 = .ok (.iload_n 3, 1) := by decide +kernel
theorem dX1_follow_22 : decode cX1_follow 22 = .ok (.ifCond .ne 23, 3) := by decide +kernel
theorem dX1_follow_25 : decode cX1_follow 25 = .ok (.aload_n 0, 1) := by decide +kernel
theorem dX1_follow_26 : decode cX1_follow 26 = .ok (.getfield 19, 3) := by decide +kernel
theorem dX1_follow_29 : decode cX1_follow 29 = .ok (.iload_n 2, 1) := by decide +kernel
theorem dX1_follow_30 : decode cX1_follow 30 = .ok (.iload_n 1, 1) := by decide +kernel
theorem dX1_follow_31 : decode cX1_follow 31 = .ok (.iastore, 1) := by decide +kernel
theorem dX1_follow_32 : decode cX1_follow 32 = .ok (.aload_n 0, 1) := by decide +kernel
theorem dX1_follow_33 : decode cX1_follow 33 = .ok (.getfield 25, 3) := by decide +kernel
theorem dX1_follow_36 : decode cX1_follow 36 = .ok (.iload_n 2, 1) := by decide +kernel
theorem dX1_follow_37 : decode cX1_follow 37 = .ok (.dup2, 1) := by decide +kernel
theorem dX1_follow_38 : decode cX1_follow 38 = .ok (.iaload, 1) := by decide +kernel
theorem dX1_follow_39 : decode cX1_follow 39 = .ok (.iconst 1, 1) := by decide +kernel
theorem dX1_follow_40 : decode cX1_follow 40 = .ok (.iadd, 1) := by decide +kernel
theorem dX1_follow_41 : decode cX1_follow 41 = .ok (.iastore, 1) := by decide +kernel
theorem dX1_follow_42 : decode cX1_follow 42 = .ok (.goto 48, 3) := by decide +kernel
theorem dX1_follow_45 : decode cX1_follow 45 = .ok (.iload_n 3, 1) := by decide +kernel
theorem dX1_follow_46 : decode cX1_follow 46 = .ok (.iconst 1, 1) := by decide +kernel
theorem dX1_follow_47 : decode cX1_follow 47 = .ok (.if_icmp .ne 29, 3) := by decide +kernel
theorem dX1_follow_50 : decode cX1_follow 50 = .ok (.aload_n 0, 1) := by decide +kernel
theorem dX1_follow_51 : decode cX1_follow 51 = .ok (.getfield 15, 3) := by decide +kernel
theorem dX1_follow_54 : decode cX1_follow 54 = .ok (.aload_n 0, 1) := by decide +kernel
theorem dX1_follow_55 : decode cX1_follow 55 = .ok (.iload_n 1, 1) := by decide +kernel
theorem dX1_follow_56 : decode cX1_follow 56 = .ok (.bipush 6, 2) := by decide +kernel
theorem dX1_follow_58 : decode cX1_follow 58 = .ok (.invokevirtual 28, 3) := by decide +kernel
theorem dX1_follow_61 : decode cX1_follow 61 = .ok (.iconst 1, 1) := by decide +kernel
theorem dX1_follow_62 : decode cX1_follow 62 = .ok (.bastore, 1) := by decide +kernel
theorem dX1_follow_63 : decode cX1_follow 63 = .ok (.aload_n 0, 1) := by decide +kernel
theorem dX1_follow_64 : decode cX1_follow 64 = .ok (.getfield 25, 3) := by decide +kernel
theorem dX1_follow_67 : decode cX1_follow 67 = .ok (.iload_n 2, 1) := by decide +kernel
theorem dX1_follow_68 : decode cX1_follow 68 = .ok (.dup2, 1) := by decide +kernel
theorem dX1_follow_69 : decode cX1_follow 69 = .ok (.iaload, 1) := by decide +kernel
theorem dX1_follow_70 : decode cX1_follow 70 = .ok (.iconst 1, 1) := by decide +kernel
theorem dX1_follow_71 : decode cX1_follow 71 = .ok (.isub, 1) := by decide +kernel
theorem dX1_follow_72 : decode cX1_follow 72 = .ok (.iastore, 1) := by decide +kernel
theorem dX1_follow_73 : decode cX1_follow 73 = .ok (.goto 17, 3) := by decide +kernel
theorem dX1_follow_76 : decode cX1_follow 76 = .ok (.aload_n 0, 1) := by decide +kernel
theorem dX1_follow_77 : decode cX1_follow 77 = .ok (.getfield 22, 3) := by decide +kernel
theorem dX1_follow_80 : decode cX1_follow 80 = .ok (.iload_n 2, 1) := by decide +kernel
theorem dX1_follow_81 : decode cX1_follow 81 = .ok (.iload_n 1, 1) := by decide +kernel
theorem dX1_follow_82 : decode cX1_follow 82 = .ok (.iastore, 1) := by decide +kernel
theorem dX1_follow_83 : decode cX1_follow 83 = .ok (.aload_n 0, 1) := by decide +kernel
theorem dX1_follow_84 : decode cX1_follow 84 = .ok (.getfield 25, 3) := by decide +kernel
theorem dX1_follow_87 : decode cX1_follow 87 = .ok (.iload_n 2, 1) := by decide +kernel
theorem dX1_follow_88 : decode cX1_follow 88 = .ok (.iconst 0, 1) := by decide +kernel
theorem dX1_follow_89 : decode cX1_follow 89 = .ok (.iastore, 1) := by decide +kernel
theorem dX1_follow_90 : decode cX1_follow 90 = .ok (.return_, 1) := by decide +kernel
theorem dX1_flushTo_0 : decode cX1_flushTo 0 = .ok (.aload_n 0, 1) := by decide +kernel
theorem dX1_flushTo_1 : decode cX1_flushTo 1 = .ok (.aload_n 0, 1) := by decide +kernel
theorem dX1_flushTo_2 : decode cX1_flushTo 2 = .ok (.getfield 44, 3) := by decide +kernel
theorem dX1_flushTo_5 : decode cX1_flushTo 5 = .ok (.iload_n 1, 1) := by decide +kernel
theorem dX1_flushTo_6 : decode cX1_flushTo 6 = .ok (.aload_n 0, 1) := by decide +kernel
theorem dX1_flushTo_7 : decode cX1_flushTo 7 = .ok (.getfield 32, 3) := by decide +kernel
theorem dX1_flushTo_10 : decode cX1_flushTo 10 = .ok (.invokestatic 47, 3) := by decide +kernel
theorem dX1_flushTo_13 : decode cX1_flushTo 13 = .ok (.invokestatic 52, 3) := by decide +kernel
theorem dX1_flushTo_16 : decode cX1_flushTo 16 = .ok (.putfield 44, 3) := by decide +kernel
theorem dX1_flushTo_19 : decode cX1_flushTo 19 = .ok (.return_, 1) := by decide +kernel
theorem dX1_dropUnflushed_0 : decode cX1_dropUnflushed 0 = .ok (.aload_n 0, 1) := by decide +kernel
theorem dX1_dropUnflushed_1 : decode cX1_dropUnflushed 1 = .ok (.getfield 32, 3) := by decide +kernel
theorem dX1_dropUnflushed_4 : decode cX1_dropUnflushed 4 = .ok (.aload_n 0, 1) := by decide +kernel
theorem dX1_dropUnflushed_5 : decode cX1_dropUnflushed 5 = .ok (.getfield 44, 3) := by decide +kernel
theorem dX1_dropUnflushed_8 : decode cX1_dropUnflushed 8 = .ok (.isub, 1) := by decide +kernel
theorem dX1_dropUnflushed_9 : decode cX1_dropUnflushed 9 = .ok (.istore_n 1, 1) := by decide +kernel
theorem dX1_dropUnflushed_10 : decode cX1_dropUnflushed 10 = .ok (.aload_n 0, 1) := by decide +kernel
theorem dX1_dropUnflushed_11 : decode cX1_dropUnflushed 11 = .ok (.aload_n 0, 1) := by decide +kernel
theorem dX1_dropUnflushed_12 : decode cX1_dropUnflushed 12 = .ok (.getfield 44, 3) := by decide +kernel
theorem dX1_dropUnflushed_15 : decode cX1_dropUnflushed 15 = .ok (.putfield 32, 3) := by decide +kernel
theorem dX1_dropUnflushed_18 : decode cX1_dropUnflushed 18 = .ok (.aload_n 0, 1) := by decide +kernel
theorem dX1_dropUnflushed_19 : decode cX1_dropUnflushed 19 = .ok (.getfield 19, 3) := by decide +kernel
theorem dX1_dropUnflushed_22 : decode cX1_dropUnflushed 22 = .ok (.iconst 0, 1) := by decide +kernel
theorem dX1_dropUnflushed_23 : decode cX1_dropUnflushed 23 = .ok (.invokestatic 55, 3) := by decide +kernel
theorem dX1_dropUnflushed_26 : decode cX1_dropUnflushed 26 = .ok (.aload_n 0, 1) := by decide +kernel
theorem dX1_dropUnflushed_27 : decode cX1_dropUnflushed 27 = .ok (.getfield 22, 3) := by decide +kernel
theorem dX1_dropUnflushed_30 : decode cX1_dropUnflushed 30 = .ok (.iconst 0, 1) := by decide +kernel
theorem dX1_dropUnflushed_31 : decode cX1_dropUnflushed 31 = .ok (.invokestatic 55, 3) := by decide +kernel
theorem dX1_dropUnflushed_34 : decode cX1_dropUnflushed 34 = .ok (.aload_n 0, 1) := by decide +kernel
theorem dX1_dropUnflushed_35 : decode cX1_dropUnflushed 35 = .ok (.getfield 25, 3) := by decide +kernel
theorem dX1_dropUnflushed_38 : decode cX1_dropUnflushed 38 = .ok (.iconst 0, 1) := by decide +kernel
theorem dX1_dropUnflushed_39 : decode cX1_dropUnflushed 39 = .ok (.invokestatic 55, 3) := by decide +kernel
theorem dX1_dropUnflushed_42 : decode cX1_dropUnflushed 42 = .ok (.iconst 1, 1) := by decide +kernel
theorem dX1_dropUnflushed_43 : decode cX1_dropUnflushed 43 = .ok (.istore_n 2, 1) := by decide +kernel
theorem dX1_dropUnflushed_44 : decode cX1_dropUnflushed 44 = .ok (.iload_n 2, 1) := by decide +kernel
theorem dX1_dropUnflushed_45 : decode cX1_dropUnflushed 45 = .ok (.aload_n 0, 1) := by decide +kernel
theorem dX1_dropUnflushed_46 : decode cX1_dropUnflushed 46 = .ok (.getfield 32, 3) := by decide +kernel
theorem dX1_dropUnflushed_49 : decode cX1_dropUnflushed 49 = .ok (.if_icmp .gt 14, 3) := by decide +kernel
theorem dX1_dropUnflushed_52 : decode cX1_dropUnflushed 52 = .ok (.aload_n 0, 1) := by decide +kernel
theorem dX1_dropUnflushed_53 : decode cX1_dropUnflushed 53 = .ok (.iload_n 2, 1) := by decide +kernel
theorem dX1_dropUnflushed_54 : decode cX1_dropUnflushed 54 = .ok (.invokevirtual 40, 3) := by decide +kernel
theorem dX1_dropUnflushed_57 : decode cX1_dropUnflushed 57 = .ok (.iinc 2 1, 3) := by decide +kernel
theorem dX1_dropUnflushed_60 : decode cX1_dropUnflushed 60 = .ok (.goto (-16), 3) := by decide +kernel
theorem dX1_dropUnflushed_63 : decode cX1_dropUnflushed 63 = .ok (.iload_n 1, 1) := by decide +kernel
theorem dX1_dropUnflushed_64 : decode cX1_dropUnflushed 64 = .ok (.ireturn, 1) := by decide +kernel
theorem dX2_init_0 : decode cX2_init 0 = .ok (.aload_n 0, 1) := by decide +kernel
theorem dX2_init_1 : decode cX2_init 1 = .ok (.invokespecial 3, 3) := by decide +kernel
theorem dX2_init_4 : decode cX2_init 4 = .ok (.aload_n 0, 1) := by decide +kernel
theorem dX2_init_5 : decode cX2_init 5 = .ok (.bipush 32, 2) := by decide +kernel
theorem dX2_init_7 : decode cX2_init 7 = .ok (.bipush 9, 2) := by decide +kernel
theorem dX2_init_9 : decode cX2_init 9 = .ok (.multianewarray 9 2, 4) := by decide +kernel
theorem dX2_init_13 : decode cX2_init 13 = .ok (.putfield 11, 3) := by decide +kernel
theorem dX2_init_16 : decode cX2_init 16 = .ok (.aload_n 0, 1) := by decide +kernel
theorem dX2_init_17 : decode cX2_init 17 = .ok (.iload_n 1, 1) := by decide +kernel
theorem dX2_init_18 : decode cX2_init 18 = .ok (.anewarray 16, 3) := by decide +kernel
theorem dX2_init_21 : decode cX2_init 21 = .ok (.putfield 18, 3) := by decide +kernel
theorem dX2_init_24 : decode cX2_init 24 = .ok (.iconst 0, 1) := by decide +kernel
theorem dX2_init_25 : decode cX2_init 25 = .ok (.istore_n 2, 1) := by decide +kernel
theorem dX2_init_26 : decode cX2_init 26 = .ok (.iload_n 2, 1) := by decide +kernel
theorem dX2_init_27 : decode cX2_init 27 = .ok (.iload_n 1, 1) := by decide +kernel
theorem dX2_init_28 : decode cX2_init 28 = .ok (.if_icmp .ge 22, 3) := by decide +kernel
theorem dX2_init_31 : decode cX2_init 31 = .ok (.aload_n 0, 1) := by decide +kernel
theorem dX2_init_32 : decode cX2_init 32 = .ok (.getfield 18, 3) := by decide +kernel
theorem dX2_init_35 : decode cX2_init 35 = .ok (.iload_n 2, 1) := by decide +kernel
theorem dX2_init_36 : decode cX2_init 36 = .ok (.new 16, 3) := by decide +kernel
theorem dX2_init_39 : decode cX2_init 39 = .ok (.dup, 1) := by decide +kernel
theorem dX2_init_40 : decode cX2_init 40 = .ok (.invokespecial 22, 3) := by decide +kernel
theorem dX2_init_43 : decode cX2_init 43 = .ok (.aastore, 1) := by decide +kernel
theorem dX2_init_44 : decode cX2_init 44 = .ok (.iinc 2 1, 3) := by decide +kernel
theorem dX2_init_47 : decode cX2_init 47 = .ok (.goto (-21), 3) := by decide +kernel
theorem dX2_init_50 : decode cX2_init 50 = .ok (.return_, 1) := by decide +kernel
theorem dX2_find_0 : decode cX2_find 0 = .ok (.iconst 0, 1) := by decide +kernel
theorem dX2_find_1 : decode cX2_find 1 = .ok (.istore_n 2, 1) := by decide +kernel
theorem dX2_find_2 : decode cX2_find 2 = .ok (.iload_n 2, 1) := by decide +kernel
theorem dX2_find_3 : decode cX2_find 3 = .ok (.aload_n 0, 1) := by decide +kernel
theorem dX2_find_4 : decode cX2_find 4 = .ok (.getfield 18, 3) := by decide +kernel
theorem dX2_find_7 : decode cX2_find 7 = .ok (.arraylength, 1) := by decide +kernel
theorem dX2_find_8 : decode cX2_find 8 = .ok (.if_icmp .ge 24, 3) := by decide +kernel
theorem dX2_find_11 : decode cX2_find 11 = .ok (.aload_n 0, 1) := by decide +kernel
theorem dX2_find_12 : decode cX2_find 12 = .ok (.getfield 18, 3) := by decide +kernel
theorem dX2_find_15 : decode cX2_find 15 = .ok (.iload_n 2, 1) := by decide +kernel
theorem dX2_find_16 : decode cX2_find 16 = .ok (.aaload, 1) := by decide +kernel
theorem dX2_find_17 : decode cX2_find 17 = .ok (.getfield 23, 3) := by decide +kernel
theorem dX2_find_20 : decode cX2_find 20 = .ok (.iload_n 1, 1) := by decide +kernel
theorem dX2_find_21 : decode cX2_find 21 = .ok (.if_icmp .ne 5, 3) := by decide +kernel
theorem dX2_find_24 : decode cX2_find 24 = .ok (.iload_n 2, 1) := by decide +kernel
theorem dX2_find_25 : decode cX2_find 25 = .ok (.ireturn, 1) := by decide +kernel
theorem dX2_find_26 : decode cX2_find 26 = .ok (.iinc 2 1, 3) := by decide +kernel
theorem dX2_find_29 : decode cX2_find 29 = .ok (.goto (-27), 3) := by decide +kernel
theorem dX2_find_32 : decode cX2_find 32 = .ok (.iconst (-1), 1) := by decide +kernel
theorem dX2_find_33 : decode cX2_find 33 = .ok (.ireturn, 1) := by decide +kernel
theorem dX2_bring_0 : decode cX2_bring 0 = .ok (.aload_n 0, 1) := by decide +kernel
theorem dX2_bring_1 : decode cX2_bring 1 = .ok (.iload_n 1, 1) := by decide +kernel
theorem dX2_bring_2 : decode cX2_bring 2 = .ok (.invokevirtual 27, 3) := by decide +kernel
theorem dX2_bring_5 : decode cX2_bring 5 = .ok (.istore_n 3, 1) := by decide +kernel
theorem dX2_bring_6 : decode cX2_bring 6 = .ok (.iload_n 3, 1) := by decide +kernel
theorem dX2_bring_7 : decode cX2_bring 7 = .ok (.ifCond .ge 26, 3) := by decide +kernel
theorem dX2_bring_10 : decode cX2_bring 10 = .ok (.aload_n 0, 1) := by decide +kernel
theorem dX2_bring_11 : decode cX2_bring 11 = .ok (.iload_n 2, 1) := by decide +kernel
theorem dX2_bring_12 : decode cX2_bring 12 = .ok (.invokevirtual 31, 3) := by decide +kernel
theorem dX2_bring_15 : decode cX2_bring 15 = .ok (.istore_n 3, 1) := by decide +kernel
theorem dX2_bring_16 : decode cX2_bring 16 = .ok (.iload_n 3, 1) := by decide +kernel
theorem dX2_bring_17 : decode cX2_bring 17 = .ok (.ifCond .ge 5, 3) := by decide +kernel
theorem dX2_bring_20 : decode cX2_bring 20 = .ok (.iconst (-1), 1) := by decide +kernel
theorem dX2_bring_21 : decode cX2_bring 21 = .ok (.ireturn, 1) := by decide +kernel
theorem dX2_bring_22 : decode cX2_bring 22 = .ok (.aload_n 0, 1) := by decide +kernel
theorem dX2_bring_23 : decode cX2_bring 23 = .ok (.iload_n 1, 1) := by decide +kernel
theorem dX2_bring_24 : decode cX2_bring 24 = .ok (.aload_n 0, 1) := by decide +kernel
theorem dX2_bring_25 : decode cX2_bring 25 = .ok (.getfield 18, 3) := by decide +kernel
theorem dX2_bring_28 : decode cX2_bring 28 = .ok (.iload_n 3, 1) := by decide +kernel
theorem dX2_bring_29 : decode cX2_bring 29 = .ok (.aaload, 1) := by decide +kernel
theorem dX2_bring_30 : decode cX2_bring 30 = .ok (.invokevirtual 34, 3) := by decide +kernel
theorem dX2_bring_33 : decode cX2_bring 33 = .ok (.aload_n 0, 1) := by decide +kernel
theorem dX2_bring_34 : decode cX2_bring 34 = .ok (.getfield 18, 3) := by decide +kernel
theorem dX2_bring_37 : decode cX2_bring 37 = .ok (.iload_n 3, 1) := by decide +kernel
theorem dX2_bring_38 : decode cX2_bring 38 = .ok (.aaload, 1) := by decide +kernel
theorem dX2_bring_39 : decode cX2_bring 39 = .ok (.iconst 1, 1) := by decide +kernel
theorem dX2_bring_40 : decode cX2_bring 40 = .ok (.putfield 38, 3) := by decide +kernel
theorem dX2_bring_43 : decode cX2_bring 43 = .ok (.iload_n 3, 1) := by decide +kernel
theorem dX2_bring_44 : decode cX2_bring 44 = .ok (.ireturn, 1) := by decide +kernel
theorem dX2_roomFor_0 : decode cX2_roomFor 0 = .ok (.aload_n 0, 1) := by decide +kernel
theorem dX2_roomFor_1 : decode cX2_roomFor 1 = .ok (.iconst (-1), 1) := by decide +kernel
theorem dX2_roomFor_2 : decode cX2_roomFor 2 = .ok (.invokevirtual 27, 3) := by decide +kernel
theorem dX2_roomFor_5 : decode cX2_roomFor 5 = .ok (.istore_n 2, 1) := by decide +kernel
theorem dX2_roomFor_6 : decode cX2_roomFor 6 = .ok (.iload_n 2, 1) := by decide +kernel
theorem dX2_roomFor_7 : decode cX2_roomFor 7 = .ok (.ifCond .lt 7, 3) := by decide +kernel
theorem dX2_roomFor_10 : decode cX2_roomFor 10 = .ok (.iload_n 2, 1) := by decide +kernel
theorem dX2_roomFor_11 : decode cX2_roomFor 11 = .ok (.goto 8, 3) := by decide +kernel
theorem dX2_roomFor_14 : decode cX2_roomFor 14 = .ok (.aload_n 0, 1) := by decide +kernel
theorem dX2_roomFor_15 : decode cX2_roomFor 15 = .ok (.iload_n 1, 1) := by decide +kernel
theorem dX2_roomFor_16 : decode cX2_roomFor 16 = .ok (.invokevirtual 42, 3) := by decide +kernel
theorem dX2_roomFor_19 : decode cX2_roomFor 19 = .ok (.ireturn, 1) := by decide +kernel
theorem dX2_turnHand_0 : decode cX2_turnHand 0 = .ok (.iconst 0, 1) := by decide +kernel
theorem dX2_turnHand_1 : decode cX2_turnHand 1 = .ok (.istore_n 2, 1) := by decide +kernel
theorem dX2_turnHand_2 : decode cX2_turnHand 2 = .ok (.iload_n 2, 1) := by decide +kernel
theorem dX2_turnHand_3 : decode cX2_turnHand 3 = .ok (.iconst 2, 1) := by decide +kernel
theorem dX2_turnHand_4 : decode cX2_turnHand 4 = .ok (.aload_n 0, 1) := by decide +kernel
theorem dX2_turnHand_5 : decode cX2_turnHand 5 = .ok (.getfield 18, 3) := by decide +kernel
theorem dX2_turnHand_8 : decode cX2_turnHand 8 = .ok (.arraylength, 1) := by decide +kernel
theorem dX2_turnHand_9 : decode cX2_turnHand 9 = .ok (.imul, 1) := by decide +kernel
theorem dX2_turnHand_10 : decode cX2_turnHand 10 = .ok (.if_icmp .ge 73, 3) := by decide +kernel
theorem dX2_turnHand_13 : decode cX2_turnHand 13 = .ok (.aload_n 0, 1) := by decide +kernel
theorem dX2_turnHand_14 : decode cX2_turnHand 14 = .ok (.getfield 45, 3) := by decide +kernel
theorem dX2_turnHand_17 : decode cX2_turnHand 17 = .ok (.istore_n 3, 1) := by decide +kernel
theorem dX2_turnHand_18 : decode cX2_turnHand 18 = .ok (.aload_n 0, 1) := by decide +kernel
theorem dX2_turnHand_19 : decode cX2_turnHand 19 = .ok (.iload_n 3, 1) := by decide +kernel
theorem dX2_turnHand_20 : decode cX2_turnHand 20 = .ok (.iconst 1, 1) := by decide +kernel
theorem dX2_turnHand_21 : decode cX2_turnHand 21 = .ok (.iadd, 1) := by decide +kernel
theorem dX2_turnHand_22 : decode cX2_turnHand 22 = .ok (.aload_n 0, 1) := by decide +kernel
theorem dX2_turnHand_23 : decode cX2_turnHand 23 = .ok (.getfield 18, 3) := by decide +kernel
theorem dX2_turnHand_26 : decode cX2_turnHand 26 = .ok (.arraylength, 1) := by decide +kernel
theorem dX2_turnHand_27 : decode cX2_turnHand 27 = .ok (.if_icmp .ge 9, 3) := by decide +kernel
theorem dX2_turnHand_30 : decode cX2_turnHand 30 = .ok (.iload_n 3, 1) := by decide +kernel
theorem dX2_turnHand_31 : decode cX2_turnHand 31 = .ok (.iconst 1, 1) := by decide +kernel
theorem dX2_turnHand_32 : decode cX2_turnHand 32 = .ok (.iadd, 1) := by decide +kernel
theorem dX2_turnHand_33 : decode cX2_turnHand 33 = .ok (.goto 4, 3) := by decide +kernel
theorem dX2_turnHand_36 : decode cX2_turnHand 36 = .ok (.iconst 0, 1) := by decide +kernel
theorem dX2_turnHand_37 : decode cX2_turnHand 37 = .ok (.putfield 45, 3) := by decide +kernel
theorem dX2_turnHand_40 : decode cX2_turnHand 40 = .ok (.aload_n 0, 1) := by decide +kernel
theorem dX2_turnHand_41 : decode cX2_turnHand 41 = .ok (.getfield 18, 3) := by decide +kernel
theorem dX2_turnHand_44 : decode cX2_turnHand 44 = .ok (.iload_n 3, 1) := by decide +kernel
theorem dX2_turnHand_45 : decode cX2_turnHand 45 = .ok (.aaload, 1) := by decide +kernel
theorem dX2_turnHand_46 : decode cX2_turnHand 46 = .ok (.iload_n 1, 1) := by decide +kernel
theorem dX2_turnHand_47 : decode cX2_turnHand 47 = .ok (.invokevirtual 48, 3) := by decide +kernel
theorem dX2_turnHand_50 : decode cX2_turnHand 50 = .ok (.ifCond .eq 27, 3) := by decide +kernel
theorem dX2_turnHand_53 : decode cX2_turnHand 53 = .ok (.aload_n 0, 1) := by decide +kernel
theorem dX2_turnHand_54 : decode cX2_turnHand 54 = .ok (.getfield 18, 3) := by decide +kernel
theorem dX2_turnHand_57 : decode cX2_turnHand 57 = .ok (.iload_n 3, 1) := by decide +kernel
theorem dX2_turnHand_58 : decode cX2_turnHand 58 = .ok (.aaload, 1) := by decide +kernel
theorem dX2_turnHand_59 : decode cX2_turnHand 59 = .ok (.getfield 38, 3) := by decide +kernel
theorem dX2_turnHand_62 : decode cX2_turnHand 62 = .ok (.ifCond .ne 5, 3) := by decide +kernel
theorem dX2_turnHand_65 : decode cX2_turnHand 65 = .ok (.iload_n 3, 1) := by decide +kernel
theorem dX2_turnHand_66 : decode cX2_turnHand 66 = .ok (.ireturn, 1) := by decide +kernel
theorem dX2_turnHand_67 : decode cX2_turnHand 67 = .ok (.aload_n 0, 1) := by decide +kernel
theorem dX2_turnHand_68 : decode cX2_turnHand 68 = .ok (.getfield 18, 3) := by decide +kernel
theorem dX2_turnHand_71 : decode cX2_turnHand 71 = .ok (.iload_n 3, 1) := by decide +kernel
theorem dX2_turnHand_72 : decode cX2_turnHand 72 = .ok (.aaload, 1) := by decide +kernel
theorem dX2_turnHand_73 : decode cX2_turnHand 73 = .ok (.iconst 0, 1) := by decide +kernel
theorem dX2_turnHand_74 : decode cX2_turnHand 74 = .ok (.putfield 38, 3) := by decide +kernel
theorem dX2_turnHand_77 : decode cX2_turnHand 77 = .ok (.iinc 2 1, 3) := by decide +kernel
theorem dX2_turnHand_80 : decode cX2_turnHand 80 = .ok (.goto (-78), 3) := by decide +kernel
theorem dX2_turnHand_83 : decode cX2_turnHand 83 = .ok (.iconst (-1), 1) := by decide +kernel
theorem dX2_turnHand_84 : decode cX2_turnHand 84 = .ok (.ireturn, 1) := by decide +kernel
theorem dX2_load_0 : decode cX2_load 0 = .ok (.aload_n 2, 1) := by decide +kernel
theorem dX2_load_1 : decode cX2_load 1 = .ok (.getfield 52, 3) := by decide +kernel
theorem dX2_load_4 : decode cX2_load 4 = .ok (.ifCond .eq 8, 3) := by decide +kernel
theorem dX2_load_7 : decode cX2_load 7 = .ok (.aload_n 0, 1) := by decide +kernel
theorem dX2_load_8 : decode cX2_load 8 = .ok (.aload_n 2, 1) := by decide +kernel
theorem dX2_load_9 : decode cX2_load 9 = .ok (.invokevirtual 55, 3) := by decide +kernel
theorem dX2_load_12 : decode cX2_load 12 = .ok (.aload_n 0, 1) := by decide +kernel
theorem dX2_load_13 : decode cX2_load 13 = .ok (.getfield 11, 3) := by decide +kernel
theorem dX2_load_16 : decode cX2_load 16 = .ok (.iload_n 1, 1) := by decide +kernel
theorem dX2_load_17 : decode cX2_load 17 = .ok (.aaload, 1) := by decide +kernel
theorem dX2_load_18 : decode cX2_load 18 = .ok (.iconst 0, 1) := by decide +kernel
theorem dX2_load_19 : decode cX2_load 19 = .ok (.aload_n 2, 1) := by decide +kernel
theorem dX2_load_20 : decode cX2_load 20 = .ok (.getfield 59, 3) := by decide +kernel
theorem dX2_load_23 : decode cX2_load 23 = .ok (.iconst 0, 1) := by decide +kernel
theorem dX2_load_24 : decode cX2_load 24 = .ok (.bipush 9, 2) := by decide +kernel
theorem dX2_load_26 : decode cX2_load 26 = .ok (.invokestatic 63, 3) := by decide +kernel
theorem dX2_load_29 : decode cX2_load 29 = .ok (.aload_n 2, 1) := by decide +kernel
theorem dX2_load_30 : decode cX2_load 30 = .ok (.iload_n 1, 1) := by decide +kernel
theorem dX2_load_31 : decode cX2_load 31 = .ok (.putfield 23, 3) := by decide +kernel
theorem dX2_load_34 : decode cX2_load 34 = .ok (.aload_n 0, 1) := by decide +kernel
theorem dX2_load_35 : decode cX2_load 35 = .ok (.dup, 1) := by decide +kernel
theorem dX2_load_36 : decode cX2_load 36 = .ok (.getfield 69, 3) := by decide +kernel
theorem dX2_load_39 : decode cX2_load 39 = .ok (.iconst 1, 1) := by decide +kernel
theorem dX2_load_40 : decode cX2_load 40 = .ok (.iadd, 1) := by decide +kernel
theorem dX2_load_41 : decode cX2_load 41 = .ok (.putfield 69, 3) := by decide +kernel
theorem dX2_load_44 : decode cX2_load 44 = .ok (.return_, 1) := by decide +kernel
theorem dX2_writeBack_0 : decode cX2_writeBack 0 = .ok (.aload_n 1, 1) := by decide +kernel
theorem dX2_writeBack_1 : decode cX2_writeBack 1 = .ok (.getfield 59, 3) := by decide +kernel
theorem dX2_writeBack_4 : decode cX2_writeBack 4 = .ok (.iconst 0, 1) := by decide +kernel
theorem dX2_writeBack_5 : decode cX2_writeBack 5 = .ok (.aload_n 0, 1) := by decide +kernel
theorem dX2_writeBack_6 : decode cX2_writeBack 6 = .ok (.getfield 11, 3) := by decide +kernel
theorem dX2_writeBack_9 : decode cX2_writeBack 9 = .ok (.aload_n 1, 1) := by decide +kernel
theorem dX2_writeBack_10 : decode cX2_writeBack 10 = .ok (.getfield 23, 3) := by decide +kernel
theorem dX2_writeBack_13 : decode cX2_writeBack 13 = .ok (.aaload, 1) := by decide +kernel
theorem dX2_writeBack_14 : decode cX2_writeBack 14 = .ok (.iconst 0, 1) := by decide +kernel
theorem dX2_writeBack_15 : decode cX2_writeBack 15 = .ok (.bipush 9, 2) := by decide +kernel
theorem dX2_writeBack_17 : decode cX2_writeBack 17 = .ok (.invokestatic 63, 3) := by decide +kernel
theorem dX2_writeBack_20 : decode cX2_writeBack 20 = .ok (.aload_n 1, 1) := by decide +kernel
theorem dX2_writeBack_21 : decode cX2_writeBack 21 = .ok (.iconst 0, 1) := by decide +kernel
theorem dX2_writeBack_22 : decode cX2_writeBack 22 = .ok (.putfield 52, 3) := by decide +kernel
theorem dX2_writeBack_25 : decode cX2_writeBack 25 = .ok (.aload_n 0, 1) := by decide +kernel
theorem dX2_writeBack_26 : decode cX2_writeBack 26 = .ok (.dup, 1) := by decide +kernel
theorem dX2_writeBack_27 : decode cX2_writeBack 27 = .ok (.getfield 72, 3) := by decide +kernel
theorem dX2_writeBack_30 : decode cX2_writeBack 30 = .ok (.iconst 1, 1) := by decide +kernel
theorem dX2_writeBack_31 : decode cX2_writeBack 31 = .ok (.iadd, 1) := by decide +kernel
theorem dX2_writeBack_32 : decode cX2_writeBack 32 = .ok (.putfield 72, 3) := by decide +kernel
theorem dX2_writeBack_35 : decode cX2_writeBack 35 = .ok (.return_, 1) := by decide +kernel
theorem dX2_clear_0 : decode cX2_clear 0 = .ok (.iconst 0, 1) := by decide +kernel
theorem dX2_clear_1 : decode cX2_clear 1 = .ok (.istore_n 1, 1) := by decide +kernel
theorem dX2_clear_2 : decode cX2_clear 2 = .ok (.iload_n 1, 1) := by decide +kernel
theorem dX2_clear_3 : decode cX2_clear 3 = .ok (.aload_n 0, 1) := by decide +kernel
theorem dX2_clear_4 : decode cX2_clear 4 = .ok (.getfield 18, 3) := by decide +kernel
theorem dX2_clear_7 : decode cX2_clear 7 = .ok (.arraylength, 1) := by decide +kernel
theorem dX2_clear_8 : decode cX2_clear 8 = .ok (.if_icmp .ge 18, 3) := by decide +kernel
theorem dX2_clear_11 : decode cX2_clear 11 = .ok (.aload_n 0, 1) := by decide +kernel
theorem dX2_clear_12 : decode cX2_clear 12 = .ok (.getfield 18, 3) := by decide +kernel
theorem dX2_clear_15 : decode cX2_clear 15 = .ok (.iload_n 1, 1) := by decide +kernel
theorem dX2_clear_16 : decode cX2_clear 16 = .ok (.aaload, 1) := by decide +kernel
theorem dX2_clear_17 : decode cX2_clear 17 = .ok (.invokevirtual 75, 3) := by decide +kernel
theorem dX2_clear_20 : decode cX2_clear 20 = .ok (.iinc 1 1, 3) := by decide +kernel
theorem dX2_clear_23 : decode cX2_clear 23 = .ok (.goto (-21), 3) := by decide +kernel
theorem dX2_clear_26 : decode cX2_clear 26 = .ok (.aload_n 0, 1) := by decide +kernel
theorem dX2_clear_27 : decode cX2_clear 27 = .ok (.iconst 0, 1) := by decide +kernel
theorem dX2_clear_28 : decode cX2_clear 28 = .ok (.putfield 45, 3) := by decide +kernel
theorem dX2_clear_31 : decode cX2_clear 31 = .ok (.return_, 1) := by decide +kernel
theorem dJ9_max_7cf53_0 : decode cJ9_max_7cf53 0 = .ok (.iload_n 0, 1) := by decide +kernel
theorem dJ9_max_7cf53_1 : decode cJ9_max_7cf53 1 = .ok (.iload_n 1, 1) := by decide +kernel
theorem dJ9_max_7cf53_2 : decode cJ9_max_7cf53 2 = .ok (.if_icmp .lt 7, 3) := by decide +kernel
theorem dJ9_max_7cf53_5 : decode cJ9_max_7cf53 5 = .ok (.iload_n 0, 1) := by decide +kernel
theorem dJ9_max_7cf53_6 : decode cJ9_max_7cf53 6 = .ok (.goto 4, 3) := by decide +kernel
theorem dJ9_max_7cf53_9 : decode cJ9_max_7cf53 9 = .ok (.iload_n 1, 1) := by decide +kernel
theorem dJ9_max_7cf53_10 : decode cJ9_max_7cf53 10 = .ok (.ireturn, 1) := by decide +kernel
theorem dJ9_min_7cf53_0 : decode cJ9_min_7cf53 0 = .ok (.iload_n 0, 1) := by decide +kernel
theorem dJ9_min_7cf53_1 : decode cJ9_min_7cf53 1 = .ok (.iload_n 1, 1) := by decide +kernel
theorem dJ9_min_7cf53_2 : decode cJ9_min_7cf53 2 = .ok (.if_icmp .gt 7, 3) := by decide +kernel
theorem dJ9_min_7cf53_5 : decode cJ9_min_7cf53 5 = .ok (.iload_n 0, 1) := by decide +kernel
theorem dJ9_min_7cf53_6 : decode cJ9_min_7cf53 6 = .ok (.goto 4, 3) := by decide +kernel
theorem dJ9_min_7cf53_9 : decode cJ9_min_7cf53 9 = .ok (.iload_n 1, 1) := by decide +kernel
theorem dJ9_min_7cf53_10 : decode cJ9_min_7cf53 10 = .ok (.ireturn, 1) := by decide +kernel
theorem dJ7_fill_53178_0 : decode cJ7_fill_53178 0 = .ok (.iconst 0, 1) := by decide +kernel
theorem dJ7_fill_53178_1 : decode cJ7_fill_53178 1 = .ok (.istore_n 2, 1) := by decide +kernel
theorem dJ7_fill_53178_2 : decode cJ7_fill_53178 2 = .ok (.aload_n 0, 1) := by decide +kernel
theorem dJ7_fill_53178_3 : decode cJ7_fill_53178 3 = .ok (.arraylength, 1) := by decide +kernel
theorem dJ7_fill_53178_4 : decode cJ7_fill_53178 4 = .ok (.istore_n 3, 1) := by decide +kernel
theorem dJ7_fill_53178_5 : decode cJ7_fill_53178 5 = .ok (.iload_n 2, 1) := by decide +kernel
theorem dJ7_fill_53178_6 : decode cJ7_fill_53178 6 = .ok (.iload_n 3, 1) := by decide +kernel
theorem dJ7_fill_53178_7 : decode cJ7_fill_53178 7 = .ok (.if_icmp .ge 13, 3) := by decide +kernel
theorem dJ7_fill_53178_10 : decode cJ7_fill_53178 10 = .ok (.aload_n 0, 1) := by decide +kernel
theorem dJ7_fill_53178_11 : decode cJ7_fill_53178 11 = .ok (.iload_n 2, 1) := by decide +kernel
theorem dJ7_fill_53178_12 : decode cJ7_fill_53178 12 = .ok (.iload_n 1, 1) := by decide +kernel
theorem dJ7_fill_53178_13 : decode cJ7_fill_53178 13 = .ok (.iastore, 1) := by decide +kernel
theorem dJ7_fill_53178_14 : decode cJ7_fill_53178 14 = .ok (.iinc 2 1, 3) := by decide +kernel
theorem dJ7_fill_53178_17 : decode cJ7_fill_53178 17 = .ok (.goto (-12), 3) := by decide +kernel
theorem dJ7_fill_53178_20 : decode cJ7_fill_53178 20 = .ok (.return_, 1) := by decide +kernel
end
section
theorem dX3_init_0 : decode cX3_init 0 = .ok (.aload_n 0, 1) := by decide +kernel
theorem dX3_init_1 : decode cX3_init 1 = .ok (.invokespecial 3, 3) := by decide +kernel
theorem dX3_init_4 : decode cX3_init 4 = .ok (.aload_n 0, 1) := by decide +kernel
theorem dX3_init_5 : decode cX3_init 5 = .ok (.new 9, 3) := by decide +kernel
theorem dX3_init_8 : decode cX3_init 8 = .ok (.dup, 1) := by decide +kernel
theorem dX3_init_9 : decode cX3_init 9 = .ok (.iconst 1, 1) := by decide +kernel
theorem dX3_init_10 : decode cX3_init 10 = .ok (.bipush 8, 2) := by decide +kernel
theorem dX3_init_12 : decode cX3_init 12 = .ok (.iload_n 1, 1) := by decide +kernel
theorem dX3_init_13 : decode cX3_init 13 = .ok (.invokestatic 11, 3) := by decide +kernel
theorem dX3_init_16 : decode cX3_init 16 = .ok (.invokestatic 17, 3) := by decide +kernel
theorem dX3_init_19 : decode cX3_init 19 = .ok (.invokespecial 20, 3) := by decide +kernel
theorem dX3_init_22 : decode cX3_init 22 = .ok (.putfield 23, 3) := by decide +kernel
theorem dX3_init_25 : decode cX3_init 25 = .ok (.aload_n 0, 1) := by decide +kernel
theorem dX3_init_26 : decode cX3_init 26 = .ok (.new 27, 3) := by decide +kernel
theorem dX3_init_29 : decode cX3_init 29 = .ok (.dup, 1) := by decide +kernel
theorem dX3_init_30 : decode cX3_init 30 = .ok (.invokespecial 29, 3) := by decide +kernel
theorem dX3_init_33 : decode cX3_init 33 = .ok (.putfield 30, 3) := by decide +kernel
theorem dX3_init_36 : decode cX3_init 36 = .ok (.aload_n 0, 1) := by decide +kernel
theorem dX3_init_37 : decode cX3_init 37 = .ok (.bipush 8, 2) := by decide +kernel
theorem dX3_init_39 : decode cX3_init 39 = .ok (.newarray .boolean, 2) := by decide +kernel
theorem dX3_init_41 : decode cX3_init 41 = .ok (.putfield 34, 3) := by decide +kernel
theorem dX3_init_44 : decode cX3_init 44 = .ok (.aload_n 0, 1) := by decide +kernel
theorem dX3_init_45 : decode cX3_init 45 = .ok (.bipush 8, 2) := by decide +kernel
theorem dX3_init_47 : decode cX3_init 47 = .ok (.newarray .boolean, 2) := by decide +kernel
theorem dX3_init_49 : decode cX3_init 49 = .ok (.putfield 38, 3) := by decide +kernel
theorem dX3_init_52 : decode cX3_init 52 = .ok (.return_, 1) := by decide +kernel
theorem dX3_fetch_0 : decode cX3_fetch 0 = .ok (.iload_n 1, 1) := by decide +kernel
theorem dX3_fetch_1 : decode cX3_fetch 1 = .ok (.bipush 32, 2) := by decide +kernel
theorem dX3_fetch_3 : decode cX3_fetch 3 = .ok (.invokestatic 41, 3) := by decide +kernel
theorem dX3_fetch_6 : decode cX3_fetch 6 = .ok (.aload_n 0, 1) := by decide +kernel
theorem dX3_fetch_7 : decode cX3_fetch 7 = .ok (.getfield 23, 3) := by decide +kernel
theorem dX3_fetch_10 : decode cX3_fetch 10 = .ok (.iload_n 1, 1) := by decide +kernel
theorem dX3_fetch_11 : decode cX3_fetch 11 = .ok (.aload_n 0, 1) := by decide +kernel
theorem dX3_fetch_12 : decode cX3_fetch 12 = .ok (.getfield 30, 3) := by decide +kernel
theorem dX3_fetch_15 : decode cX3_fetch 15 = .ok (.getfield 45, 3) := by decide +kernel
theorem dX3_fetch_18 : decode cX3_fetch 18 = .ok (.invokevirtual 49, 3) := by decide +kernel
theorem dX3_fetch_21 : decode cX3_fetch 21 = .ok (.istore_n 2, 1) := by decide +kernel
theorem dX3_fetch_22 : decode cX3_fetch 22 = .ok (.iload_n 2, 1) := by decide +kernel
theorem dX3_fetch_23 : decode cX3_fetch 23 = .ok (.ifCond .ge 6, 3) := by decide +kernel
theorem dX3_fetch_26 : decode cX3_fetch 26 = .ok (.bipush (-2), 2) := by decide +kernel
theorem dX3_fetch_28 : decode cX3_fetch 28 = .ok (.ireturn, 1) := by decide +kernel
theorem dX3_fetch_29 : decode cX3_fetch 29 = .ok (.aload_n 0, 1) := by decide +kernel
theorem dX3_fetch_30 : decode cX3_fetch 30 = .ok (.getfield 23, 3) := by decide +kernel
theorem dX3_fetch_33 : decode cX3_fetch 33 = .ok (.getfield 52, 3) := by decide +kernel
theorem dX3_fetch_36 : decode cX3_fetch 36 = .ok (.iload_n 2, 1) := by decide +kernel
theorem dX3_fetch_37 : decode cX3_fetch 37 = .ok (.aaload, 1) := by decide +kernel
theorem dX3_fetch_38 : decode cX3_fetch 38 = .ok (.dup, 1) := by decide +kernel
theorem dX3_fetch_39 : decode cX3_fetch 39 = .ok (.getfield 56, 3) := by decide +kernel
theorem dX3_fetch_42 : decode cX3_fetch 42 = .ok (.iconst 1, 1) := by decide +kernel
theorem dX3_fetch_43 : decode cX3_fetch 43 = .ok (.iadd, 1) := by decide +kernel
theorem dX3_fetch_44 : decode cX3_fetch 44 = .ok (.putfield 56, 3) := by decide +kernel
theorem dX3_fetch_47 : decode cX3_fetch 47 = .ok (.iload_n 2, 1) := by decide +kernel
theorem dX3_fetch_48 : decode cX3_fetch 48 = .ok (.ireturn, 1) := by decide +kernel
theorem dX3_release_0 : decode cX3_release 0 = .ok (.iload_n 1, 1) := by decide +kernel
theorem dX3_release_1 : decode cX3_release 1 = .ok (.bipush 32, 2) := by decide +kernel
theorem dX3_release_3 : decode cX3_release 3 = .ok (.invokestatic 41, 3) := by decide +kernel
theorem dX3_release_6 : decode cX3_release 6 = .ok (.aload_n 0, 1) := by decide +kernel
theorem dX3_release_7 : decode cX3_release 7 = .ok (.iload_n 1, 1) := by decide +kernel
theorem dX3_release_8 : decode cX3_release 8 = .ok (.invokevirtual 61, 3) := by decide +kernel
theorem dX3_release_11 : decode cX3_release 11 = .ok (.astore_n 2, 1) := by decide +kernel
theorem dX3_release_12 : decode cX3_release 12 = .ok (.aload_n 2, 1) := by decide +kernel
theorem dX3_release_13 : decode cX3_release 13 = .ok (.dup, 1) := by decide +kernel
theorem dX3_release_14 : decode cX3_release 14 = .ok (.getfield 56, 3) := by decide +kernel
theorem dX3_release_17 : decode cX3_release 17 = .ok (.iconst 1, 1) := by decide +kernel
theorem dX3_release_18 : decode cX3_release 18 = .ok (.isub, 1) := by decide +kernel
theorem dX3_release_19 : decode cX3_release 19 = .ok (.putfield 56, 3) := by decide +kernel
theorem dX3_release_22 : decode cX3_release 22 = .ok (.aload_n 2, 1) := by decide +kernel
theorem dX3_release_23 : decode cX3_release 23 = .ok (.getfield 56, 3) := by decide +kernel
theorem dX3_release_26 : decode cX3_release 26 = .ok (.ireturn, 1) := by decide +kernel
theorem dX3_get_0 : decode cX3_get 0 = .ok (.iload_n 1, 1) := by decide +kernel
theorem dX3_get_1 : decode cX3_get 1 = .ok (.bipush 32, 2) := by decide +kernel
theorem dX3_get_3 : decode cX3_get 3 = .ok (.invokestatic 41, 3) := by decide +kernel
theorem dX3_get_6 : decode cX3_get 6 = .ok (.iload_n 2, 1) := by decide +kernel
theorem dX3_get_7 : decode cX3_get 7 = .ok (.bipush 8, 2) := by decide +kernel
theorem dX3_get_9 : decode cX3_get 9 = .ok (.invokestatic 41, 3) := by decide +kernel
theorem dX3_get_12 : decode cX3_get 12 = .ok (.aload_n 0, 1) := by decide +kernel
theorem dX3_get_13 : decode cX3_get 13 = .ok (.iload_n 1, 1) := by decide +kernel
theorem dX3_get_14 : decode cX3_get 14 = .ok (.invokevirtual 61, 3) := by decide +kernel
theorem dX3_get_17 : decode cX3_get 17 = .ok (.getfield 65, 3) := by decide +kernel
theorem dX3_get_20 : decode cX3_get 20 = .ok (.iload_n 2, 1) := by decide +kernel
theorem dX3_get_21 : decode cX3_get 21 = .ok (.iaload, 1) := by decide +kernel
theorem dX3_get_22 : decode cX3_get 22 = .ok (.ireturn, 1) := by decide +kernel
theorem dX3_begin_0 : decode cX3_begin 0 = .ok (.aload_n 0, 1) := by decide +kernel
theorem dX3_begin_1 : decode cX3_begin 1 = .ok (.invokevirtual 69, 3) := by decide +kernel
theorem dX3_begin_4 : decode cX3_begin 4 = .ok (.istore_n 1, 1) := by decide +kernel
theorem dX3_begin_5 : decode cX3_begin 5 = .ok (.iload_n 1, 1) := by decide +kernel
theorem dX3_begin_6 : decode cX3_begin 6 = .ok (.ifCond .lt 19, 3) := by decide +kernel
theorem dX3_begin_9 : decode cX3_begin 9 = .ok (.aload_n 0, 1) := by decide +kernel
theorem dX3_begin_10 : decode cX3_begin 10 = .ok (.getfield 30, 3) := by decide +kernel
theorem dX3_begin_13 : decode cX3_begin 13 = .ok (.iconst 2, 1) := by decide +kernel
theorem dX3_begin_14 : decode cX3_begin 14 = .ok (.aload_n 0, 1) := by decide +kernel
theorem dX3_begin_15 : decode cX3_begin 15 = .ok (.invokevirtual 73, 3) := by decide +kernel
theorem dX3_begin_18 : decode cX3_begin 18 = .ok (.iadd, 1) := by decide +kernel
theorem dX3_begin_19 : decode cX3_begin 19 = .ok (.invokevirtual 76, 3) := by decide +kernel
theorem dX3_begin_22 : decode cX3_begin 22 = .ok (.ifCond .ne 6, 3) := by decide +kernel
theorem dX3_begin_25 : decode cX3_begin 25 = .ok (.bipush (-2), 2) := by decide +kernel
theorem dX3_begin_27 : decode cX3_begin 27 = .ok (.ireturn, 1) := by decide +kernel
theorem dX3_begin_28 : decode cX3_begin 28 = .ok (.aload_n 0, 1) := by decide +kernel
theorem dX3_begin_29 : decode cX3_begin 29 = .ok (.getfield 34, 3) := by decide +kernel
theorem dX3_begin_32 : decode cX3_begin 32 = .ok (.iload_n 1, 1) := by decide +kernel
theorem dX3_begin_33 : decode cX3_begin 33 = .ok (.iconst 1, 1) := by decide +kernel
theorem dX3_begin_34 : decode cX3_begin 34 = .ok (.bastore, 1) := by decide +kernel
theorem dX3_begin_35 : decode cX3_begin 35 = .ok (.iload_n 1, 1) := by decide +kernel
theorem dX3_begin_36 : decode cX3_begin 36 = .ok (.ireturn, 1) := by decide +kernel
theorem dX3_set_0 : decode cX3_set 0 = .ok (.iload_n 1, 1) := by decide +kernel
theorem dX3_set_1 : decode cX3_set 1 = .ok (.bipush 8, 2) := by decide +kernel
theorem dX3_set_3 : decode cX3_set 3 = .ok (.invokestatic 41, 3) := by decide +kernel
theorem dX3_set_6 : decode cX3_set 6 = .ok (.iload_n 2, 1) := by decide +kernel
theorem dX3_set_7 : decode cX3_set 7 = .ok (.bipush 32, 2) := by decide +kernel
theorem dX3_set_9 : decode cX3_set 9 = .ok (.invokestatic 41, 3) := by decide +kernel
theorem dX3_set_12 : decode cX3_set 12 = .ok (.iload_n 3, 1) := by decide +kernel
theorem dX3_set_13 : decode cX3_set 13 = .ok (.bipush 8, 2) := by decide +kernel
theorem dX3_set_15 : decode cX3_set 15 = .ok (.invokestatic 41, 3) := by decide +kernel
theorem dX3_set_18 : decode cX3_set 18 = .ok (.aload_n 0, 1) := by decide +kernel
theorem dX3_set_19 : decode cX3_set 19 = .ok (.iload_n 1, 1) := by decide +kernel
theorem dX3_set_20 : decode cX3_set 20 = .ok (.invokevirtual 80, 3) := by decide +kernel
theorem dX3_set_23 : decode cX3_set 23 = .ok (.aload_n 0, 1) := by decide +kernel
theorem dX3_set_24 : decode cX3_set 24 = .ok (.iload_n 2, 1) := by decide +kernel
theorem dX3_set_25 : decode cX3_set 25 = .ok (.invokevirtual 61, 3) := by decide +kernel
theorem dX3_set_28 : decode cX3_set 28 = .ok (.astore 5, 2) := by decide +kernel
theorem dX3_set_30 : decode cX3_set 30 = .ok (.aload_n 0, 1) := by decide +kernel
theorem dX3_set_31 : decode cX3_set 31 = .ok (.getfield 30, 3) := by decide +kernel
theorem dX3_set_34 : decode cX3_set 34 = .ok (.iconst 3, 1) := by decide +kernel
theorem dX3_set_35 : decode cX3_set 35 = .ok (.aload_n 0, 1) := by decide +kernel
theorem dX3_set_36 : decode cX3_set 36 = .ok (.invokevirtual 73, 3) := by decide +kernel
theorem dX3_set_39 : decode cX3_set 39 = .ok (.iadd, 1) := by decide +kernel
theorem dX3_set_40 : decode cX3_set 40 = .ok (.invokevirtual 76, 3) := by decide +kernel
theorem dX3_set_43 : decode cX3_set 43 = .ok (.ifCond .ne 6, 3) := by decide +kernel
theorem dX3_set_46 : decode cX3_set 46 = .ok (.bipush (-2), 2) := by decide +kernel
theorem dX3_set_48 : decode cX3_set 48 = .ok (.ireturn, 1) := by decide +kernel
theorem dX3_set_49 : decode cX3_set 49 = .ok (.aload_n 0, 1) := by decide +kernel
theorem dX3_set_50 : decode cX3_set 50 = .ok (.getfield 30, 3) := by decide +kernel
theorem dX3_set_53 : decode cX3_set 53 = .ok (.iconst 0, 1) := by decide +kernel
theorem dX3_set_54 : decode cX3_set 54 = .ok (.iload_n 1, 1) := by decide +kernel
theorem dX3_set_55 : decode cX3_set 55 = .ok (.iload_n 2, 1) := by decide +kernel
theorem dX3_set_56 : decode cX3_set 56 = .ok (.iload_n 3, 1) := by decide +kernel
theorem dX3_set_57 : decode cX3_set 57 = .ok (.aload 5, 2) := by decide +kernel
theorem dX3_set_59 : decode cX3_set 59 = .ok (.getfield 65, 3) := by decide +kernel
theorem dX3_set_62 : decode cX3_set 62 = .ok (.iload_n 3, 1) := by decide +kernel
theorem dX3_set_63 : decode cX3_set 63 = .ok (.iaload, 1) := by decide +kernel
theorem dX3_set_64 : decode cX3_set 64 = .ok (.iload 4, 2) := by decide +kernel
theorem dX3_set_66 : decode cX3_set 66 = .ok (.iconst (-1), 1) := by decide +kernel
theorem dX3_set_67 : decode cX3_set 67 = .ok (.invokevirtual 83, 3) := by decide +kernel
theorem dX3_set_70 : decode cX3_set 70 = .ok (.istore 6, 2) := by decide +kernel
theorem dX3_set_72 : decode cX3_set 72 = .ok (.aload 5, 2) := by decide +kernel
theorem dX3_set_74 : decode cX3_set 74 = .ok (.iload_n 3, 1) := by decide +kernel
theorem dX3_set_75 : decode cX3_set 75 = .ok (.iload 4, 2) := by decide +kernel
theorem dX3_set_77 : decode cX3_set 77 = .ok (.iload 6, 2) := by decide +kernel
theorem dX3_set_79 : decode cX3_set 79 = .ok (.invokevirtual 87, 3) := by decide +kernel
theorem dX3_set_82 : decode cX3_set 82 = .ok (.iload 6, 2) := by decide +kernel
theorem dX3_set_84 : decode cX3_set 84 = .ok (.ireturn, 1) := by decide +kernel
theorem dX3_commit_0 : decode cX3_commit 0 = .ok (.iload_n 1, 1) := by decide +kernel
theorem dX3_commit_1 : decode cX3_commit 1 = .ok (.bipush 8, 2) := by decide +kernel
theorem dX3_commit_3 : decode cX3_commit 3 = .ok (.invokestatic 41, 3) := by decide +kernel
theorem dX3_commit_6 : decode cX3_commit 6 = .ok (.aload_n 0, 1) := by decide +kernel
theorem dX3_commit_7 : decode cX3_commit 7 = .ok (.iload_n 1, 1) := by decide +kernel
theorem dX3_commit_8 : decode cX3_commit 8 = .ok (.invokevirtual 80, 3) := by decide +kernel
theorem dX3_commit_11 : decode cX3_commit 11 = .ok (.aload_n 0, 1) := by decide +kernel
theorem dX3_commit_12 : decode cX3_commit 12 = .ok (.getfield 30, 3) := by decide +kernel
theorem dX3_commit_15 : decode cX3_commit 15 = .ok (.iconst 2, 1) := by decide +kernel
theorem dX3_commit_16 : decode cX3_commit 16 = .ok (.iload_n 1, 1) := by decide +kernel
theorem dX3_commit_17 : decode cX3_commit 17 = .ok (.invokevirtual 91, 3) := by decide +kernel
theorem dX3_commit_20 : decode cX3_commit 20 = .ok (.istore_n 2, 1) := by decide +kernel
theorem dX3_commit_21 : decode cX3_commit 21 = .ok (.aload_n 0, 1) := by decide +kernel
theorem dX3_commit_22 : decode cX3_commit 22 = .ok (.getfield 30, 3) := by decide +kernel
theorem dX3_commit_25 : decode cX3_commit 25 = .ok (.iload_n 2, 1) := by decide +kernel
theorem dX3_commit_26 : decode cX3_commit 26 = .ok (.invokevirtual 94, 3) := by decide +kernel
theorem dX3_commit_29 : decode cX3_commit 29 = .ok (.aload_n 0, 1) := by decide +kernel
theorem dX3_commit_30 : decode cX3_commit 30 = .ok (.getfield 34, 3) := by decide +kernel
theorem dX3_commit_33 : decode cX3_commit 33 = .ok (.iload_n 1, 1) := by decide +kernel
theorem dX3_commit_34 : decode cX3_commit 34 = .ok (.iconst 0, 1) := by decide +kernel
theorem dX3_commit_35 : decode cX3_commit 35 = .ok (.bastore, 1) := by decide +kernel
theorem dX3_commit_36 : decode cX3_commit 36 = .ok (.iload_n 2, 1) := by decide +kernel
theorem dX3_commit_37 : decode cX3_commit 37 = .ok (.ireturn, 1) := by decide +kernel
theorem dX3_abort_0 : decode cX3_abort 0 = .ok (.iload_n 1, 1) := by decide +kernel
theorem dX3_abort_1 : decode cX3_abort 1 = .ok (.bipush 8, 2) := by decide +kernel
theorem dX3_abort_3 : decode cX3_abort 3 = .ok (.invokestatic 41, 3) := by decide +kernel
theorem dX3_abort_6 : decode cX3_abort 6 = .ok (.aload_n 0, 1) := by decide +kernel
theorem dX3_abort_7 : decode cX3_abort 7 = .ok (.iload_n 1, 1) := by decide +kernel
theorem dX3_abort_8 : decode cX3_abort 8 = .ok (.invokevirtual 97, 3) := by decide +kernel
theorem dX3_abort_11 : decode cX3_abort 11 = .ok (.aload_n 0, 1) := by decide +kernel
theorem dX3_abort_12 : decode cX3_abort 12 = .ok (.getfield 38, 3) := by decide +kernel
theorem dX3_abort_15 : decode cX3_abort 15 = .ok (.iload_n 1, 1) := by decide +kernel
theorem dX3_abort_16 : decode cX3_abort 16 = .ok (.iconst 1, 1) := by decide +kernel
theorem dX3_abort_17 : decode cX3_abort 17 = .ok (.bastore, 1) := by decide +kernel
theorem dX3_abort_18 : decode cX3_abort 18 = .ok (.iconst 0, 1) := by decide +kernel
theorem dX3_abort_19 : decode cX3_abort 19 = .ok (.istore_n 2, 1) := by decide +kernel
theorem dX3_abort_20 : decode cX3_abort 20 = .ok (.aload_n 0, 1) := by decide +kernel
theorem dX3_abort_21 : decode cX3_abort 21 = .ok (.getfield 30, 3) := by decide +kernel
theorem dX3_abort_24 : decode cX3_abort 24 = .ok (.getfield 100, 3) := by decide +kernel
theorem dX3_abort_27 : decode cX3_abort 27 = .ok (.istore_n 3, 1) := by decide +kernel
theorem dX3_abort_28 : decode cX3_abort 28 = .ok (.iload_n 3, 1) := by decide +kernel
theorem dX3_abort_29 : decode cX3_abort 29 = .ok (.iconst 1, 1) := by decide +kernel
theorem dX3_abort_30 : decode cX3_abort 30 = .ok (.if_icmp .lt 47, 3) := by decide +kernel
theorem dX3_abort_33 : decode cX3_abort 33 = .ok (.aload_n 0, 1) := by decide +kernel
theorem dX3_abort_34 : decode cX3_abort 34 = .ok (.getfield 30, 3) := by decide +kernel
theorem dX3_abort_37 : decode cX3_abort 37 = .ok (.iload_n 3, 1) := by decide +kernel
theorem dX3_abort_38 : decode cX3_abort 38 = .ok (.invokevirtual 103, 3) := by decide +kernel
theorem dX3_abort_41 : decode cX3_abort 41 = .ok (.ifCond .eq 30, 3) := by decide +kernel
theorem dX3_abort_44 : decode cX3_abort 44 = .ok (.aload_n 0, 1) := by decide +kernel
theorem dX3_abort_45 : decode cX3_abort 45 = .ok (.getfield 30, 3) := by decide +kernel
theorem dX3_abort_48 : decode cX3_abort 48 = .ok (.iload_n 3, 1) := by decide +kernel
theorem dX3_abort_49 : decode cX3_abort 49 = .ok (.iconst 1, 1) := by decide +kernel
theorem dX3_abort_50 : decode cX3_abort 50 = .ok (.invokevirtual 106, 3) := by decide +kernel
theorem dX3_abort_53 : decode cX3_abort 53 = .ok (.iload_n 1, 1) := by decide +kernel
theorem dX3_abort_54 : decode cX3_abort 54 = .ok (.if_icmp .ne 17, 3) := by decide +kernel
theorem dX3_abort_57 : decode cX3_abort 57 = .ok (.aload_n 0, 1) := by decide +kernel
theorem dX3_abort_58 : decode cX3_abort 58 = .ok (.iload_n 3, 1) := by decide +kernel
theorem dX3_abort_59 : decode cX3_abort 59 = .ok (.invokevirtual 109, 3) := by decide +kernel
theorem dX3_abort_62 : decode cX3_abort 62 = .ok (.ifCond .ne 6, 3) := by decide +kernel
theorem dX3_abort_65 : decode cX3_abort 65 = .ok (.bipush (-2), 2) := by decide +kernel
theorem dX3_abort_67 : decode cX3_abort 67 = .ok (.ireturn, 1) := by decide +kernel
theorem dX3_abort_68 : decode cX3_abort 68 = .ok (.iinc 2 1, 3) := by decide +kernel
theorem dX3_abort_71 : decode cX3_abort 71 = .ok (.iinc 3 (-1), 3) := by decide +kernel
theorem dX3_abort_74 : decode cX3_abort 74 = .ok (.goto (-46), 3) := by decide +kernel
theorem dX3_abort_77 : decode cX3_abort 77 = .ok (.aload_n 0, 1) := by decide +kernel
theorem dX3_abort_78 : decode cX3_abort 78 = .ok (.getfield 30, 3) := by decide +kernel
theorem dX3_abort_81 : decode cX3_abort 81 = .ok (.iconst 3, 1) := by decide +kernel
theorem dX3_abort_82 : decode cX3_abort 82 = .ok (.iload_n 1, 1) := by decide +kernel
theorem dX3_abort_83 : decode cX3_abort 83 = .ok (.invokevirtual 91, 3) := by decide +kernel
theorem dX3_abort_86 : decode cX3_abort 86 = .ok (.pop, 1) := by decide +kernel
theorem dX3_abort_87 : decode cX3_abort 87 = .ok (.aload_n 0, 1) := by decide +kernel
theorem dX3_abort_88 : decode cX3_abort 88 = .ok (.getfield 34, 3) := by decide +kernel
theorem dX3_abort_91 : decode cX3_abort 91 = .ok (.iload_n 1, 1) := by decide +kernel
theorem dX3_abort_92 : decode cX3_abort 92 = .ok (.iconst 0, 1) := by decide +kernel
theorem dX3_abort_93 : decode cX3_abort 93 = .ok (.bastore, 1) := by decide +kernel
theorem dX3_abort_94 : decode cX3_abort 94 = .ok (.aload_n 0, 1) := by decide +kernel
theorem dX3_abort_95 : decode cX3_abort 95 = .ok (.getfield 38, 3) := by decide +kernel
theorem dX3_abort_98 : decode cX3_abort 98 = .ok (.iload_n 1, 1) := by decide +kernel
theorem dX3_abort_99 : decode cX3_abort 99 = .ok (.iconst 0, 1) := by decide +kernel
theorem dX3_abort_100 : decode cX3_abort 100 = .ok (.bastore, 1) := by decide +kernel
theorem dX3_abort_101 : decode cX3_abort 101 = .ok (.iload_n 2, 1) := by decide +kernel
theorem dX3_abort_102 : decode cX3_abort 102 = .ok (.ireturn, 1) := by decide +kernel
theorem dX3_flush_0 : decode cX3_flush 0 = .ok (.iload_n 1, 1) := by decide +kernel
theorem dX3_flush_1 : decode cX3_flush 1 = .ok (.ifCond .ge 11, 3) := by decide +kernel
theorem dX3_flush_4 : decode cX3_flush 4 = .ok (.new 112, 3) := by decide +kernel
theorem dX3_flush_7 : decode cX3_flush 7 = .ok (.dup, 1) := by decide +kernel
theorem dX3_flush_8 : decode cX3_flush 8 = .ok (.invokespecial 114, 3) := by decide +kernel
theorem dX3_flush_11 : decode cX3_flush 11 = .ok (.athrow, 1) := by decide +kernel
theorem dX3_flush_12 : decode cX3_flush 12 = .ok (.aload_n 0, 1) := by decide +kernel
theorem dX3_flush_13 : decode cX3_flush 13 = .ok (.getfield 30, 3) := by decide +kernel
theorem dX3_flush_16 : decode cX3_flush 16 = .ok (.iload_n 1, 1) := by decide +kernel
theorem dX3_flush_17 : decode cX3_flush 17 = .ok (.invokevirtual 94, 3) := by decide +kernel
theorem dX3_flush_20 : decode cX3_flush 20 = .ok (.aload_n 0, 1) := by decide +kernel
theorem dX3_flush_21 : decode cX3_flush 21 = .ok (.getfield 30, 3) := by decide +kernel
theorem dX3_flush_24 : decode cX3_flush 24 = .ok (.getfield 45, 3) := by decide +kernel
theorem dX3_flush_27 : decode cX3_flush 27 = .ok (.ireturn, 1) := by decide +kernel
theorem dX3_clean_0 : decode cX3_clean 0 = .ok (.iload_n 1, 1) := by decide +kernel
theorem dX3_clean_1 : decode cX3_clean 1 = .ok (.bipush 32, 2) := by decide +kernel
theorem dX3_clean_3 : decode cX3_clean 3 = .ok (.invokestatic 41, 3) := by decide +kernel
theorem dX3_clean_6 : decode cX3_clean 6 = .ok (.aload_n 0, 1) := by decide +kernel
theorem dX3_clean_7 : decode cX3_clean 7 = .ok (.getfield 23, 3) := by decide +kernel
theorem dX3_clean_10 : decode cX3_clean 10 = .ok (.iload_n 1, 1) := by decide +kernel
theorem dX3_clean_11 : decode cX3_clean 11 = .ok (.invokevirtual 115, 3) := by decide +kernel
theorem dX3_clean_14 : decode cX3_clean 14 = .ok (.istore_n 2, 1) := by decide +kernel
theorem dX3_clean_15 : decode cX3_clean 15 = .ok (.iload_n 2, 1) := by decide +kernel
theorem dX3_clean_16 : decode cX3_clean 16 = .ok (.ifCond .ge 5, 3) := by decide +kernel
theorem dX3_clean_19 : decode cX3_clean 19 = .ok (.iconst 0, 1) := by decide +kernel
theorem dX3_clean_20 : decode cX3_clean 20 = .ok (.ireturn, 1) := by decide +kernel
theorem dX3_clean_21 : decode cX3_clean 21 = .ok (.aload_n 0, 1) := by decide +kernel
theorem dX3_clean_22 : decode cX3_clean 22 = .ok (.getfield 23, 3) := by decide +kernel
theorem dX3_clean_25 : decode cX3_clean 25 = .ok (.getfield 52, 3) := by decide +kernel
theorem dX3_clean_28 : decode cX3_clean 28 = .ok (.iload_n 2, 1) := by decide +kernel
theorem dX3_clean_29 : decode cX3_clean 29 = .ok (.aaload, 1) := by decide +kernel
theorem dX3_clean_30 : decode cX3_clean 30 = .ok (.astore_n 3, 1) := by decide +kernel
theorem dX3_clean_31 : decode cX3_clean 31 = .ok (.aload_n 3, 1) := by decide +kernel
theorem dX3_clean_32 : decode cX3_clean 32 = .ok (.getfield 119, 3) := by decide +kernel
theorem dX3_clean_35 : decode cX3_clean 35 = .ok (.ifCond .eq 20, 3) := by decide +kernel
theorem dX3_clean_38 : decode cX3_clean 38 = .ok (.aload_n 3, 1) := by decide +kernel
theorem dX3_clean_39 : decode cX3_clean 39 = .ok (.getfield 65, 3) := by decide +kernel
theorem dX3_clean_42 : decode cX3_clean 42 = .ok (.bipush 8, 2) := by decide +kernel
theorem dX3_clean_44 : decode cX3_clean 44 = .ok (.iaload, 1) := by decide +kernel
theorem dX3_clean_45 : decode cX3_clean 45 = .ok (.aload_n 0, 1) := by decide +kernel
theorem dX3_clean_46 : decode cX3_clean 46 = .ok (.getfield 30, 3) := by decide +kernel
theorem dX3_clean_49 : decode cX3_clean 49 = .ok (.getfield 45, 3) := by decide +kernel
theorem dX3_clean_52 : decode cX3_clean 52 = .ok (.if_icmp .le 5, 3) := by decide +kernel
theorem dX3_clean_55 : decode cX3_clean 55 = .ok (.iconst 0, 1) := by decide +kernel
theorem dX3_clean_56 : decode cX3_clean 56 = .ok (.ireturn, 1) := by decide +kernel
theorem dX3_clean_57 : decode cX3_clean 57 = .ok (.aload_n 0, 1) := by decide +kernel
theorem dX3_clean_58 : decode cX3_clean 58 = .ok (.getfield 23, 3) := by decide +kernel
theorem dX3_clean_61 : decode cX3_clean 61 = .ok (.aload_n 3, 1) := by decide +kernel
theorem dX3_clean_62 : decode cX3_clean 62 = .ok (.invokevirtual 123, 3) := by decide +kernel
theorem dX3_clean_65 : decode cX3_clean 65 = .ok (.iconst 1, 1) := by decide +kernel
theorem dX3_clean_66 : decode cX3_clean 66 = .ok (.ireturn, 1) := by decide +kernel
theorem dX3_crash_0 : decode cX3_crash 0 = .ok (.aload_n 0, 1) := by decide +kernel
theorem dX3_crash_1 : decode cX3_crash 1 = .ok (.getfield 30, 3) := by decide +kernel
theorem dX3_crash_4 : decode cX3_crash 4 = .ok (.invokevirtual 127, 3) := by decide +kernel
theorem dX3_crash_7 : decode cX3_crash 7 = .ok (.istore_n 1, 1) := by decide +kernel
theorem dX3_crash_8 : decode cX3_crash 8 = .ok (.aload_n 0, 1) := by decide +kernel
theorem dX3_crash_9 : decode cX3_crash 9 = .ok (.getfield 23, 3) := by decide +kernel
theorem dX3_crash_12 : decode cX3_crash 12 = .ok (.invokevirtual 130, 3) := by decide +kernel
theorem dX3_crash_15 : decode cX3_crash 15 = .ok (.aload_n 0, 1) := by decide +kernel
theorem dX3_crash_16 : decode cX3_crash 16 = .ok (.invokevirtual 133, 3) := by decide +kernel
theorem dX3_crash_19 : decode cX3_crash 19 = .ok (.aload_n 0, 1) := by decide +kernel
theorem dX3_crash_20 : decode cX3_crash 20 = .ok (.invokevirtual 136, 3) := by decide +kernel
theorem dX3_crash_23 : decode cX3_crash 23 = .ok (.aload_n 0, 1) := by decide +kernel
theorem dX3_crash_24 : decode cX3_crash 24 = .ok (.aload_n 0, 1) := by decide +kernel
theorem dX3_crash_25 : decode cX3_crash 25 = .ok (.invokevirtual 139, 3) := by decide +kernel
theorem dX3_crash_28 : decode cX3_crash 28 = .ok (.putfield 142, 3) := by decide +kernel
theorem dX3_crash_31 : decode cX3_crash 31 = .ok (.aload_n 0, 1) := by decide +kernel
theorem dX3_crash_32 : decode cX3_crash 32 = .ok (.invokevirtual 145, 3) := by decide +kernel
theorem dX3_crash_35 : decode cX3_crash 35 = .ok (.aload_n 0, 1) := by decide +kernel
theorem dX3_crash_36 : decode cX3_crash 36 = .ok (.getfield 30, 3) := by decide +kernel
theorem dX3_crash_39 : decode cX3_crash 39 = .ok (.aload_n 0, 1) := by decide +kernel
theorem dX3_crash_40 : decode cX3_crash 40 = .ok (.getfield 30, 3) := by decide +kernel
theorem dX3_crash_43 : decode cX3_crash 43 = .ok (.getfield 100, 3) := by decide +kernel
theorem dX3_crash_46 : decode cX3_crash 46 = .ok (.invokevirtual 94, 3) := by decide +kernel
theorem dX3_crash_49 : decode cX3_crash 49 = .ok (.aload_n 0, 1) := by decide +kernel
theorem dX3_crash_50 : decode cX3_crash 50 = .ok (.dup, 1) := by decide +kernel
theorem dX3_crash_51 : decode cX3_crash 51 = .ok (.getfield 148, 3) := by decide +kernel
theorem dX3_crash_54 : decode cX3_crash 54 = .ok (.iconst 1, 1) := by decide +kernel
theorem dX3_crash_55 : decode cX3_crash 55 = .ok (.iadd, 1) := by decide +kernel
theorem dX3_crash_56 : decode cX3_crash 56 = .ok (.putfield 148, 3) := by decide +kernel
theorem dX3_crash_59 : decode cX3_crash 59 = .ok (.iload_n 1, 1) := by decide +kernel
theorem dX3_crash_60 : decode cX3_crash 60 = .ok (.ireturn, 1) := by decide +kernel
theorem dX3_disk_0 : decode cX3_disk 0 = .ok (.iload_n 1, 1) := by decide +kernel
theorem dX3_disk_1 : decode cX3_disk 1 = .ok (.bipush 32, 2) := by decide +kernel
theorem dX3_disk_3 : decode cX3_disk 3 = .ok (.invokestatic 41, 3) := by decide +kernel
theorem dX3_disk_6 : decode cX3_disk 6 = .ok (.iload_n 2, 1) := by decide +kernel
theorem dX3_disk_7 : decode cX3_disk 7 = .ok (.bipush 9, 2) := by decide +kernel
theorem dX3_disk_9 : decode cX3_disk 9 = .ok (.invokestatic 41, 3) := by decide +kernel
theorem dX3_disk_12 : decode cX3_disk 12 = .ok (.aload_n 0, 1) := by decide +kernel
theorem dX3_disk_13 : decode cX3_disk 13 = .ok (.getfield 23, 3) := by decide +kernel
theorem dX3_disk_16 : decode cX3_disk 16 = .ok (.getfield 151, 3) := by decide +kernel
theorem dX3_disk_19 : decode cX3_disk 19 = .ok (.iload_n 1, 1) := by decide +kernel
theorem dX3_disk_20 : decode cX3_disk 20 = .ok (.aaload, 1) := by decide +kernel
theorem dX3_disk_21 : decode cX3_disk 21 = .ok (.iload_n 2, 1) := by decide +kernel
theorem dX3_disk_22 : decode cX3_disk 22 = .ok (.iaload, 1) := by decide +kernel
theorem dX3_disk_23 : decode cX3_disk 23 = .ok (.ireturn, 1) := by decide +kernel
theorem dX3_frame_0 : decode cX3_frame 0 = .ok (.iload_n 1, 1) := by decide +kernel
theorem dX3_frame_1 : decode cX3_frame 1 = .ok (.aload_n 0, 1) := by decide +kernel
theorem dX3_frame_2 : decode cX3_frame 2 = .ok (.getfield 23, 3) := by decide +kernel
theorem dX3_frame_5 : decode cX3_frame 5 = .ok (.getfield 52, 3) := by decide +kernel
theorem dX3_frame_8 : decode cX3_frame 8 = .ok (.arraylength, 1) := by decide +kernel
theorem dX3_frame_9 : decode cX3_frame 9 = .ok (.invokestatic 41, 3) := by decide +kernel
theorem dX3_frame_12 : decode cX3_frame 12 = .ok (.aload_n 0, 1) := by decide +kernel
theorem dX3_frame_13 : decode cX3_frame 13 = .ok (.getfield 23, 3) := by decide +kernel
theorem dX3_frame_16 : decode cX3_frame 16 = .ok (.getfield 52, 3) := by decide +kernel
theorem dX3_frame_19 : decode cX3_frame 19 = .ok (.iload_n 1, 1) := by decide +kernel
theorem dX3_frame_20 : decode cX3_frame 20 = .ok (.aaload, 1) := by decide +kernel
theorem dX3_frame_21 : decode cX3_frame 21 = .ok (.astore_n 3, 1) := by decide +kernel
theorem dX3_frame_22 : decode cX3_frame 22 = .ok (.iload_n 2, 1) := by decide +kernel
theorem dX3_frame_23 : decode cX3_frame 23 = .ok (.tableswitch 77 0 4 #[33, 38, 43, 56, 69], 33) := by decide +kernel
theorem dX3_frame_56 : decode cX3_frame 56 = .ok (.aload_n 3, 1) := by decide +kernel
theorem dX3_frame_57 : decode cX3_frame 57 = .ok (.getfield 155, 3) := by decide +kernel
theorem dX3_frame_60 : decode cX3_frame 60 = .ok (.ireturn, 1) := by decide +kernel
theorem dX3_frame_61 : decode cX3_frame 61 = .ok (.aload_n 3, 1) := by decide +kernel
theorem dX3_frame_62 : decode cX3_frame 62 = .ok (.getfield 56, 3) := by decide +kernel
theorem dX3_frame_65 : decode cX3_frame 65 = .ok (.ireturn, 1) := by decide +kernel
theorem dX3_frame_66 : decode cX3_frame 66 = .ok (.aload_n 3, 1) := by decide +kernel
theorem dX3_frame_67 : decode cX3_frame 67 = .ok (.getfield 119, 3) := by decide +kernel
theorem dX3_frame_70 : decode cX3_frame 70 = .ok (.ifCond .eq 7, 3) := by decide +kernel
theorem dX3_frame_73 : decode cX3_frame 73 = .ok (.iconst 1, 1) := by decide +kernel
theorem dX3_frame_74 : decode cX3_frame 74 = .ok (.goto 4, 3) := by decide +kernel
theorem dX3_frame_77 : decode cX3_frame 77 = .ok (.iconst 0, 1) := by decide +kernel
theorem dX3_frame_78 : decode cX3_frame 78 = .ok (.ireturn, 1) := by decide +kernel
theorem dX3_frame_79 : decode cX3_frame 79 = .ok (.aload_n 3, 1) := by decide +kernel
theorem dX3_frame_80 : decode cX3_frame 80 = .ok (.getfield 158, 3) := by decide +kernel
theorem dX3_frame_83 : decode cX3_frame 83 = .ok (.ifCond .eq 7, 3) := by decide +kernel
theorem dX3_frame_86 : decode cX3_frame 86 = .ok (.iconst 1, 1) := by decide +kernel
theorem dX3_frame_87 : decode cX3_frame 87 = .ok (.goto 4, 3) := by decide +kernel
theorem dX3_frame_90 : decode cX3_frame 90 = .ok (.iconst 0, 1) := by decide +kernel
theorem dX3_frame_91 : decode cX3_frame 91 = .ok (.ireturn, 1) := by decide +kernel
theorem dX3_frame_92 : decode cX3_frame 92 = .ok (.aload_n 3, 1) := by decide +kernel
theorem dX3_frame_93 : decode cX3_frame 93 = .ok (.getfield 65, 3) := by decide +kernel
theorem dX3_frame_96 : decode cX3_frame 96 = .ok (.bipush 8, 2) := by decide +kernel
theorem dX3_frame_98 : decode cX3_frame 98 = .ok (.iaload, 1) := by decide +kernel
theorem dX3_frame_99 : decode cX3_frame 99 = .ok (.ireturn, 1) := by decide +kernel
theorem dX3_frame_100 : decode cX3_frame 100 = .ok (.new 112, 3) := by decide +kernel
theorem dX3_frame_103 : decode cX3_frame 103 = .ok (.dup, 1) := by decide +kernel
theorem dX3_frame_104 : decode cX3_frame 104 = .ok (.invokespecial 114, 3) := by decide +kernel
theorem dX3_frame_107 : decode cX3_frame 107 = .ok (.athrow, 1) := by decide +kernel
theorem dX3_log_0 : decode cX3_log 0 = .ok (.iload_n 2, 1) := by decide +kernel
theorem dX3_log_1 : decode cX3_log 1 = .ok (.bipush 7, 2) := by decide +kernel
theorem dX3_log_3 : decode cX3_log 3 = .ok (.invokestatic 41, 3) := by decide +kernel
theorem dX3_log_6 : decode cX3_log 6 = .ok (.iload_n 1, 1) := by decide +kernel
theorem dX3_log_7 : decode cX3_log 7 = .ok (.iconst 1, 1) := by decide +kernel
theorem dX3_log_8 : decode cX3_log 8 = .ok (.if_icmp .lt 14, 3) := by decide +kernel
theorem dX3_log_11 : decode cX3_log 11 = .ok (.iload_n 1, 1) := by decide +kernel
theorem dX3_log_12 : decode cX3_log 12 = .ok (.aload_n 0, 1) := by decide +kernel
theorem dX3_log_13 : decode cX3_log 13 = .ok (.getfield 30, 3) := by decide +kernel
theorem dX3_log_16 : decode cX3_log 16 = .ok (.getfield 100, 3) := by decide +kernel
theorem dX3_log_19 : decode cX3_log 19 = .ok (.if_icmp .le 11, 3) := by decide +kernel
theorem dX3_log_22 : decode cX3_log 22 = .ok (.new 112, 3) := by decide +kernel
theorem dX3_log_25 : decode cX3_log 25 = .ok (.dup, 1) := by decide +kernel
theorem dX3_log_26 : decode cX3_log 26 = .ok (.invokespecial 114, 3) := by decide +kernel
theorem dX3_log_29 : decode cX3_log 29 = .ok (.athrow, 1) := by decide +kernel
theorem dX3_log_30 : decode cX3_log 30 = .ok (.aload_n 0, 1) := by decide +kernel
theorem dX3_log_31 : decode cX3_log 31 = .ok (.getfield 30, 3) := by decide +kernel
theorem dX3_log_34 : decode cX3_log 34 = .ok (.iload_n 1, 1) := by decide +kernel
theorem dX3_log_35 : decode cX3_log 35 = .ok (.iload_n 2, 1) := by decide +kernel
theorem dX3_log_36 : decode cX3_log 36 = .ok (.invokevirtual 106, 3) := by decide +kernel
theorem dX3_log_39 : decode cX3_log 39 = .ok (.ireturn, 1) := by decide +kernel
theorem dX3_count_0 : decode cX3_count 0 = .ok (.iload_n 1, 1) := by decide +kernel
theorem dX3_count_1 : decode cX3_count 1 = .ok (.tableswitch 102 0 7 #[47, 55, 63, 68, 76, 84, 92, 97], 47) := by decide +kernel
theorem dX3_count_48 : decode cX3_count 48 = .ok (.aload_n 0, 1) := by decide +kernel
theorem dX3_count_49 : decode cX3_count 49 = .ok (.getfield 30, 3) := by decide +kernel
theorem dX3_count_52 : decode cX3_count 52 = .ok (.getfield 100, 3) := by decide +kernel
theorem dX3_count_55 : decode cX3_count 55 = .ok (.ireturn, 1) := by decide +kernel
theorem dX3_count_56 : decode cX3_count 56 = .ok (.aload_n 0, 1) := by decide +kernel
theorem dX3_count_57 : decode cX3_count 57 = .ok (.getfield 30, 3) := by decide +kernel
theorem dX3_count_60 : decode cX3_count 60 = .ok (.getfield 45, 3) := by decide +kernel
theorem dX3_count_63 : decode cX3_count 63 = .ok (.ireturn, 1) := by decide +kernel
theorem dX3_count_64 : decode cX3_count 64 = .ok (.aload_n 0, 1) := by decide +kernel
theorem dX3_count_65 : decode cX3_count 65 = .ok (.invokevirtual 73, 3) := by decide +kernel
theorem dX3_count_68 : decode cX3_count 68 = .ok (.ireturn, 1) := by decide +kernel
theorem dX3_count_69 : decode cX3_count 69 = .ok (.aload_n 0, 1) := by decide +kernel
theorem dX3_count_70 : decode cX3_count 70 = .ok (.getfield 23, 3) := by decide +kernel
theorem dX3_count_73 : decode cX3_count 73 = .ok (.getfield 161, 3) := by decide +kernel
theorem dX3_count_76 : decode cX3_count 76 = .ok (.ireturn, 1) := by decide +kernel
theorem dX3_count_77 : decode cX3_count 77 = .ok (.aload_n 0, 1) := by decide +kernel
theorem dX3_count_78 : decode cX3_count 78 = .ok (.getfield 23, 3) := by decide +kernel
theorem dX3_count_81 : decode cX3_count 81 = .ok (.getfield 164, 3) := by decide +kernel
theorem dX3_count_84 : decode cX3_count 84 = .ok (.ireturn, 1) := by decide +kernel
theorem dX3_count_85 : decode cX3_count 85 = .ok (.aload_n 0, 1) := by decide +kernel
theorem dX3_count_86 : decode cX3_count 86 = .ok (.getfield 23, 3) := by decide +kernel
theorem dX3_count_89 : decode cX3_count 89 = .ok (.getfield 167, 3) := by decide +kernel
theorem dX3_count_92 : decode cX3_count 92 = .ok (.ireturn, 1) := by decide +kernel
theorem dX3_count_93 : decode cX3_count 93 = .ok (.aload_n 0, 1) := by decide +kernel
theorem dX3_count_94 : decode cX3_count 94 = .ok (.getfield 148, 3) := by decide +kernel
theorem dX3_count_97 : decode cX3_count 97 = .ok (.ireturn, 1) := by decide +kernel
theorem dX3_count_98 : decode cX3_count 98 = .ok (.aload_n 0, 1) := by decide +kernel
theorem dX3_count_99 : decode cX3_count 99 = .ok (.getfield 142, 3) := by decide +kernel
theorem dX3_count_102 : decode cX3_count 102 = .ok (.ireturn, 1) := by decide +kernel
theorem dX3_count_103 : decode cX3_count 103 = .ok (.new 112, 3) := by decide +kernel
theorem dX3_count_106 : decode cX3_count 106 = .ok (.dup, 1) := by decide +kernel
theorem dX3_count_107 : decode cX3_count 107 = .ok (.invokespecial 114, 3) := by decide +kernel
theorem dX3_count_110 : decode cX3_count 110 = .ok (.athrow, 1) := by decide +kernel
theorem dX3_checkBelow_0 : decode cX3_checkBelow 0 = .ok (.iload_n 0, 1) := by decide +kernel
theorem dX3_checkBelow_1 : decode cX3_checkBelow 1 = .ok (.ifCond .lt 8, 3) := by decide +kernel
theorem dX3_checkBelow_4 : decode cX3_checkBelow 4 = .ok (.iload_n 0, 1) := by decide +kernel
theorem dX3_checkBelow_5 : decode cX3_checkBelow 5 = .ok (.iload_n 1, 1) := by decide +kernel
theorem dX3_checkBelow_6 : decode cX3_checkBelow 6 = .ok (.if_icmp .lt 11, 3) := by decide +kernel
theorem dX3_checkBelow_9 : decode cX3_checkBelow 9 = .ok (.new 112, 3) := by decide +kernel
theorem dX3_checkBelow_12 : decode cX3_checkBelow 12 = .ok (.dup, 1) := by decide +kernel
theorem dX3_checkBelow_13 : decode cX3_checkBelow 13 = .ok (.invokespecial 114, 3) := by decide +kernel
theorem dX3_checkBelow_16 : decode cX3_checkBelow 16 = .ok (.athrow, 1) := by decide +kernel
theorem dX3_checkBelow_17 : decode cX3_checkBelow 17 = .ok (.return_, 1) := by decide +kernel
theorem dX3_checkActive_0 : decode cX3_checkActive 0 = .ok (.aload_n 0, 1) := by decide +kernel
theorem dX3_checkActive_1 : decode cX3_checkActive 1 = .ok (.getfield 34, 3) := by decide +kernel
theorem dX3_checkActive_4 : decode cX3_checkActive 4 = .ok (.iload_n 1, 1) := by decide +kernel
theorem dX3_checkActive_5 : decode cX3_checkActive 5 = .ok (.baload, 1) := by decide +kernel
theorem dX3_checkActive_6 : decode cX3_checkActive 6 = .ok (.ifCond .ne 11, 3) := by decide +kernel
theorem dX3_checkActive_9 : decode cX3_checkActive 9 = .ok (.new 170, 3) := by decide +kernel
theorem dX3_checkActive_12 : decode cX3_checkActive 12 = .ok (.dup, 1) := by decide +kernel
theorem dX3_checkActive_13 : decode cX3_checkActive 13 = .ok (.invokespecial 172, 3) := by decide +kernel
theorem dX3_checkActive_16 : decode cX3_checkActive 16 = .ok (.athrow, 1) := by decide +kernel
theorem dX3_checkActive_17 : decode cX3_checkActive 17 = .ok (.return_, 1) := by decide +kernel
theorem dX3_checkGoesOn_0 : decode cX3_checkGoesOn 0 = .ok (.aload_n 0, 1) := by decide +kernel
theorem dX3_checkGoesOn_1 : decode cX3_checkGoesOn 1 = .ok (.iload_n 1, 1) := by decide +kernel
theorem dX3_checkGoesOn_2 : decode cX3_checkGoesOn 2 = .ok (.invokevirtual 97, 3) := by decide +kernel
theorem dX3_checkGoesOn_5 : decode cX3_checkGoesOn 5 = .ok (.aload_n 0, 1) := by decide +kernel
theorem dX3_checkGoesOn_6 : decode cX3_checkGoesOn 6 = .ok (.getfield 38, 3) := by decide +kernel
theorem dX3_checkGoesOn_9 : decode cX3_checkGoesOn 9 = .ok (.iload_n 1, 1) := by decide +kernel
theorem dX3_checkGoesOn_10 : decode cX3_checkGoesOn 10 = .ok (.baload, 1) := by decide +kernel
theorem dX3_checkGoesOn_11 : decode cX3_checkGoesOn 11 = .ok (.ifCond .eq 11, 3) := by decide +kernel
theorem dX3_checkGoesOn_14 : decode cX3_checkGoesOn 14 = .ok (.new 170, 3) := by decide +kernel
theorem dX3_checkGoesOn_17 : decode cX3_checkGoesOn 17 = .ok (.dup, 1) := by decide +kernel
theorem dX3_checkGoesOn_18 : decode cX3_checkGoesOn 18 = .ok (.invokespecial 172, 3) := by decide +kernel
theorem dX3_checkGoesOn_21 : decode cX3_checkGoesOn 21 = .ok (.athrow, 1) := by decide +kernel
theorem dX3_checkGoesOn_22 : decode cX3_checkGoesOn 22 = .ok (.return_, 1) := by decide +kernel
theorem dX3_pinnedFrame_0 : decode cX3_pinnedFrame 0 = .ok (.aload_n 0, 1) := by decide +kernel
theorem dX3_pinnedFrame_1 : decode cX3_pinnedFrame 1 = .ok (.getfield 23, 3) := by decide +kernel
theorem dX3_pinnedFrame_4 : decode cX3_pinnedFrame 4 = .ok (.iload_n 1, 1) := by decide +kernel
theorem dX3_pinnedFrame_5 : decode cX3_pinnedFrame 5 = .ok (.invokevirtual 115, 3) := by decide +kernel
theorem dX3_pinnedFrame_8 : decode cX3_pinnedFrame 8 = .ok (.istore_n 2, 1) := by decide +kernel
theorem dX3_pinnedFrame_9 : decode cX3_pinnedFrame 9 = .ok (.iload_n 2, 1) := by decide +kernel
theorem dX3_pinnedFrame_10 : decode cX3_pinnedFrame 10 = .ok (.ifCond .lt 18, 3) := by decide +kernel
theorem dX3_pinnedFrame_13 : decode cX3_pinnedFrame 13 = .ok (.aload_n 0, 1) := by decide +kernel
theorem dX3_pinnedFrame_14 : decode cX3_pinnedFrame 14 = .ok (.getfield 23, 3) := by decide +kernel
theorem dX3_pinnedFrame_17 : decode cX3_pinnedFrame 17 = .ok (.getfield 52, 3) := by decide +kernel
theorem dX3_pinnedFrame_20 : decode cX3_pinnedFrame 20 = .ok (.iload_n 2, 1) := by decide +kernel
theorem dX3_pinnedFrame_21 : decode cX3_pinnedFrame 21 = .ok (.aaload, 1) := by decide +kernel
theorem dX3_pinnedFrame_22 : decode cX3_pinnedFrame 22 = .ok (.getfield 56, 3) := by decide +kernel
theorem dX3_pinnedFrame_25 : decode cX3_pinnedFrame 25 = .ok (.ifCond .ne 11, 3) := by decide +kernel
theorem dX3_pinnedFrame_28 : decode cX3_pinnedFrame 28 = .ok (.new 170, 3) := by decide +kernel
theorem dX3_pinnedFrame_31 : decode cX3_pinnedFrame 31 = .ok (.dup, 1) := by decide +kernel
theorem dX3_pinnedFrame_32 : decode cX3_pinnedFrame 32 = .ok (.invokespecial 172, 3) := by decide +kernel
theorem dX3_pinnedFrame_35 : decode cX3_pinnedFrame 35 = .ok (.athrow, 1) := by decide +kernel
theorem dX3_pinnedFrame_36 : decode cX3_pinnedFrame 36 = .ok (.aload_n 0, 1) := by decide +kernel
theorem dX3_pinnedFrame_37 : decode cX3_pinnedFrame 37 = .ok (.getfield 23, 3) := by decide +kernel
theorem dX3_pinnedFrame_40 : decode cX3_pinnedFrame 40 = .ok (.getfield 52, 3) := by decide +kernel
theorem dX3_pinnedFrame_43 : decode cX3_pinnedFrame 43 = .ok (.iload_n 2, 1) := by decide +kernel
theorem dX3_pinnedFrame_44 : decode cX3_pinnedFrame 44 = .ok (.aaload, 1) := by decide +kernel
theorem dX3_pinnedFrame_45 : decode cX3_pinnedFrame 45 = .ok (.areturn, 1) := by decide +kernel
theorem dX3_leastInactive_0 : decode cX3_leastInactive 0 = .ok (.iconst 0, 1) := by decide +kernel
theorem dX3_leastInactive_1 : decode cX3_leastInactive 1 = .ok (.istore_n 1, 1) := by decide +kernel
theorem dX3_leastInactive_2 : decode cX3_leastInactive 2 = .ok (.iload_n 1, 1) := by decide +kernel
theorem dX3_leastInactive_3 : decode cX3_leastInactive 3 = .ok (.bipush 8, 2) := by decide +kernel
theorem dX3_leastInactive_5 : decode cX3_leastInactive 5 = .ok (.if_icmp .ge 20, 3) := by decide +kernel
theorem dX3_leastInactive_8 : decode cX3_leastInactive 8 = .ok (.aload_n 0, 1) := by decide +kernel
theorem dX3_leastInactive_9 : decode cX3_leastInactive 9 = .ok (.getfield 34, 3) := by decide +kernel
theorem dX3_leastInactive_12 : decode cX3_leastInactive 12 = .ok (.iload_n 1, 1) := by decide +kernel
theorem dX3_leastInactive_13 : decode cX3_leastInactive 13 = .ok (.baload, 1) := by decide +kernel
theorem dX3_leastInactive_14 : decode cX3_leastInactive 14 = .ok (.ifCond .ne 5, 3) := by decide +kernel
theorem dX3_leastInactive_17 : decode cX3_leastInactive 17 = .ok (.iload_n 1, 1) := by decide +kernel
theorem dX3_leastInactive_18 : decode cX3_leastInactive 18 = .ok (.ireturn, 1) := by decide +kernel
theorem dX3_leastInactive_19 : decode cX3_leastInactive 19 = .ok (.iinc 1 1, 3) := by decide +kernel
theorem dX3_leastInactive_22 : decode cX3_leastInactive 22 = .ok (.goto (-20), 3) := by decide +kernel
theorem dX3_leastInactive_25 : decode cX3_leastInactive 25 = .ok (.iconst (-1), 1) := by decide +kernel
theorem dX3_leastInactive_26 : decode cX3_leastInactive 26 = .ok (.ireturn, 1) := by decide +kernel
theorem dX3_activeOnes_0 : decode cX3_activeOnes 0 = .ok (.iconst 0, 1) := by decide +kernel
theorem dX3_activeOnes_1 : decode cX3_activeOnes 1 = .ok (.istore_n 1, 1) := by decide +kernel
theorem dX3_activeOnes_2 : decode cX3_activeOnes 2 = .ok (.iconst 0, 1) := by decide +kernel
theorem dX3_activeOnes_3 : decode cX3_activeOnes 3 = .ok (.istore_n 2, 1) := by decide +kernel
theorem dX3_activeOnes_4 : decode cX3_activeOnes 4 = .ok (.iload_n 2, 1) := by decide +kernel
theorem dX3_activeOnes_5 : decode cX3_activeOnes 5 = .ok (.bipush 8, 2) := by decide +kernel
theorem dX3_activeOnes_7 : decode cX3_activeOnes 7 = .ok (.if_icmp .ge 21, 3) := by decide +kernel
theorem dX3_activeOnes_10 : decode cX3_activeOnes 10 = .ok (.aload_n 0, 1) := by decide +kernel
theorem dX3_activeOnes_11 : decode cX3_activeOnes 11 = .ok (.getfield 34, 3) := by decide +kernel
theorem dX3_activeOnes_14 : decode cX3_activeOnes 14 = .ok (.iload_n 2, 1) := by decide +kernel
theorem dX3_activeOnes_15 : decode cX3_activeOnes 15 = .ok (.baload, 1) := by decide +kernel
theorem dX3_activeOnes_16 : decode cX3_activeOnes 16 = .ok (.ifCond .eq 6, 3) := by decide +kernel
theorem dX3_activeOnes_19 : decode cX3_activeOnes 19 = .ok (.iinc 1 1, 3) := by decide +kernel
theorem dX3_activeOnes_22 : decode cX3_activeOnes 22 = .ok (.iinc 2 1, 3) := by decide +kernel
theorem dX3_activeOnes_25 : decode cX3_activeOnes 25 = .ok (.goto (-21), 3) := by decide +kernel
theorem dX3_activeOnes_28 : decode cX3_activeOnes 28 = .ok (.iload_n 1, 1) := by decide +kernel
theorem dX3_activeOnes_29 : decode cX3_activeOnes 29 = .ok (.ireturn, 1) := by decide +kernel
theorem dX3_forgetActiveOnes_0 : decode cX3_forgetActiveOnes 0 = .ok (.iconst 0, 1) := by decide +kernel
theorem dX3_forgetActiveOnes_1 : decode cX3_forgetActiveOnes 1 = .ok (.istore_n 1, 1) := by decide +kernel
theorem dX3_forgetActiveOnes_2 : decode cX3_forgetActiveOnes 2 = .ok (.iload_n 1, 1) := by decide +kernel
theorem dX3_forgetActiveOnes_3 : decode cX3_forgetActiveOnes 3 = .ok (.bipush 8, 2) := by decide +kernel
theorem dX3_forgetActiveOnes_5 : decode cX3_forgetActiveOnes 5 = .ok (.if_icmp .ge 23, 3) := by decide +kernel
theorem dX3_forgetActiveOnes_8 : decode cX3_forgetActiveOnes 8 = .ok (.aload_n 0, 1) := by decide +kernel
theorem dX3_forgetActiveOnes_9 : decode cX3_forgetActiveOnes 9 = .ok (.getfield 34, 3) := by decide +kernel
theorem dX3_forgetActiveOnes_12 : decode cX3_forgetActiveOnes 12 = .ok (.iload_n 1, 1) := by decide +kernel
theorem dX3_forgetActiveOnes_13 : decode cX3_forgetActiveOnes 13 = .ok (.iconst 0, 1) := by decide +kernel
theorem dX3_forgetActiveOnes_14 : decode cX3_forgetActiveOnes 14 = .ok (.bastore, 1) := by decide +kernel
theorem dX3_forgetActiveOnes_15 : decode cX3_forgetActiveOnes 15 = .ok (.aload_n 0, 1) := by decide +kernel
theorem dX3_forgetActiveOnes_16 : decode cX3_forgetActiveOnes 16 = .ok (.getfield 38, 3) := by decide +kernel
theorem dX3_forgetActiveOnes_19 : decode cX3_forgetActiveOnes 19 = .ok (.iload_n 1, 1) := by decide +kernel
theorem dX3_forgetActiveOnes_20 : decode cX3_forgetActiveOnes 20 = .ok (.iconst 0, 1) := by decide +kernel
theorem dX3_forgetActiveOnes_21 : decode cX3_forgetActiveOnes 21 = .ok (.bastore, 1) := by decide +kernel
theorem dX3_forgetActiveOnes_22 : decode cX3_forgetActiveOnes 22 = .ok (.iinc 1 1, 3) := by decide +kernel
theorem dX3_forgetActiveOnes_25 : decode cX3_forgetActiveOnes 25 = .ok (.goto (-23), 3) := by decide +kernel
theorem dX3_forgetActiveOnes_28 : decode cX3_forgetActiveOnes 28 = .ok (.return_, 1) := by decide +kernel
theorem dX3_undoInPool_0 : decode cX3_undoInPool 0 = .ok (.aload_n 0, 1) := by decide +kernel
theorem dX3_undoInPool_1 : decode cX3_undoInPool 1 = .ok (.getfield 23, 3) := by decide +kernel
theorem dX3_undoInPool_4 : decode cX3_undoInPool 4 = .ok (.aload_n 0, 1) := by decide +kernel
theorem dX3_undoInPool_5 : decode cX3_undoInPool 5 = .ok (.getfield 30, 3) := by decide +kernel
theorem dX3_undoInPool_8 : decode cX3_undoInPool 8 = .ok (.iload_n 1, 1) := by decide +kernel
theorem dX3_undoInPool_9 : decode cX3_undoInPool 9 = .ok (.iconst 2, 1) := by decide +kernel
theorem dX3_undoInPool_10 : decode cX3_undoInPool 10 = .ok (.invokevirtual 106, 3) := by decide +kernel
theorem dX3_undoInPool_13 : decode cX3_undoInPool 13 = .ok (.aload_n 0, 1) := by decide +kernel
theorem dX3_undoInPool_14 : decode cX3_undoInPool 14 = .ok (.getfield 30, 3) := by decide +kernel
theorem dX3_undoInPool_17 : decode cX3_undoInPool 17 = .ok (.getfield 45, 3) := by decide +kernel
theorem dX3_undoInPool_20 : decode cX3_undoInPool 20 = .ok (.invokevirtual 49, 3) := by decide +kernel
theorem dX3_undoInPool_23 : decode cX3_undoInPool 23 = .ok (.istore_n 2, 1) := by decide +kernel
theorem dX3_undoInPool_24 : decode cX3_undoInPool 24 = .ok (.iload_n 2, 1) := by decide +kernel
theorem dX3_undoInPool_25 : decode cX3_undoInPool 25 = .ok (.ifCond .ge 5, 3) := by decide +kernel
theorem dX3_undoInPool_28 : decode cX3_undoInPool 28 = .ok (.iconst 0, 1) := by decide +kernel
theorem dX3_undoInPool_29 : decode cX3_undoInPool 29 = .ok (.ireturn, 1) := by decide +kernel
theorem dX3_undoInPool_30 : decode cX3_undoInPool 30 = .ok (.aload_n 0, 1) := by decide +kernel
theorem dX3_undoInPool_31 : decode cX3_undoInPool 31 = .ok (.getfield 23, 3) := by decide +kernel
theorem dX3_undoInPool_34 : decode cX3_undoInPool 34 = .ok (.getfield 52, 3) := by decide +kernel
theorem dX3_undoInPool_37 : decode cX3_undoInPool 37 = .ok (.iload_n 2, 1) := by decide +kernel
theorem dX3_undoInPool_38 : decode cX3_undoInPool 38 = .ok (.aaload, 1) := by decide +kernel
theorem dX3_undoInPool_39 : decode cX3_undoInPool 39 = .ok (.astore_n 3, 1) := by decide +kernel
theorem dX3_undoInPool_40 : decode cX3_undoInPool 40 = .ok (.aload_n 0, 1) := by decide +kernel
theorem dX3_undoInPool_41 : decode cX3_undoInPool 41 = .ok (.getfield 30, 3) := by decide +kernel
theorem dX3_undoInPool_44 : decode cX3_undoInPool 44 = .ok (.iload_n 1, 1) := by decide +kernel
theorem dX3_undoInPool_45 : decode cX3_undoInPool 45 = .ok (.iconst 3, 1) := by decide +kernel
theorem dX3_undoInPool_46 : decode cX3_undoInPool 46 = .ok (.invokevirtual 106, 3) := by decide +kernel
theorem dX3_undoInPool_49 : decode cX3_undoInPool 49 = .ok (.istore 4, 2) := by decide +kernel
theorem dX3_undoInPool_51 : decode cX3_undoInPool 51 = .ok (.aload_n 0, 1) := by decide +kernel
theorem dX3_undoInPool_52 : decode cX3_undoInPool 52 = .ok (.getfield 30, 3) := by decide +kernel
theorem dX3_undoInPool_55 : decode cX3_undoInPool 55 = .ok (.iload_n 1, 1) := by decide +kernel
theorem dX3_undoInPool_56 : decode cX3_undoInPool 56 = .ok (.aload_n 3, 1) := by decide +kernel
theorem dX3_undoInPool_57 : decode cX3_undoInPool 57 = .ok (.getfield 65, 3) := by decide +kernel
theorem dX3_undoInPool_60 : decode cX3_undoInPool 60 = .ok (.iload 4, 2) := by decide +kernel
theorem dX3_undoInPool_62 : decode cX3_undoInPool 62 = .ok (.iaload, 1) := by decide +kernel
theorem dX3_undoInPool_63 : decode cX3_undoInPool 63 = .ok (.invokevirtual 173, 3) := by decide +kernel
theorem dX3_undoInPool_66 : decode cX3_undoInPool 66 = .ok (.istore 5, 2) := by decide +kernel
theorem dX3_undoInPool_68 : decode cX3_undoInPool 68 = .ok (.aload_n 3, 1) := by decide +kernel
theorem dX3_undoInPool_69 : decode cX3_undoInPool 69 = .ok (.iload 4, 2) := by decide +kernel
theorem dX3_undoInPool_71 : decode cX3_undoInPool 71 = .ok (.aload_n 0, 1) := by decide +kernel
theorem dX3_undoInPool_72 : decode cX3_undoInPool 72 = .ok (.getfield 30, 3) := by decide +kernel
theorem dX3_undoInPool_75 : decode cX3_undoInPool 75 = .ok (.iload 5, 2) := by decide +kernel
theorem dX3_undoInPool_77 : decode cX3_undoInPool 77 = .ok (.iconst 5, 1) := by decide +kernel
theorem dX3_undoInPool_78 : decode cX3_undoInPool 78 = .ok (.invokevirtual 106, 3) := by decide +kernel
theorem dX3_undoInPool_81 : decode cX3_undoInPool 81 = .ok (.iload 5, 2) := by decide +kernel
theorem dX3_undoInPool_83 : decode cX3_undoInPool 83 = .ok (.invokevirtual 87, 3) := by decide +kernel
theorem dX3_undoInPool_86 : decode cX3_undoInPool 86 = .ok (.iconst 1, 1) := by decide +kernel
theorem dX3_undoInPool_87 : decode cX3_undoInPool 87 = .ok (.ireturn, 1) := by decide +kernel
theorem dX3_redoOnDisk_0 : decode cX3_redoOnDisk 0 = .ok (.iconst 1, 1) := by decide +kernel
theorem dX3_redoOnDisk_1 : decode cX3_redoOnDisk 1 = .ok (.istore_n 1, 1) := by decide +kernel
theorem dX3_redoOnDisk_2 : decode cX3_redoOnDisk 2 = .ok (.iload_n 1, 1) := by decide +kernel
theorem dX3_redoOnDisk_3 : decode cX3_redoOnDisk 3 = .ok (.aload_n 0, 1) := by decide +kernel
theorem dX3_redoOnDisk_4 : decode cX3_redoOnDisk 4 = .ok (.getfield 30, 3) := by decide +kernel
theorem dX3_redoOnDisk_7 : decode cX3_redoOnDisk 7 = .ok (.getfield 100, 3) := by decide +kernel
theorem dX3_redoOnDisk_10 : decode cX3_redoOnDisk 10 = .ok (.if_icmp .gt 49, 3) := by decide +kernel
theorem dX3_redoOnDisk_13 : decode cX3_redoOnDisk 13 = .ok (.aload_n 0, 1) := by decide +kernel
theorem dX3_redoOnDisk_14 : decode cX3_redoOnDisk 14 = .ok (.getfield 30, 3) := by decide +kernel
theorem dX3_redoOnDisk_17 : decode cX3_redoOnDisk 17 = .ok (.iload_n 1, 1) := by decide +kernel
theorem dX3_redoOnDisk_18 : decode cX3_redoOnDisk 18 = .ok (.invokevirtual 176, 3) := by decide +kernel
theorem dX3_redoOnDisk_21 : decode cX3_redoOnDisk 21 = .ok (.ifCond .eq 32, 3) := by decide +kernel
theorem dX3_redoOnDisk_24 : decode cX3_redoOnDisk 24 = .ok (.iload_n 1, 1) := by decide +kernel
theorem dX3_redoOnDisk_25 : decode cX3_redoOnDisk 25 = .ok (.aload_n 0, 1) := by decide +kernel
theorem dX3_redoOnDisk_26 : decode cX3_redoOnDisk 26 = .ok (.getfield 23, 3) := by decide +kernel
theorem dX3_redoOnDisk_29 : decode cX3_redoOnDisk 29 = .ok (.getfield 151, 3) := by decide +kernel
theorem dX3_redoOnDisk_32 : decode cX3_redoOnDisk 32 = .ok (.aload_n 0, 1) := by decide +kernel
theorem dX3_redoOnDisk_33 : decode cX3_redoOnDisk 33 = .ok (.getfield 30, 3) := by decide +kernel
theorem dX3_redoOnDisk_36 : decode cX3_redoOnDisk 36 = .ok (.iload_n 1, 1) := by decide +kernel
theorem dX3_redoOnDisk_37 : decode cX3_redoOnDisk 37 = .ok (.iconst 2, 1) := by decide +kernel
theorem dX3_redoOnDisk_38 : decode cX3_redoOnDisk 38 = .ok (.invokevirtual 106, 3) := by decide +kernel
theorem dX3_redoOnDisk_41 : decode cX3_redoOnDisk 41 = .ok (.aaload, 1) := by decide +kernel
theorem dX3_redoOnDisk_42 : decode cX3_redoOnDisk 42 = .ok (.bipush 8, 2) := by decide +kernel
theorem dX3_redoOnDisk_44 : decode cX3_redoOnDisk 44 = .ok (.iaload, 1) := by decide +kernel
theorem dX3_redoOnDisk_45 : decode cX3_redoOnDisk 45 = .ok (.if_icmp .le 8, 3) := by decide +kernel
theorem dX3_redoOnDisk_48 : decode cX3_redoOnDisk 48 = .ok (.aload_n 0, 1) := by decide +kernel
theorem dX3_redoOnDisk_49 : decode cX3_redoOnDisk 49 = .ok (.iload_n 1, 1) := by decide +kernel
theorem dX3_redoOnDisk_50 : decode cX3_redoOnDisk 50 = .ok (.invokevirtual 179, 3) := by decide +kernel
theorem dX3_redoOnDisk_53 : decode cX3_redoOnDisk 53 = .ok (.iinc 1 1, 3) := by decide +kernel
theorem dX3_redoOnDisk_56 : decode cX3_redoOnDisk 56 = .ok (.goto (-54), 3) := by decide +kernel
theorem dX3_redoOnDisk_59 : decode cX3_redoOnDisk 59 = .ok (.return_, 1) := by decide +kernel
theorem dX3_undoOnDisk_0 : decode cX3_undoOnDisk 0 = .ok (.iconst 0, 1) := by decide +kernel
theorem dX3_undoOnDisk_1 : decode cX3_undoOnDisk 1 = .ok (.istore_n 1, 1) := by decide +kernel
theorem dX3_undoOnDisk_2 : decode cX3_undoOnDisk 2 = .ok (.aload_n 0, 1) := by decide +kernel
theorem dX3_undoOnDisk_3 : decode cX3_undoOnDisk 3 = .ok (.getfield 30, 3) := by decide +kernel
theorem dX3_undoOnDisk_6 : decode cX3_undoOnDisk 6 = .ok (.getfield 100, 3) := by decide +kernel
theorem dX3_undoOnDisk_9 : decode cX3_undoOnDisk 9 = .ok (.istore_n 2, 1) := by decide +kernel
theorem dX3_undoOnDisk_10 : decode cX3_undoOnDisk 10 = .ok (.iload_n 2, 1) := by decide +kernel
theorem dX3_undoOnDisk_11 : decode cX3_undoOnDisk 11 = .ok (.iconst 1, 1) := by decide +kernel
theorem dX3_undoOnDisk_12 : decode cX3_undoOnDisk 12 = .ok (.if_icmp .lt 64, 3) := by decide +kernel
theorem dX3_undoOnDisk_15 : decode cX3_undoOnDisk 15 = .ok (.aload_n 0, 1) := by decide +kernel
theorem dX3_undoOnDisk_16 : decode cX3_undoOnDisk 16 = .ok (.getfield 30, 3) := by decide +kernel
theorem dX3_undoOnDisk_19 : decode cX3_undoOnDisk 19 = .ok (.iload_n 2, 1) := by decide +kernel
theorem dX3_undoOnDisk_20 : decode cX3_undoOnDisk 20 = .ok (.invokevirtual 103, 3) := by decide +kernel
theorem dX3_undoOnDisk_23 : decode cX3_undoOnDisk 23 = .ok (.ifCond .eq 47, 3) := by decide +kernel
theorem dX3_undoOnDisk_26 : decode cX3_undoOnDisk 26 = .ok (.aload_n 0, 1) := by decide +kernel
theorem dX3_undoOnDisk_27 : decode cX3_undoOnDisk 27 = .ok (.getfield 23, 3) := by decide +kernel
theorem dX3_undoOnDisk_30 : decode cX3_undoOnDisk 30 = .ok (.getfield 151, 3) := by decide +kernel
theorem dX3_undoOnDisk_33 : decode cX3_undoOnDisk 33 = .ok (.aload_n 0, 1) := by decide +kernel
theorem dX3_undoOnDisk_34 : decode cX3_undoOnDisk 34 = .ok (.getfield 30, 3) := by decide +kernel
theorem dX3_undoOnDisk_37 : decode cX3_undoOnDisk 37 = .ok (.iload_n 2, 1) := by decide +kernel
theorem dX3_undoOnDisk_38 : decode cX3_undoOnDisk 38 = .ok (.iconst 2, 1) := by decide +kernel
theorem dX3_undoOnDisk_39 : decode cX3_undoOnDisk 39 = .ok (.invokevirtual 106, 3) := by decide +kernel
theorem dX3_undoOnDisk_42 : decode cX3_undoOnDisk 42 = .ok (.aaload, 1) := by decide +kernel
theorem dX3_undoOnDisk_43 : decode cX3_undoOnDisk 43 = .ok (.astore_n 3, 1) := by decide +kernel
theorem dX3_undoOnDisk_44 : decode cX3_undoOnDisk 44 = .ok (.aload_n 0, 1) := by decide +kernel
theorem dX3_undoOnDisk_45 : decode cX3_undoOnDisk 45 = .ok (.aload_n 0, 1) := by decide +kernel
theorem dX3_undoOnDisk_46 : decode cX3_undoOnDisk 46 = .ok (.getfield 30, 3) := by decide +kernel
theorem dX3_undoOnDisk_49 : decode cX3_undoOnDisk 49 = .ok (.iload_n 2, 1) := by decide +kernel
theorem dX3_undoOnDisk_50 : decode cX3_undoOnDisk 50 = .ok (.aload_n 3, 1) := by decide +kernel
theorem dX3_undoOnDisk_51 : decode cX3_undoOnDisk 51 = .ok (.aload_n 0, 1) := by decide +kernel
theorem dX3_undoOnDisk_52 : decode cX3_undoOnDisk 52 = .ok (.getfield 30, 3) := by decide +kernel
theorem dX3_undoOnDisk_55 : decode cX3_undoOnDisk 55 = .ok (.iload_n 2, 1) := by decide +kernel
theorem dX3_undoOnDisk_56 : decode cX3_undoOnDisk 56 = .ok (.iconst 3, 1) := by decide +kernel
theorem dX3_undoOnDisk_57 : decode cX3_undoOnDisk 57 = .ok (.invokevirtual 106, 3) := by decide +kernel
theorem dX3_undoOnDisk_60 : decode cX3_undoOnDisk 60 = .ok (.iaload, 1) := by decide +kernel
theorem dX3_undoOnDisk_61 : decode cX3_undoOnDisk 61 = .ok (.invokevirtual 173, 3) := by decide +kernel
theorem dX3_undoOnDisk_64 : decode cX3_undoOnDisk 64 = .ok (.invokevirtual 179, 3) := by decide +kernel
theorem dX3_undoOnDisk_67 : decode cX3_undoOnDisk 67 = .ok (.iinc 1 1, 3) := by decide +kernel
theorem dX3_undoOnDisk_70 : decode cX3_undoOnDisk 70 = .ok (.iinc 2 (-1), 3) := by decide +kernel
theorem dX3_undoOnDisk_73 : decode cX3_undoOnDisk 73 = .ok (.goto (-63), 3) := by decide +kernel
theorem dX3_undoOnDisk_76 : decode cX3_undoOnDisk 76 = .ok (.iload_n 1, 1) := by decide +kernel
theorem dX3_undoOnDisk_77 : decode cX3_undoOnDisk 77 = .ok (.ireturn, 1) := by decide +kernel
theorem dX3_putOnDisk_0 : decode cX3_putOnDisk 0 = .ok (.aload_n 0, 1) := by decide +kernel
theorem dX3_putOnDisk_1 : decode cX3_putOnDisk 1 = .ok (.getfield 23, 3) := by decide +kernel
theorem dX3_putOnDisk_4 : decode cX3_putOnDisk 4 = .ok (.getfield 151, 3) := by decide +kernel
theorem dX3_putOnDisk_7 : decode cX3_putOnDisk 7 = .ok (.aload_n 0, 1) := by decide +kernel
theorem dX3_putOnDisk_8 : decode cX3_putOnDisk 8 = .ok (.getfield 30, 3) := by decide +kernel
theorem dX3_putOnDisk_11 : decode cX3_putOnDisk 11 = .ok (.iload_n 1, 1) := by decide +kernel
theorem dX3_putOnDisk_12 : decode cX3_putOnDisk 12 = .ok (.iconst 2, 1) := by decide +kernel
theorem dX3_putOnDisk_13 : decode cX3_putOnDisk 13 = .ok (.invokevirtual 106, 3) := by decide +kernel
theorem dX3_putOnDisk_16 : decode cX3_putOnDisk 16 = .ok (.aaload, 1) := by decide +kernel
theorem dX3_putOnDisk_17 : decode cX3_putOnDisk 17 = .ok (.astore_n 2, 1) := by decide +kernel
theorem dX3_putOnDisk_18 : decode cX3_putOnDisk 18 = .ok (.aload_n 2, 1) := by decide +kernel
theorem dX3_putOnDisk_19 : decode cX3_putOnDisk 19 = .ok (.aload_n 0, 1) := by decide +kernel
theorem dX3_putOnDisk_20 : decode cX3_putOnDisk 20 = .ok (.getfield 30, 3) := by decide +kernel
theorem dX3_putOnDisk_23 : decode cX3_putOnDisk 23 = .ok (.iload_n 1, 1) := by decide +kernel
theorem dX3_putOnDisk_24 : decode cX3_putOnDisk 24 = .ok (.iconst 3, 1) := by decide +kernel
theorem dX3_putOnDisk_25 : decode cX3_putOnDisk 25 = .ok (.invokevirtual 106, 3) := by decide +kernel
theorem dX3_putOnDisk_28 : decode cX3_putOnDisk 28 = .ok (.aload_n 0, 1) := by decide +kernel
theorem dX3_putOnDisk_29 : decode cX3_putOnDisk 29 = .ok (.getfield 30, 3) := by decide +kernel
theorem dX3_putOnDisk_32 : decode cX3_putOnDisk 32 = .ok (.iload_n 1, 1) := by decide +kernel
theorem dX3_putOnDisk_33 : decode cX3_putOnDisk 33 = .ok (.iconst 5, 1) := by decide +kernel
theorem dX3_putOnDisk_34 : decode cX3_putOnDisk 34 = .ok (.invokevirtual 106, 3) := by decide +kernel
theorem dX3_putOnDisk_37 : decode cX3_putOnDisk 37 = .ok (.iastore, 1) := by decide +kernel
theorem dX3_putOnDisk_38 : decode cX3_putOnDisk 38 = .ok (.aload_n 2, 1) := by decide +kernel
theorem dX3_putOnDisk_39 : decode cX3_putOnDisk 39 = .ok (.bipush 8, 2) := by decide +kernel
theorem dX3_putOnDisk_41 : decode cX3_putOnDisk 41 = .ok (.iload_n 1, 1) := by decide +kernel
theorem dX3_putOnDisk_42 : decode cX3_putOnDisk 42 = .ok (.iastore, 1) := by decide +kernel
theorem dX3_putOnDisk_43 : decode cX3_putOnDisk 43 = .ok (.return_, 1) := by decide +kernel
theorem dX3_endUnended_0 : decode cX3_endUnended 0 = .ok (.iconst 0, 1) := by decide +kernel
theorem dX3_endUnended_1 : decode cX3_endUnended 1 = .ok (.istore_n 1, 1) := by decide +kernel
theorem dX3_endUnended_2 : decode cX3_endUnended 2 = .ok (.iload_n 1, 1) := by decide +kernel
theorem dX3_endUnended_3 : decode cX3_endUnended 3 = .ok (.bipush 8, 2) := by decide +kernel
theorem dX3_endUnended_5 : decode cX3_endUnended 5 = .ok (.if_icmp .ge 30, 3) := by decide +kernel
theorem dX3_endUnended_8 : decode cX3_endUnended 8 = .ok (.aload_n 0, 1) := by decide +kernel
theorem dX3_endUnended_9 : decode cX3_endUnended 9 = .ok (.getfield 30, 3) := by decide +kernel
theorem dX3_endUnended_12 : decode cX3_endUnended 12 = .ok (.iload_n 1, 1) := by decide +kernel
theorem dX3_endUnended_13 : decode cX3_endUnended 13 = .ok (.invokevirtual 182, 3) := by decide +kernel
theorem dX3_endUnended_16 : decode cX3_endUnended 16 = .ok (.ifCond .eq 13, 3) := by decide +kernel
theorem dX3_endUnended_19 : decode cX3_endUnended 19 = .ok (.aload_n 0, 1) := by decide +kernel
theorem dX3_endUnended_20 : decode cX3_endUnended 20 = .ok (.getfield 30, 3) := by decide +kernel
theorem dX3_endUnended_23 : decode cX3_endUnended 23 = .ok (.iconst 3, 1) := by decide +kernel
theorem dX3_endUnended_24 : decode cX3_endUnended 24 = .ok (.iload_n 1, 1) := by decide +kernel
theorem dX3_endUnended_25 : decode cX3_endUnended 25 = .ok (.invokevirtual 91, 3) := by decide +kernel
theorem dX3_endUnended_28 : decode cX3_endUnended 28 = .ok (.pop, 1) := by decide +kernel
theorem dX3_endUnended_29 : decode cX3_endUnended 29 = .ok (.iinc 1 1, 3) := by decide +kernel
theorem dX3_endUnended_32 : decode cX3_endUnended 32 = .ok (.goto (-30), 3) := by decide +kernel
theorem dX3_endUnended_35 : decode cX3_endUnended 35 = .ok (.return_, 1) := by decide +kernel
end
section
theorem dX4_init_0 : decode cX4_init 0 = .ok (.aload_n 0, 1) := by decide +kernel
theorem dX4_init_1 : decode cX4_init 1 = .ok (.invokespecial 1, 3) := by decide +kernel
theorem dX4_init_4 : decode cX4_init 4 = .ok (.aload_n 0, 1) := by decide +kernel
theorem dX4_init_5 : decode cX4_init 5 = .ok (.sipush 256, 3) := by decide +kernel
theorem dX4_init_8 : decode cX4_init 8 = .ok (.newarray .int, 2) := by decide +kernel
theorem dX4_init_10 : decode cX4_init 10 = .ok (.putfield 7, 3) := by decide +kernel
theorem dX4_init_13 : decode cX4_init 13 = .ok (.aload_n 0, 1) := by decide +kernel
theorem dX4_init_14 : decode cX4_init 14 = .ok (.bipush 32, 2) := by decide +kernel
theorem dX4_init_16 : decode cX4_init 16 = .ok (.newarray .int, 2) := by decide +kernel
theorem dX4_init_18 : decode cX4_init 18 = .ok (.putfield 13, 3) := by decide +kernel
theorem dX4_init_21 : decode cX4_init 21 = .ok (.aload_n 0, 1) := by decide +kernel
theorem dX4_init_22 : decode cX4_init 22 = .ok (.bipush 8, 2) := by decide +kernel
theorem dX4_init_24 : decode cX4_init 24 = .ok (.newarray .int, 2) := by decide +kernel
theorem dX4_init_26 : decode cX4_init 26 = .ok (.putfield 16, 3) := by decide +kernel
theorem dX4_init_29 : decode cX4_init 29 = .ok (.aload_n 0, 1) := by decide +kernel
theorem dX4_init_30 : decode cX4_init 30 = .ok (.bipush 64, 2) := by decide +kernel
theorem dX4_init_32 : decode cX4_init 32 = .ok (.newarray .int, 2) := by decide +kernel
theorem dX4_init_34 : decode cX4_init 34 = .ok (.putfield 19, 3) := by decide +kernel
theorem dX4_init_37 : decode cX4_init 37 = .ok (.aload_n 0, 1) := by decide +kernel
theorem dX4_init_38 : decode cX4_init 38 = .ok (.bipush 8, 2) := by decide +kernel
theorem dX4_init_40 : decode cX4_init 40 = .ok (.newarray .int, 2) := by decide +kernel
theorem dX4_init_42 : decode cX4_init 42 = .ok (.putfield 22, 3) := by decide +kernel
theorem dX4_init_45 : decode cX4_init 45 = .ok (.aload_n 0, 1) := by decide +kernel
theorem dX4_init_46 : decode cX4_init 46 = .ok (.bipush 8, 2) := by decide +kernel
theorem dX4_init_48 : decode cX4_init 48 = .ok (.newarray .int, 2) := by decide +kernel
theorem dX4_init_50 : decode cX4_init 50 = .ok (.putfield 25, 3) := by decide +kernel
theorem dX4_init_53 : decode cX4_init 53 = .ok (.aload_n 0, 1) := by decide +kernel
theorem dX4_init_54 : decode cX4_init 54 = .ok (.bipush 8, 2) := by decide +kernel
theorem dX4_init_56 : decode cX4_init 56 = .ok (.newarray .boolean, 2) := by decide +kernel
theorem dX4_init_58 : decode cX4_init 58 = .ok (.putfield 28, 3) := by decide +kernel
theorem dX4_init_61 : decode cX4_init 61 = .ok (.aload_n 0, 1) := by decide +kernel
theorem dX4_init_62 : decode cX4_init 62 = .ok (.bipush 8, 2) := by decide +kernel
theorem dX4_init_64 : decode cX4_init 64 = .ok (.newarray .boolean, 2) := by decide +kernel
theorem dX4_init_66 : decode cX4_init 66 = .ok (.putfield 32, 3) := by decide +kernel
theorem dX4_init_69 : decode cX4_init 69 = .ok (.aload_n 0, 1) := by decide +kernel
theorem dX4_init_70 : decode cX4_init 70 = .ok (.sipush 401, 3) := by decide +kernel
theorem dX4_init_73 : decode cX4_init 73 = .ok (.newarray .int, 2) := by decide +kernel
theorem dX4_init_75 : decode cX4_init 75 = .ok (.putfield 35, 3) := by decide +kernel
theorem dX4_init_78 : decode cX4_init 78 = .ok (.aload_n 0, 1) := by decide +kernel
theorem dX4_init_79 : decode cX4_init 79 = .ok (.sipush 401, 3) := by decide +kernel
theorem dX4_init_82 : decode cX4_init 82 = .ok (.newarray .int, 2) := by decide +kernel
theorem dX4_init_84 : decode cX4_init 84 = .ok (.putfield 38, 3) := by decide +kernel
theorem dX4_init_87 : decode cX4_init 87 = .ok (.aload_n 0, 1) := by decide +kernel
theorem dX4_init_88 : decode cX4_init 88 = .ok (.sipush 401, 3) := by decide +kernel
theorem dX4_init_91 : decode cX4_init 91 = .ok (.newarray .int, 2) := by decide +kernel
theorem dX4_init_93 : decode cX4_init 93 = .ok (.putfield 41, 3) := by decide +kernel
theorem dX4_init_96 : decode cX4_init 96 = .ok (.aload_n 0, 1) := by decide +kernel
theorem dX4_init_97 : decode cX4_init 97 = .ok (.sipush 401, 3) := by decide +kernel
theorem dX4_init_100 : decode cX4_init 100 = .ok (.newarray .int, 2) := by decide +kernel
theorem dX4_init_102 : decode cX4_init 102 = .ok (.putfield 44, 3) := by decide +kernel
theorem dX4_init_105 : decode cX4_init 105 = .ok (.aload_n 0, 1) := by decide +kernel
theorem dX4_init_106 : decode cX4_init 106 = .ok (.sipush 401, 3) := by decide +kernel
theorem dX4_init_109 : decode cX4_init 109 = .ok (.newarray .int, 2) := by decide +kernel
theorem dX4_init_111 : decode cX4_init 111 = .ok (.putfield 47, 3) := by decide +kernel
theorem dX4_init_114 : decode cX4_init 114 = .ok (.aload_n 0, 1) := by decide +kernel
theorem dX4_init_115 : decode cX4_init 115 = .ok (.sipush 401, 3) := by decide +kernel
theorem dX4_init_118 : decode cX4_init 118 = .ok (.newarray .int, 2) := by decide +kernel
theorem dX4_init_120 : decode cX4_init 120 = .ok (.putfield 50, 3) := by decide +kernel
theorem dX4_init_123 : decode cX4_init 123 = .ok (.aload_n 0, 1) := by decide +kernel
theorem dX4_init_124 : decode cX4_init 124 = .ok (.sipush 401, 3) := by decide +kernel
theorem dX4_init_127 : decode cX4_init 127 = .ok (.newarray .int, 2) := by decide +kernel
theorem dX4_init_129 : decode cX4_init 129 = .ok (.putfield 53, 3) := by decide +kernel
theorem dX4_init_132 : decode cX4_init 132 = .ok (.aload_n 0, 1) := by decide +kernel
theorem dX4_init_133 : decode cX4_init 133 = .ok (.sipush 401, 3) := by decide +kernel
theorem dX4_init_136 : decode cX4_init 136 = .ok (.newarray .boolean, 2) := by decide +kernel
theorem dX4_init_138 : decode cX4_init 138 = .ok (.putfield 56, 3) := by decide +kernel
theorem dX4_init_141 : decode cX4_init 141 = .ok (.aload_n 0, 1) := by decide +kernel
theorem dX4_init_142 : decode cX4_init 142 = .ok (.bipush 8, 2) := by decide +kernel
theorem dX4_init_144 : decode cX4_init 144 = .ok (.newarray .boolean, 2) := by decide +kernel
theorem dX4_init_146 : decode cX4_init 146 = .ok (.putfield 59, 3) := by decide +kernel
theorem dX4_init_149 : decode cX4_init 149 = .ok (.aload_n 0, 1) := by decide +kernel
theorem dX4_init_150 : decode cX4_init 150 = .ok (.bipush 8, 2) := by decide +kernel
theorem dX4_init_152 : decode cX4_init 152 = .ok (.newarray .boolean, 2) := by decide +kernel
theorem dX4_init_154 : decode cX4_init 154 = .ok (.putfield 62, 3) := by decide +kernel
theorem dX4_init_157 : decode cX4_init 157 = .ok (.aload_n 0, 1) := by decide +kernel
theorem dX4_init_158 : decode cX4_init 158 = .ok (.iload_n 1, 1) := by decide +kernel
theorem dX4_init_159 : decode cX4_init 159 = .ok (.iconst 1, 1) := by decide +kernel
theorem dX4_init_160 : decode cX4_init 160 = .ok (.if_icmp .ge 7, 3) := by decide +kernel
theorem dX4_init_163 : decode cX4_init 163 = .ok (.iconst 1, 1) := by decide +kernel
theorem dX4_init_164 : decode cX4_init 164 = .ok (.goto 15, 3) := by decide +kernel
theorem dX4_init_167 : decode cX4_init 167 = .ok (.iload_n 1, 1) := by decide +kernel
theorem dX4_init_168 : decode cX4_init 168 = .ok (.bipush 8, 2) := by decide +kernel
theorem dX4_init_170 : decode cX4_init 170 = .ok (.if_icmp .le 8, 3) := by decide +kernel
theorem dX4_init_173 : decode cX4_init 173 = .ok (.bipush 8, 2) := by decide +kernel
theorem dX4_init_175 : decode cX4_init 175 = .ok (.goto 4, 3) := by decide +kernel
theorem dX4_init_178 : decode cX4_init 178 = .ok (.iload_n 1, 1) := by decide +kernel
theorem dX4_init_179 : decode cX4_init 179 = .ok (.putfield 65, 3) := by decide +kernel
theorem dX4_init_182 : decode cX4_init 182 = .ok (.iconst 0, 1) := by decide +kernel
theorem dX4_init_183 : decode cX4_init 183 = .ok (.istore_n 2, 1) := by decide +kernel
theorem dX4_init_184 : decode cX4_init 184 = .ok (.iload_n 2, 1) := by decide +kernel
theorem dX4_init_185 : decode cX4_init 185 = .ok (.bipush 8, 2) := by decide +kernel
theorem dX4_init_187 : decode cX4_init 187 = .ok (.if_icmp .ge 16, 3) := by decide +kernel
theorem dX4_init_190 : decode cX4_init 190 = .ok (.aload_n 0, 1) := by decide +kernel
theorem dX4_init_191 : decode cX4_init 191 = .ok (.getfield 16, 3) := by decide +kernel
theorem dX4_init_194 : decode cX4_init 194 = .ok (.iload_n 2, 1) := by decide +kernel
theorem dX4_init_195 : decode cX4_init 195 = .ok (.iconst (-1), 1) := by decide +kernel
theorem dX4_init_196 : decode cX4_init 196 = .ok (.iastore, 1) := by decide +kernel
theorem dX4_init_197 : decode cX4_init 197 = .ok (.iinc 2 1, 3) := by decide +kernel
theorem dX4_init_200 : decode cX4_init 200 = .ok (.goto (-16), 3) := by decide +kernel
theorem dX4_init_203 : decode cX4_init 203 = .ok (.return_, 1) := by decide +kernel
theorem dX4_thrown_0 : decode cX4_thrown 0 = .ok (.aload_n 0, 1) := by decide +kernel
theorem dX4_thrown_1 : decode cX4_thrown 1 = .ok (.getfield 69, 3) := by decide +kernel
theorem dX4_thrown_4 : decode cX4_thrown 4 = .ok (.ireturn, 1) := by decide +kernel
theorem dX4_refused_0 : decode cX4_refused 0 = .ok (.aload_n 0, 1) := by decide +kernel
theorem dX4_refused_1 : decode cX4_refused 1 = .ok (.iload_n 1, 1) := by decide +kernel
theorem dX4_refused_2 : decode cX4_refused 2 = .ok (.putfield 69, 3) := by decide +kernel
theorem dX4_refused_5 : decode cX4_refused 5 = .ok (.iload_n 1, 1) := by decide +kernel
theorem dX4_refused_6 : decode cX4_refused 6 = .ok (.ifCond .le 7, 3) := by decide +kernel
theorem dX4_refused_9 : decode cX4_refused 9 = .ok (.iconst 1, 1) := by decide +kernel
theorem dX4_refused_10 : decode cX4_refused 10 = .ok (.goto 4, 3) := by decide +kernel
theorem dX4_refused_13 : decode cX4_refused 13 = .ok (.iconst 0, 1) := by decide +kernel
theorem dX4_refused_14 : decode cX4_refused 14 = .ok (.ireturn, 1) := by decide +kernel
theorem dX4_isIn_0 : decode cX4_isIn 0 = .ok (.iload_n 0, 1) := by decide +kernel
theorem dX4_isIn_1 : decode cX4_isIn 1 = .ok (.iload_n 1, 1) := by decide +kernel
theorem dX4_isIn_2 : decode cX4_isIn 2 = .ok (.if_icmp .lt 12, 3) := by decide +kernel
theorem dX4_isIn_5 : decode cX4_isIn 5 = .ok (.iload_n 0, 1) := by decide +kernel
theorem dX4_isIn_6 : decode cX4_isIn 6 = .ok (.iload_n 2, 1) := by decide +kernel
theorem dX4_isIn_7 : decode cX4_isIn 7 = .ok (.if_icmp .gt 7, 3) := by decide +kernel
theorem dX4_isIn_10 : decode cX4_isIn 10 = .ok (.iconst 1, 1) := by decide +kernel
theorem dX4_isIn_11 : decode cX4_isIn 11 = .ok (.goto 4, 3) := by decide +kernel
theorem dX4_isIn_14 : decode cX4_isIn 14 = .ok (.iconst 0, 1) := by decide +kernel
theorem dX4_isIn_15 : decode cX4_isIn 15 = .ok (.ireturn, 1) := by decide +kernel
theorem dX4_frameOf_0 : decode cX4_frameOf 0 = .ok (.iconst 0, 1) := by decide +kernel
theorem dX4_frameOf_1 : decode cX4_frameOf 1 = .ok (.istore_n 2, 1) := by decide +kernel
theorem dX4_frameOf_2 : decode cX4_frameOf 2 = .ok (.iload_n 2, 1) := by decide +kernel
theorem dX4_frameOf_3 : decode cX4_frameOf 3 = .ok (.aload_n 0, 1) := by decide +kernel
theorem dX4_frameOf_4 : decode cX4_frameOf 4 = .ok (.getfield 65, 3) := by decide +kernel
theorem dX4_frameOf_7 : decode cX4_frameOf 7 = .ok (.if_icmp .ge 21, 3) := by decide +kernel
theorem dX4_frameOf_10 : decode cX4_frameOf 10 = .ok (.aload_n 0, 1) := by decide +kernel
theorem dX4_frameOf_11 : decode cX4_frameOf 11 = .ok (.getfield 16, 3) := by decide +kernel
theorem dX4_frameOf_14 : decode cX4_frameOf 14 = .ok (.iload_n 2, 1) := by decide +kernel
theorem dX4_frameOf_15 : decode cX4_frameOf 15 = .ok (.iaload, 1) := by decide +kernel
theorem dX4_frameOf_16 : decode cX4_frameOf 16 = .ok (.iload_n 1, 1) := by decide +kernel
theorem dX4_frameOf_17 : decode cX4_frameOf 17 = .ok (.if_icmp .ne 5, 3) := by decide +kernel
theorem dX4_frameOf_20 : decode cX4_frameOf 20 = .ok (.iload_n 2, 1) := by decide +kernel
theorem dX4_frameOf_21 : decode cX4_frameOf 21 = .ok (.ireturn, 1) := by decide +kernel
theorem dX4_frameOf_22 : decode cX4_frameOf 22 = .ok (.iinc 2 1, 3) := by decide +kernel
theorem dX4_frameOf_25 : decode cX4_frameOf 25 = .ok (.goto (-23), 3) := by decide +kernel
theorem dX4_frameOf_28 : decode cX4_frameOf 28 = .ok (.iconst (-1), 1) := by decide +kernel
theorem dX4_frameOf_29 : decode cX4_frameOf 29 = .ok (.ireturn, 1) := by decide +kernel
theorem dX4_mayGo_0 : decode cX4_mayGo 0 = .ok (.aload_n 0, 1) := by decide +kernel
theorem dX4_mayGo_1 : decode cX4_mayGo 1 = .ok (.getfield 25, 3) := by decide +kernel
theorem dX4_mayGo_4 : decode cX4_mayGo 4 = .ok (.iload_n 1, 1) := by decide +kernel
theorem dX4_mayGo_5 : decode cX4_mayGo 5 = .ok (.iaload, 1) := by decide +kernel
theorem dX4_mayGo_6 : decode cX4_mayGo 6 = .ok (.ifCond .ne 29, 3) := by decide +kernel
theorem dX4_mayGo_9 : decode cX4_mayGo 9 = .ok (.aload_n 0, 1) := by decide +kernel
theorem dX4_mayGo_10 : decode cX4_mayGo 10 = .ok (.getfield 28, 3) := by decide +kernel
theorem dX4_mayGo_13 : decode cX4_mayGo 13 = .ok (.iload_n 1, 1) := by decide +kernel
theorem dX4_mayGo_14 : decode cX4_mayGo 14 = .ok (.baload, 1) := by decide +kernel
theorem dX4_mayGo_15 : decode cX4_mayGo 15 = .ok (.ifCond .eq 16, 3) := by decide +kernel
theorem dX4_mayGo_18 : decode cX4_mayGo 18 = .ok (.aload_n 0, 1) := by decide +kernel
theorem dX4_mayGo_19 : decode cX4_mayGo 19 = .ok (.getfield 22, 3) := by decide +kernel
theorem dX4_mayGo_22 : decode cX4_mayGo 22 = .ok (.iload_n 1, 1) := by decide +kernel
theorem dX4_mayGo_23 : decode cX4_mayGo 23 = .ok (.iaload, 1) := by decide +kernel
theorem dX4_mayGo_24 : decode cX4_mayGo 24 = .ok (.aload_n 0, 1) := by decide +kernel
theorem dX4_mayGo_25 : decode cX4_mayGo 25 = .ok (.getfield 72, 3) := by decide +kernel
theorem dX4_mayGo_28 : decode cX4_mayGo 28 = .ok (.if_icmp .gt 7, 3) := by decide +kernel
theorem dX4_mayGo_31 : decode cX4_mayGo 31 = .ok (.iconst 1, 1) := by decide +kernel
theorem dX4_mayGo_32 : decode cX4_mayGo 32 = .ok (.goto 4, 3) := by decide +kernel
theorem dX4_mayGo_35 : decode cX4_mayGo 35 = .ok (.iconst 0, 1) := by decide +kernel
theorem dX4_mayGo_36 : decode cX4_mayGo 36 = .ok (.ireturn, 1) := by decide +kernel
theorem dX4_write_0 : decode cX4_write 0 = .ok (.iconst 0, 1) := by decide +kernel
theorem dX4_write_1 : decode cX4_write 1 = .ok (.istore_n 2, 1) := by decide +kernel
theorem dX4_write_2 : decode cX4_write 2 = .ok (.iload_n 2, 1) := by decide +kernel
theorem dX4_write_3 : decode cX4_write 3 = .ok (.bipush 8, 2) := by decide +kernel
theorem dX4_write_5 : decode cX4_write 5 = .ok (.if_icmp .ge 36, 3) := by decide +kernel
theorem dX4_write_8 : decode cX4_write 8 = .ok (.aload_n 0, 1) := by decide +kernel
theorem dX4_write_9 : decode cX4_write 9 = .ok (.getfield 7, 3) := by decide +kernel
theorem dX4_write_12 : decode cX4_write 12 = .ok (.bipush 8, 2) := by decide +kernel
theorem dX4_write_14 : decode cX4_write 14 = .ok (.aload_n 0, 1) := by decide +kernel
theorem dX4_write_15 : decode cX4_write 15 = .ok (.getfield 16, 3) := by decide +kernel
theorem dX4_write_18 : decode cX4_write 18 = .ok (.iload_n 1, 1) := by decide +kernel
theorem dX4_write_19 : decode cX4_write 19 = .ok (.iaload, 1) := by decide +kernel
theorem dX4_write_20 : decode cX4_write 20 = .ok (.imul, 1) := by decide +kernel
theorem dX4_write_21 : decode cX4_write 21 = .ok (.iload_n 2, 1) := by decide +kernel
theorem dX4_write_22 : decode cX4_write 22 = .ok (.iadd, 1) := by decide +kernel
theorem dX4_write_23 : decode cX4_write 23 = .ok (.aload_n 0, 1) := by decide +kernel
theorem dX4_write_24 : decode cX4_write 24 = .ok (.getfield 19, 3) := by decide +kernel
theorem dX4_write_27 : decode cX4_write 27 = .ok (.bipush 8, 2) := by decide +kernel
theorem dX4_write_29 : decode cX4_write 29 = .ok (.iload_n 1, 1) := by decide +kernel
theorem dX4_write_30 : decode cX4_write 30 = .ok (.imul, 1) := by decide +kernel
theorem dX4_write_31 : decode cX4_write 31 = .ok (.iload_n 2, 1) := by decide +kernel
theorem dX4_write_32 : decode cX4_write 32 = .ok (.iadd, 1) := by decide +kernel
theorem dX4_write_33 : decode cX4_write 33 = .ok (.iaload, 1) := by decide +kernel
theorem dX4_write_34 : decode cX4_write 34 = .ok (.iastore, 1) := by decide +kernel
theorem dX4_write_35 : decode cX4_write 35 = .ok (.iinc 2 1, 3) := by decide +kernel
theorem dX4_write_38 : decode cX4_write 38 = .ok (.goto (-36), 3) := by decide +kernel
theorem dX4_write_41 : decode cX4_write 41 = .ok (.aload_n 0, 1) := by decide +kernel
theorem dX4_write_42 : decode cX4_write 42 = .ok (.getfield 13, 3) := by decide +kernel
theorem dX4_write_45 : decode cX4_write 45 = .ok (.aload_n 0, 1) := by decide +kernel
theorem dX4_write_46 : decode cX4_write 46 = .ok (.getfield 16, 3) := by decide +kernel
theorem dX4_write_49 : decode cX4_write 49 = .ok (.iload_n 1, 1) := by decide +kernel
theorem dX4_write_50 : decode cX4_write 50 = .ok (.iaload, 1) := by decide +kernel
theorem dX4_write_51 : decode cX4_write 51 = .ok (.aload_n 0, 1) := by decide +kernel
theorem dX4_write_52 : decode cX4_write 52 = .ok (.getfield 22, 3) := by decide +kernel
theorem dX4_write_55 : decode cX4_write 55 = .ok (.iload_n 1, 1) := by decide +kernel
theorem dX4_write_56 : decode cX4_write 56 = .ok (.iaload, 1) := by decide +kernel
theorem dX4_write_57 : decode cX4_write 57 = .ok (.iastore, 1) := by decide +kernel
theorem dX4_write_58 : decode cX4_write 58 = .ok (.aload_n 0, 1) := by decide +kernel
theorem dX4_write_59 : decode cX4_write 59 = .ok (.getfield 28, 3) := by decide +kernel
theorem dX4_write_62 : decode cX4_write 62 = .ok (.iload_n 1, 1) := by decide +kernel
theorem dX4_write_63 : decode cX4_write 63 = .ok (.iconst 0, 1) := by decide +kernel
theorem dX4_write_64 : decode cX4_write 64 = .ok (.bastore, 1) := by decide +kernel
theorem dX4_write_65 : decode cX4_write 65 = .ok (.aload_n 0, 1) := by decide +kernel
theorem dX4_write_66 : decode cX4_write 66 = .ok (.dup, 1) := by decide +kernel
theorem dX4_write_67 : decode cX4_write 67 = .ok (.getfield 75, 3) := by decide +kernel
theorem dX4_write_70 : decode cX4_write 70 = .ok (.iconst 1, 1) := by decide +kernel
theorem dX4_write_71 : decode cX4_write 71 = .ok (.iadd, 1) := by decide +kernel
theorem dX4_write_72 : decode cX4_write 72 = .ok (.putfield 75, 3) := by decide +kernel
theorem dX4_write_75 : decode cX4_write 75 = .ok (.return_, 1) := by decide +kernel
theorem dX4_room_0 : decode cX4_room 0 = .ok (.iconst 0, 1) := by decide +kernel
theorem dX4_room_1 : decode cX4_room 1 = .ok (.istore_n 1, 1) := by decide +kernel
theorem dX4_room_2 : decode cX4_room 2 = .ok (.iconst 0, 1) := by decide +kernel
theorem dX4_room_3 : decode cX4_room 3 = .ok (.istore_n 2, 1) := by decide +kernel
theorem dX4_room_4 : decode cX4_room 4 = .ok (.iload_n 2, 1) := by decide +kernel
theorem dX4_room_5 : decode cX4_room 5 = .ok (.aload_n 0, 1) := by decide +kernel
theorem dX4_room_6 : decode cX4_room 6 = .ok (.getfield 65, 3) := by decide +kernel
theorem dX4_room_9 : decode cX4_room 9 = .ok (.if_icmp .ge 38, 3) := by decide +kernel
theorem dX4_room_12 : decode cX4_room 12 = .ok (.aload_n 0, 1) := by decide +kernel
theorem dX4_room_13 : decode cX4_room 13 = .ok (.getfield 16, 3) := by decide +kernel
theorem dX4_room_16 : decode cX4_room 16 = .ok (.iload_n 2, 1) := by decide +kernel
theorem dX4_room_17 : decode cX4_room 17 = .ok (.iaload, 1) := by decide +kernel
theorem dX4_room_18 : decode cX4_room 18 = .ok (.ifCond .ge 5, 3) := by decide +kernel
theorem dX4_room_21 : decode cX4_room 21 = .ok (.iload_n 2, 1) := by decide +kernel
theorem dX4_room_22 : decode cX4_room 22 = .ok (.ireturn, 1) := by decide +kernel
theorem dX4_room_23 : decode cX4_room 23 = .ok (.iload_n 1, 1) := by decide +kernel
theorem dX4_room_24 : decode cX4_room 24 = .ok (.ifCond .ne 11, 3) := by decide +kernel
theorem dX4_room_27 : decode cX4_room 27 = .ok (.aload_n 0, 1) := by decide +kernel
theorem dX4_room_28 : decode cX4_room 28 = .ok (.iload_n 2, 1) := by decide +kernel
theorem dX4_room_29 : decode cX4_room 29 = .ok (.invokevirtual 78, 3) := by decide +kernel
theorem dX4_room_32 : decode cX4_room 32 = .ok (.ifCond .eq 7, 3) := by decide +kernel
theorem dX4_room_35 : decode cX4_room 35 = .ok (.iconst 1, 1) := by decide +kernel
theorem dX4_room_36 : decode cX4_room 36 = .ok (.goto 4, 3) := by decide +kernel
theorem dX4_room_39 : decode cX4_room 39 = .ok (.iconst 0, 1) := by decide +kernel
theorem dX4_room_40 : decode cX4_room 40 = .ok (.istore_n 1, 1) := by decide +kernel
theorem dX4_room_41 : decode cX4_room 41 = .ok (.iinc 2 1, 3) := by decide +kernel
theorem dX4_room_44 : decode cX4_room 44 = .ok (.goto (-40), 3) := by decide +kernel
theorem dX4_room_47 : decode cX4_room 47 = .ok (.iload_n 1, 1) := by decide +kernel
theorem dX4_room_48 : decode cX4_room 48 = .ok (.ifCond .ne 5, 3) := by decide +kernel
theorem dX4_room_51 : decode cX4_room 51 = .ok (.iconst (-1), 1) := by decide +kernel
theorem dX4_room_52 : decode cX4_room 52 = .ok (.ireturn, 1) := by decide +kernel
theorem dX4_room_53 : decode cX4_room 53 = .ok (.aload_n 0, 1) := by decide +kernel
theorem dX4_room_54 : decode cX4_room 54 = .ok (.aload_n 0, 1) := by decide +kernel
theorem dX4_room_55 : decode cX4_room 55 = .ok (.getfield 82, 3) := by decide +kernel
theorem dX4_room_58 : decode cX4_room 58 = .ok (.invokevirtual 78, 3) := by decide +kernel
theorem dX4_room_61 : decode cX4_room 61 = .ok (.ifCond .eq 15, 3) := by decide +kernel
theorem dX4_room_64 : decode cX4_room 64 = .ok (.aload_n 0, 1) := by decide +kernel
theorem dX4_room_65 : decode cX4_room 65 = .ok (.getfield 32, 3) := by decide +kernel
theorem dX4_room_68 : decode cX4_room 68 = .ok (.aload_n 0, 1) := by decide +kernel
theorem dX4_room_69 : decode cX4_room 69 = .ok (.getfield 82, 3) := by decide +kernel
theorem dX4_room_72 : decode cX4_room 72 = .ok (.baload, 1) := by decide +kernel
theorem dX4_room_73 : decode cX4_room 73 = .ok (.ifCond .eq 42, 3) := by decide +kernel
theorem dX4_room_76 : decode cX4_room 76 = .ok (.aload_n 0, 1) := by decide +kernel
theorem dX4_room_77 : decode cX4_room 77 = .ok (.aload_n 0, 1) := by decide +kernel
theorem dX4_room_78 : decode cX4_room 78 = .ok (.getfield 82, 3) := by decide +kernel
theorem dX4_room_81 : decode cX4_room 81 = .ok (.invokevirtual 78, 3) := by decide +kernel
theorem dX4_room_84 : decode cX4_room 84 = .ok (.ifCond .eq 13, 3) := by decide +kernel
theorem dX4_room_87 : decode cX4_room 87 = .ok (.aload_n 0, 1) := by decide +kernel
theorem dX4_room_88 : decode cX4_room 88 = .ok (.getfield 32, 3) := by decide +kernel
theorem dX4_room_91 : decode cX4_room 91 = .ok (.aload_n 0, 1) := by decide +kernel
theorem dX4_room_92 : decode cX4_room 92 = .ok (.getfield 82, 3) := by decide +kernel
theorem dX4_room_95 : decode cX4_room 95 = .ok (.iconst 0, 1) := by decide +kernel
theorem dX4_room_96 : decode cX4_room 96 = .ok (.bastore, 1) := by decide +kernel
theorem dX4_room_97 : decode cX4_room 97 = .ok (.aload_n 0, 1) := by decide +kernel
theorem dX4_room_98 : decode cX4_room 98 = .ok (.aload_n 0, 1) := by decide +kernel
theorem dX4_room_99 : decode cX4_room 99 = .ok (.getfield 82, 3) := by decide +kernel
theorem dX4_room_102 : decode cX4_room 102 = .ok (.iconst 1, 1) := by decide +kernel
theorem dX4_room_103 : decode cX4_room 103 = .ok (.iadd, 1) := by decide +kernel
theorem dX4_room_104 : decode cX4_room 104 = .ok (.aload_n 0, 1) := by decide +kernel
theorem dX4_room_105 : decode cX4_room 105 = .ok (.getfield 65, 3) := by decide +kernel
theorem dX4_room_108 : decode cX4_room 108 = .ok (.irem, 1) := by decide +kernel
theorem dX4_room_109 : decode cX4_room 109 = .ok (.putfield 82, 3) := by decide +kernel
theorem dX4_room_112 : decode cX4_room 112 = .ok (.goto (-59), 3) := by decide +kernel
theorem dX4_room_115 : decode cX4_room 115 = .ok (.aload_n 0, 1) := by decide +kernel
theorem dX4_room_116 : decode cX4_room 116 = .ok (.getfield 82, 3) := by decide +kernel
theorem dX4_room_119 : decode cX4_room 119 = .ok (.istore_n 2, 1) := by decide +kernel
theorem dX4_room_120 : decode cX4_room 120 = .ok (.aload_n 0, 1) := by decide +kernel
theorem dX4_room_121 : decode cX4_room 121 = .ok (.aload_n 0, 1) := by decide +kernel
theorem dX4_room_122 : decode cX4_room 122 = .ok (.getfield 82, 3) := by decide +kernel
theorem dX4_room_125 : decode cX4_room 125 = .ok (.iconst 1, 1) := by decide +kernel
theorem dX4_room_126 : decode cX4_room 126 = .ok (.iadd, 1) := by decide +kernel
theorem dX4_room_127 : decode cX4_room 127 = .ok (.aload_n 0, 1) := by decide +kernel
theorem dX4_room_128 : decode cX4_room 128 = .ok (.getfield 65, 3) := by decide +kernel
theorem dX4_room_131 : decode cX4_room 131 = .ok (.irem, 1) := by decide +kernel
theorem dX4_room_132 : decode cX4_room 132 = .ok (.putfield 82, 3) := by decide +kernel
theorem dX4_room_135 : decode cX4_room 135 = .ok (.aload_n 0, 1) := by decide +kernel
theorem dX4_room_136 : decode cX4_room 136 = .ok (.getfield 28, 3) := by decide +kernel
theorem dX4_room_139 : decode cX4_room 139 = .ok (.iload_n 2, 1) := by decide +kernel
theorem dX4_room_140 : decode cX4_room 140 = .ok (.baload, 1) := by decide +kernel
theorem dX4_room_141 : decode cX4_room 141 = .ok (.ifCond .eq 8, 3) := by decide +kernel
theorem dX4_room_144 : decode cX4_room 144 = .ok (.aload_n 0, 1) := by decide +kernel
theorem dX4_room_145 : decode cX4_room 145 = .ok (.iload_n 2, 1) := by decide +kernel
theorem dX4_room_146 : decode cX4_room 146 = .ok (.invokevirtual 85, 3) := by decide +kernel
theorem dX4_room_149 : decode cX4_room 149 = .ok (.iload_n 2, 1) := by decide +kernel
theorem dX4_room_150 : decode cX4_room 150 = .ok (.ireturn, 1) := by decide +kernel
theorem dX4_bring_0 : decode cX4_bring 0 = .ok (.aload_n 0, 1) := by decide +kernel
theorem dX4_bring_1 : decode cX4_bring 1 = .ok (.iload_n 1, 1) := by decide +kernel
theorem dX4_bring_2 : decode cX4_bring 2 = .ok (.invokevirtual 89, 3) := by decide +kernel
theorem dX4_bring_5 : decode cX4_bring 5 = .ok (.istore_n 2, 1) := by decide +kernel
theorem dX4_bring_6 : decode cX4_bring 6 = .ok (.iload_n 2, 1) := by decide +kernel
theorem dX4_bring_7 : decode cX4_bring 7 = .ok (.ifCond .ge 93, 3) := by decide +kernel
theorem dX4_bring_10 : decode cX4_bring 10 = .ok (.aload_n 0, 1) := by decide +kernel
theorem dX4_bring_11 : decode cX4_bring 11 = .ok (.invokevirtual 93, 3) := by decide +kernel
theorem dX4_bring_14 : decode cX4_bring 14 = .ok (.istore_n 2, 1) := by decide +kernel
theorem dX4_bring_15 : decode cX4_bring 15 = .ok (.iload_n 2, 1) := by decide +kernel
theorem dX4_bring_16 : decode cX4_bring 16 = .ok (.ifCond .ge 5, 3) := by decide +kernel
theorem dX4_bring_19 : decode cX4_bring 19 = .ok (.iconst (-1), 1) := by decide +kernel
theorem dX4_bring_20 : decode cX4_bring 20 = .ok (.ireturn, 1) := by decide +kernel
theorem dX4_bring_21 : decode cX4_bring 21 = .ok (.aload_n 0, 1) := by decide +kernel
theorem dX4_bring_22 : decode cX4_bring 22 = .ok (.getfield 16, 3) := by decide +kernel
theorem dX4_bring_25 : decode cX4_bring 25 = .ok (.iload_n 2, 1) := by decide +kernel
theorem dX4_bring_26 : decode cX4_bring 26 = .ok (.iload_n 1, 1) := by decide +kernel
theorem dX4_bring_27 : decode cX4_bring 27 = .ok (.iastore, 1) := by decide +kernel
theorem dX4_bring_28 : decode cX4_bring 28 = .ok (.aload_n 0, 1) := by decide +kernel
theorem dX4_bring_29 : decode cX4_bring 29 = .ok (.getfield 25, 3) := by decide +kernel
theorem dX4_bring_32 : decode cX4_bring 32 = .ok (.iload_n 2, 1) := by decide +kernel
theorem dX4_bring_33 : decode cX4_bring 33 = .ok (.iconst 0, 1) := by decide +kernel
theorem dX4_bring_34 : decode cX4_bring 34 = .ok (.iastore, 1) := by decide +kernel
theorem dX4_bring_35 : decode cX4_bring 35 = .ok (.aload_n 0, 1) := by decide +kernel
theorem dX4_bring_36 : decode cX4_bring 36 = .ok (.getfield 28, 3) := by decide +kernel
theorem dX4_bring_39 : decode cX4_bring 39 = .ok (.iload_n 2, 1) := by decide +kernel
theorem dX4_bring_40 : decode cX4_bring 40 = .ok (.iconst 0, 1) := by decide +kernel
theorem dX4_bring_41 : decode cX4_bring 41 = .ok (.bastore, 1) := by decide +kernel
theorem dX4_bring_42 : decode cX4_bring 42 = .ok (.aload_n 0, 1) := by decide +kernel
theorem dX4_bring_43 : decode cX4_bring 43 = .ok (.getfield 22, 3) := by decide +kernel
theorem dX4_bring_46 : decode cX4_bring 46 = .ok (.iload_n 2, 1) := by decide +kernel
theorem dX4_bring_47 : decode cX4_bring 47 = .ok (.aload_n 0, 1) := by decide +kernel
theorem dX4_bring_48 : decode cX4_bring 48 = .ok (.getfield 13, 3) := by decide +kernel
theorem dX4_bring_51 : decode cX4_bring 51 = .ok (.iload_n 1, 1) := by decide +kernel
theorem dX4_bring_52 : decode cX4_bring 52 = .ok (.iaload, 1) := by decide +kernel
theorem dX4_bring_53 : decode cX4_bring 53 = .ok (.iastore, 1) := by decide +kernel
theorem dX4_bring_54 : decode cX4_bring 54 = .ok (.iconst 0, 1) := by decide +kernel
theorem dX4_bring_55 : decode cX4_bring 55 = .ok (.istore_n 3, 1) := by decide +kernel
theorem dX4_bring_56 : decode cX4_bring 56 = .ok (.iload_n 3, 1) := by decide +kernel
theorem dX4_bring_57 : decode cX4_bring 57 = .ok (.bipush 8, 2) := by decide +kernel
theorem dX4_bring_59 : decode cX4_bring 59 = .ok (.if_icmp .ge 31, 3) := by decide +kernel
theorem dX4_bring_62 : decode cX4_bring 62 = .ok (.aload_n 0, 1) := by decide +kernel
theorem dX4_bring_63 : decode cX4_bring 63 = .ok (.getfield 19, 3) := by decide +kernel
theorem dX4_bring_66 : decode cX4_bring 66 = .ok (.bipush 8, 2) := by decide +kernel
theorem dX4_bring_68 : decode cX4_bring 68 = .ok (.iload_n 2, 1) := by decide +kernel
theorem dX4_bring_69 : decode cX4_bring 69 = .ok (.imul, 1) := by decide +kernel
theorem dX4_bring_70 : decode cX4_bring 70 = .ok (.iload_n 3, 1) := by decide +kernel
theorem dX4_bring_71 : decode cX4_bring 71 = .ok (.iadd, 1) := by decide +kernel
theorem dX4_bring_72 : decode cX4_bring 72 = .ok (.aload_n 0, 1) := by decide +kernel
theorem dX4_bring_73 : decode cX4_bring 73 = .ok (.getfield 7, 3) := by decide +kernel
theorem dX4_bring_76 : decode cX4_bring 76 = .ok (.bipush 8, 2) := by decide +kernel
theorem dX4_bring_78 : decode cX4_bring 78 = .ok (.iload_n 1, 1) := by decide +kernel
theorem dX4_bring_79 : decode cX4_bring 79 = .ok (.imul, 1) := by decide +kernel
theorem dX4_bring_80 : decode cX4_bring 80 = .ok (.iload_n 3, 1) := by decide +kernel
theorem dX4_bring_81 : decode cX4_bring 81 = .ok (.iadd, 1) := by decide +kernel
theorem dX4_bring_82 : decode cX4_bring 82 = .ok (.iaload, 1) := by decide +kernel
theorem dX4_bring_83 : decode cX4_bring 83 = .ok (.iastore, 1) := by decide +kernel
theorem dX4_bring_84 : decode cX4_bring 84 = .ok (.iinc 3 1, 3) := by decide +kernel
theorem dX4_bring_87 : decode cX4_bring 87 = .ok (.goto (-31), 3) := by decide +kernel
theorem dX4_bring_90 : decode cX4_bring 90 = .ok (.aload_n 0, 1) := by decide +kernel
theorem dX4_bring_91 : decode cX4_bring 91 = .ok (.dup, 1) := by decide +kernel
theorem dX4_bring_92 : decode cX4_bring 92 = .ok (.getfield 97, 3) := by decide +kernel
theorem dX4_bring_95 : decode cX4_bring 95 = .ok (.iconst 1, 1) := by decide +kernel
theorem dX4_bring_96 : decode cX4_bring 96 = .ok (.iadd, 1) := by decide +kernel
theorem dX4_bring_97 : decode cX4_bring 97 = .ok (.putfield 97, 3) := by decide +kernel
theorem dX4_bring_100 : decode cX4_bring 100 = .ok (.aload_n 0, 1) := by decide +kernel
theorem dX4_bring_101 : decode cX4_bring 101 = .ok (.getfield 32, 3) := by decide +kernel
theorem dX4_bring_104 : decode cX4_bring 104 = .ok (.iload_n 2, 1) := by decide +kernel
theorem dX4_bring_105 : decode cX4_bring 105 = .ok (.iconst 1, 1) := by decide +kernel
theorem dX4_bring_106 : decode cX4_bring 106 = .ok (.bastore, 1) := by decide +kernel
theorem dX4_bring_107 : decode cX4_bring 107 = .ok (.iload_n 2, 1) := by decide +kernel
theorem dX4_bring_108 : decode cX4_bring 108 = .ok (.ireturn, 1) := by decide +kernel
theorem dX4_fetch_0 : decode cX4_fetch 0 = .ok (.aload_n 0, 1) := by decide +kernel
theorem dX4_fetch_1 : decode cX4_fetch 1 = .ok (.iload_n 1, 1) := by decide +kernel
theorem dX4_fetch_2 : decode cX4_fetch 2 = .ok (.iconst 0, 1) := by decide +kernel
theorem dX4_fetch_3 : decode cX4_fetch 3 = .ok (.bipush 31, 2) := by decide +kernel
theorem dX4_fetch_5 : decode cX4_fetch 5 = .ok (.invokestatic 100, 3) := by decide +kernel
theorem dX4_fetch_8 : decode cX4_fetch 8 = .ok (.ifCond .eq 7, 3) := by decide +kernel
theorem dX4_fetch_11 : decode cX4_fetch 11 = .ok (.iconst 0, 1) := by decide +kernel
theorem dX4_fetch_12 : decode cX4_fetch 12 = .ok (.goto 4, 3) := by decide +kernel
theorem dX4_fetch_15 : decode cX4_fetch 15 = .ok (.iconst 1, 1) := by decide +kernel
theorem dX4_fetch_16 : decode cX4_fetch 16 = .ok (.invokevirtual 104, 3) := by decide +kernel
theorem dX4_fetch_19 : decode cX4_fetch 19 = .ok (.ifCond .eq 5, 3) := by decide +kernel
theorem dX4_fetch_22 : decode cX4_fetch 22 = .ok (.iconst 0, 1) := by decide +kernel
theorem dX4_fetch_23 : decode cX4_fetch 23 = .ok (.ireturn, 1) := by decide +kernel
theorem dX4_fetch_24 : decode cX4_fetch 24 = .ok (.aload_n 0, 1) := by decide +kernel
theorem dX4_fetch_25 : decode cX4_fetch 25 = .ok (.iload_n 1, 1) := by decide +kernel
theorem dX4_fetch_26 : decode cX4_fetch 26 = .ok (.invokevirtual 107, 3) := by decide +kernel
theorem dX4_fetch_29 : decode cX4_fetch 29 = .ok (.istore_n 2, 1) := by decide +kernel
theorem dX4_fetch_30 : decode cX4_fetch 30 = .ok (.iload_n 2, 1) := by decide +kernel
theorem dX4_fetch_31 : decode cX4_fetch 31 = .ok (.ifCond .ge 6, 3) := by decide +kernel
theorem dX4_fetch_34 : decode cX4_fetch 34 = .ok (.bipush (-2), 2) := by decide +kernel
theorem dX4_fetch_36 : decode cX4_fetch 36 = .ok (.ireturn, 1) := by decide +kernel
theorem dX4_fetch_37 : decode cX4_fetch 37 = .ok (.aload_n 0, 1) := by decide +kernel
theorem dX4_fetch_38 : decode cX4_fetch 38 = .ok (.getfield 25, 3) := by decide +kernel
theorem dX4_fetch_41 : decode cX4_fetch 41 = .ok (.iload_n 2, 1) := by decide +kernel
theorem dX4_fetch_42 : decode cX4_fetch 42 = .ok (.dup2, 1) := by decide +kernel
theorem dX4_fetch_43 : decode cX4_fetch 43 = .ok (.iaload, 1) := by decide +kernel
theorem dX4_fetch_44 : decode cX4_fetch 44 = .ok (.iconst 1, 1) := by decide +kernel
theorem dX4_fetch_45 : decode cX4_fetch 45 = .ok (.iadd, 1) := by decide +kernel
theorem dX4_fetch_46 : decode cX4_fetch 46 = .ok (.iastore, 1) := by decide +kernel
theorem dX4_fetch_47 : decode cX4_fetch 47 = .ok (.iload_n 2, 1) := by decide +kernel
theorem dX4_fetch_48 : decode cX4_fetch 48 = .ok (.ireturn, 1) := by decide +kernel
theorem dX4_isPinned_0 : decode cX4_isPinned 0 = .ok (.aload_n 0, 1) := by decide +kernel
theorem dX4_isPinned_1 : decode cX4_isPinned 1 = .ok (.iload_n 1, 1) := by decide +kernel
theorem dX4_isPinned_2 : decode cX4_isPinned 2 = .ok (.invokevirtual 89, 3) := by decide +kernel
theorem dX4_isPinned_5 : decode cX4_isPinned 5 = .ok (.istore_n 2, 1) := by decide +kernel
theorem dX4_isPinned_6 : decode cX4_isPinned 6 = .ok (.iload_n 2, 1) := by decide +kernel
theorem dX4_isPinned_7 : decode cX4_isPinned 7 = .ok (.ifCond .lt 16, 3) := by decide +kernel
theorem dX4_isPinned_10 : decode cX4_isPinned 10 = .ok (.aload_n 0, 1) := by decide +kernel
theorem dX4_isPinned_11 : decode cX4_isPinned 11 = .ok (.getfield 25, 3) := by decide +kernel
theorem dX4_isPinned_14 : decode cX4_isPinned 14 = .ok (.iload_n 2, 1) := by decide +kernel
theorem dX4_isPinned_15 : decode cX4_isPinned 15 = .ok (.iaload, 1) := by decide +kernel
theorem dX4_isPinned_16 : decode cX4_isPinned 16 = .ok (.ifCond .le 7, 3) := by decide +kernel
theorem dX4_isPinned_19 : decode cX4_isPinned 19 = .ok (.iconst 1, 1) := by decide +kernel
theorem dX4_isPinned_20 : decode cX4_isPinned 20 = .ok (.goto 4, 3) := by decide +kernel
theorem dX4_isPinned_23 : decode cX4_isPinned 23 = .ok (.iconst 0, 1) := by decide +kernel
theorem dX4_isPinned_24 : decode cX4_isPinned 24 = .ok (.ireturn, 1) := by decide +kernel
theorem dX4_release_0 : decode cX4_release 0 = .ok (.aload_n 0, 1) := by decide +kernel
theorem dX4_release_1 : decode cX4_release 1 = .ok (.iload_n 1, 1) := by decide +kernel
theorem dX4_release_2 : decode cX4_release 2 = .ok (.iconst 0, 1) := by decide +kernel
theorem dX4_release_3 : decode cX4_release 3 = .ok (.bipush 31, 2) := by decide +kernel
theorem dX4_release_5 : decode cX4_release 5 = .ok (.invokestatic 100, 3) := by decide +kernel
theorem dX4_release_8 : decode cX4_release 8 = .ok (.ifCond .ne 7, 3) := by decide +kernel
theorem dX4_release_11 : decode cX4_release 11 = .ok (.iconst 1, 1) := by decide +kernel
theorem dX4_release_12 : decode cX4_release 12 = .ok (.goto 16, 3) := by decide +kernel
theorem dX4_release_15 : decode cX4_release 15 = .ok (.aload_n 0, 1) := by decide +kernel
theorem dX4_release_16 : decode cX4_release 16 = .ok (.iload_n 1, 1) := by decide +kernel
theorem dX4_release_17 : decode cX4_release 17 = .ok (.invokevirtual 110, 3) := by decide +kernel
theorem dX4_release_20 : decode cX4_release 20 = .ok (.ifCond .ne 7, 3) := by decide +kernel
theorem dX4_release_23 : decode cX4_release 23 = .ok (.iconst 2, 1) := by decide +kernel
theorem dX4_release_24 : decode cX4_release 24 = .ok (.goto 4, 3) := by decide +kernel
theorem dX4_release_27 : decode cX4_release 27 = .ok (.iconst 0, 1) := by decide +kernel
theorem dX4_release_28 : decode cX4_release 28 = .ok (.invokevirtual 104, 3) := by decide +kernel
theorem dX4_release_31 : decode cX4_release 31 = .ok (.ifCond .eq 5, 3) := by decide +kernel
theorem dX4_release_34 : decode cX4_release 34 = .ok (.iconst 0, 1) := by decide +kernel
theorem dX4_release_35 : decode cX4_release 35 = .ok (.ireturn, 1) := by decide +kernel
theorem dX4_release_36 : decode cX4_release 36 = .ok (.aload_n 0, 1) := by decide +kernel
theorem dX4_release_37 : decode cX4_release 37 = .ok (.iload_n 1, 1) := by decide +kernel
theorem dX4_release_38 : decode cX4_release 38 = .ok (.invokevirtual 89, 3) := by decide +kernel
theorem dX4_release_41 : decode cX4_release 41 = .ok (.istore_n 2, 1) := by decide +kernel
theorem dX4_release_42 : decode cX4_release 42 = .ok (.aload_n 0, 1) := by decide +kernel
theorem dX4_release_43 : decode cX4_release 43 = .ok (.getfield 25, 3) := by decide +kernel
theorem dX4_release_46 : decode cX4_release 46 = .ok (.iload_n 2, 1) := by decide +kernel
theorem dX4_release_47 : decode cX4_release 47 = .ok (.dup2, 1) := by decide +kernel
theorem dX4_release_48 : decode cX4_release 48 = .ok (.iaload, 1) := by decide +kernel
theorem dX4_release_49 : decode cX4_release 49 = .ok (.iconst 1, 1) := by decide +kernel
theorem dX4_release_50 : decode cX4_release 50 = .ok (.isub, 1) := by decide +kernel
theorem dX4_release_51 : decode cX4_release 51 = .ok (.iastore, 1) := by decide +kernel
theorem dX4_release_52 : decode cX4_release 52 = .ok (.aload_n 0, 1) := by decide +kernel
theorem dX4_release_53 : decode cX4_release 53 = .ok (.getfield 25, 3) := by decide +kernel
theorem dX4_release_56 : decode cX4_release 56 = .ok (.iload_n 2, 1) := by decide +kernel
theorem dX4_release_57 : decode cX4_release 57 = .ok (.iaload, 1) := by decide +kernel
theorem dX4_release_58 : decode cX4_release 58 = .ok (.ireturn, 1) := by decide +kernel
theorem dX4_get_0 : decode cX4_get 0 = .ok (.iload_n 1, 1) := by decide +kernel
theorem dX4_get_1 : decode cX4_get 1 = .ok (.iconst 0, 1) := by decide +kernel
theorem dX4_get_2 : decode cX4_get 2 = .ok (.bipush 31, 2) := by decide +kernel
theorem dX4_get_4 : decode cX4_get 4 = .ok (.invokestatic 100, 3) := by decide +kernel
theorem dX4_get_7 : decode cX4_get 7 = .ok (.ifCond .eq 17, 3) := by decide +kernel
theorem dX4_get_10 : decode cX4_get 10 = .ok (.iload_n 2, 1) := by decide +kernel
theorem dX4_get_11 : decode cX4_get 11 = .ok (.iconst 0, 1) := by decide +kernel
theorem dX4_get_12 : decode cX4_get 12 = .ok (.bipush 7, 2) := by decide +kernel
theorem dX4_get_14 : decode cX4_get 14 = .ok (.invokestatic 100, 3) := by decide +kernel
theorem dX4_get_17 : decode cX4_get 17 = .ok (.ifCond .eq 7, 3) := by decide +kernel
theorem dX4_get_20 : decode cX4_get 20 = .ok (.iconst 1, 1) := by decide +kernel
theorem dX4_get_21 : decode cX4_get 21 = .ok (.goto 4, 3) := by decide +kernel
theorem dX4_get_24 : decode cX4_get 24 = .ok (.iconst 0, 1) := by decide +kernel
theorem dX4_get_25 : decode cX4_get 25 = .ok (.istore_n 3, 1) := by decide +kernel
theorem dX4_get_26 : decode cX4_get 26 = .ok (.aload_n 0, 1) := by decide +kernel
theorem dX4_get_27 : decode cX4_get 27 = .ok (.iload_n 3, 1) := by decide +kernel
theorem dX4_get_28 : decode cX4_get 28 = .ok (.ifCond .ne 7, 3) := by decide +kernel
theorem dX4_get_31 : decode cX4_get 31 = .ok (.iconst 1, 1) := by decide +kernel
theorem dX4_get_32 : decode cX4_get 32 = .ok (.goto 16, 3) := by decide +kernel
theorem dX4_get_35 : decode cX4_get 35 = .ok (.aload_n 0, 1) := by decide +kernel
theorem dX4_get_36 : decode cX4_get 36 = .ok (.iload_n 1, 1) := by decide +kernel
theorem dX4_get_37 : decode cX4_get 37 = .ok (.invokevirtual 110, 3) := by decide +kernel
theorem dX4_get_40 : decode cX4_get 40 = .ok (.ifCond .ne 7, 3) := by decide +kernel
theorem dX4_get_43 : decode cX4_get 43 = .ok (.iconst 2, 1) := by decide +kernel
theorem dX4_get_44 : decode cX4_get 44 = .ok (.goto 4, 3) := by decide +kernel
theorem dX4_get_47 : decode cX4_get 47 = .ok (.iconst 0, 1) := by decide +kernel
theorem dX4_get_48 : decode cX4_get 48 = .ok (.invokevirtual 104, 3) := by decide +kernel
theorem dX4_get_51 : decode cX4_get 51 = .ok (.ifCond .eq 5, 3) := by decide +kernel
theorem dX4_get_54 : decode cX4_get 54 = .ok (.iconst 0, 1) := by decide +kernel
theorem dX4_get_55 : decode cX4_get 55 = .ok (.ireturn, 1) := by decide +kernel
theorem dX4_get_56 : decode cX4_get 56 = .ok (.aload_n 0, 1) := by decide +kernel
theorem dX4_get_57 : decode cX4_get 57 = .ok (.getfield 19, 3) := by decide +kernel
theorem dX4_get_60 : decode cX4_get 60 = .ok (.bipush 8, 2) := by decide +kernel
theorem dX4_get_62 : decode cX4_get 62 = .ok (.aload_n 0, 1) := by decide +kernel
theorem dX4_get_63 : decode cX4_get 63 = .ok (.iload_n 1, 1) := by decide +kernel
theorem dX4_get_64 : decode cX4_get 64 = .ok (.invokevirtual 89, 3) := by decide +kernel
theorem dX4_get_67 : decode cX4_get 67 = .ok (.imul, 1) := by decide +kernel
theorem dX4_get_68 : decode cX4_get 68 = .ok (.iload_n 2, 1) := by decide +kernel
theorem dX4_get_69 : decode cX4_get 69 = .ok (.iadd, 1) := by decide +kernel
theorem dX4_get_70 : decode cX4_get 70 = .ok (.iaload, 1) := by decide +kernel
theorem dX4_get_71 : decode cX4_get 71 = .ok (.ireturn, 1) := by decide +kernel
theorem dX4_record_0 : decode cX4_record 0 = .ok (.aload_n 0, 1) := by decide +kernel
theorem dX4_record_1 : decode cX4_record 1 = .ok (.dup, 1) := by decide +kernel
theorem dX4_record_2 : decode cX4_record 2 = .ok (.getfield 113, 3) := by decide +kernel
theorem dX4_record_5 : decode cX4_record 5 = .ok (.iconst 1, 1) := by decide +kernel
theorem dX4_record_6 : decode cX4_record 6 = .ok (.iadd, 1) := by decide +kernel
theorem dX4_record_7 : decode cX4_record 7 = .ok (.putfield 113, 3) := by decide +kernel
theorem dX4_record_10 : decode cX4_record 10 = .ok (.aload_n 0, 1) := by decide +kernel
theorem dX4_record_11 : decode cX4_record 11 = .ok (.getfield 35, 3) := by decide +kernel
theorem dX4_record_14 : decode cX4_record 14 = .ok (.aload_n 0, 1) := by decide +kernel
theorem dX4_record_15 : decode cX4_record 15 = .ok (.getfield 113, 3) := by decide +kernel
theorem dX4_record_18 : decode cX4_record 18 = .ok (.iload_n 1, 1) := by decide +kernel
theorem dX4_record_19 : decode cX4_record 19 = .ok (.iastore, 1) := by decide +kernel
theorem dX4_record_20 : decode cX4_record 20 = .ok (.aload_n 0, 1) := by decide +kernel
theorem dX4_record_21 : decode cX4_record 21 = .ok (.getfield 38, 3) := by decide +kernel
theorem dX4_record_24 : decode cX4_record 24 = .ok (.aload_n 0, 1) := by decide +kernel
theorem dX4_record_25 : decode cX4_record 25 = .ok (.getfield 113, 3) := by decide +kernel
theorem dX4_record_28 : decode cX4_record 28 = .ok (.iload_n 2, 1) := by decide +kernel
theorem dX4_record_29 : decode cX4_record 29 = .ok (.iastore, 1) := by decide +kernel
theorem dX4_record_30 : decode cX4_record 30 = .ok (.aload_n 0, 1) := by decide +kernel
theorem dX4_record_31 : decode cX4_record 31 = .ok (.getfield 41, 3) := by decide +kernel
theorem dX4_record_34 : decode cX4_record 34 = .ok (.aload_n 0, 1) := by decide +kernel
theorem dX4_record_35 : decode cX4_record 35 = .ok (.getfield 113, 3) := by decide +kernel
theorem dX4_record_38 : decode cX4_record 38 = .ok (.iconst (-1), 1) := by decide +kernel
theorem dX4_record_39 : decode cX4_record 39 = .ok (.iastore, 1) := by decide +kernel
theorem dX4_record_40 : decode cX4_record 40 = .ok (.aload_n 0, 1) := by decide +kernel
theorem dX4_record_41 : decode cX4_record 41 = .ok (.getfield 44, 3) := by decide +kernel
theorem dX4_record_44 : decode cX4_record 44 = .ok (.aload_n 0, 1) := by decide +kernel
theorem dX4_record_45 : decode cX4_record 45 = .ok (.getfield 113, 3) := by decide +kernel
theorem dX4_record_48 : decode cX4_record 48 = .ok (.iconst (-1), 1) := by decide +kernel
theorem dX4_record_49 : decode cX4_record 49 = .ok (.iastore, 1) := by decide +kernel
theorem dX4_record_50 : decode cX4_record 50 = .ok (.aload_n 0, 1) := by decide +kernel
theorem dX4_record_51 : decode cX4_record 51 = .ok (.getfield 47, 3) := by decide +kernel
theorem dX4_record_54 : decode cX4_record 54 = .ok (.aload_n 0, 1) := by decide +kernel
theorem dX4_record_55 : decode cX4_record 55 = .ok (.getfield 113, 3) := by decide +kernel
theorem dX4_record_58 : decode cX4_record 58 = .ok (.iconst (-1), 1) := by decide +kernel
theorem dX4_record_59 : decode cX4_record 59 = .ok (.iastore, 1) := by decide +kernel
theorem dX4_record_60 : decode cX4_record 60 = .ok (.aload_n 0, 1) := by decide +kernel
theorem dX4_record_61 : decode cX4_record 61 = .ok (.getfield 50, 3) := by decide +kernel
theorem dX4_record_64 : decode cX4_record 64 = .ok (.aload_n 0, 1) := by decide +kernel
theorem dX4_record_65 : decode cX4_record 65 = .ok (.getfield 113, 3) := by decide +kernel
theorem dX4_record_68 : decode cX4_record 68 = .ok (.iconst (-1), 1) := by decide +kernel
theorem dX4_record_69 : decode cX4_record 69 = .ok (.iastore, 1) := by decide +kernel
theorem dX4_record_70 : decode cX4_record 70 = .ok (.aload_n 0, 1) := by decide +kernel
theorem dX4_record_71 : decode cX4_record 71 = .ok (.getfield 53, 3) := by decide +kernel
theorem dX4_record_74 : decode cX4_record 74 = .ok (.aload_n 0, 1) := by decide +kernel
theorem dX4_record_75 : decode cX4_record 75 = .ok (.getfield 113, 3) := by decide +kernel
theorem dX4_record_78 : decode cX4_record 78 = .ok (.iconst (-1), 1) := by decide +kernel
theorem dX4_record_79 : decode cX4_record 79 = .ok (.iastore, 1) := by decide +kernel
theorem dX4_record_80 : decode cX4_record 80 = .ok (.aload_n 0, 1) := by decide +kernel
theorem dX4_record_81 : decode cX4_record 81 = .ok (.getfield 56, 3) := by decide +kernel
theorem dX4_record_84 : decode cX4_record 84 = .ok (.aload_n 0, 1) := by decide +kernel
theorem dX4_record_85 : decode cX4_record 85 = .ok (.getfield 113, 3) := by decide +kernel
theorem dX4_record_88 : decode cX4_record 88 = .ok (.iconst 0, 1) := by decide +kernel
theorem dX4_record_89 : decode cX4_record 89 = .ok (.bastore, 1) := by decide +kernel
theorem dX4_record_90 : decode cX4_record 90 = .ok (.aload_n 0, 1) := by decide +kernel
theorem dX4_record_91 : decode cX4_record 91 = .ok (.getfield 113, 3) := by decide +kernel
theorem dX4_record_94 : decode cX4_record 94 = .ok (.ireturn, 1) := by decide +kernel
theorem dX4_lastOf_0 : decode cX4_lastOf 0 = .ok (.aload_n 0, 1) := by decide +kernel
theorem dX4_lastOf_1 : decode cX4_lastOf 1 = .ok (.getfield 113, 3) := by decide +kernel
theorem dX4_lastOf_4 : decode cX4_lastOf 4 = .ok (.istore_n 2, 1) := by decide +kernel
theorem dX4_lastOf_5 : decode cX4_lastOf 5 = .ok (.iload_n 2, 1) := by decide +kernel
theorem dX4_lastOf_6 : decode cX4_lastOf 6 = .ok (.ifCond .le 71, 3) := by decide +kernel
theorem dX4_lastOf_9 : decode cX4_lastOf 9 = .ok (.aload_n 0, 1) := by decide +kernel
theorem dX4_lastOf_10 : decode cX4_lastOf 10 = .ok (.getfield 38, 3) := by decide +kernel
theorem dX4_lastOf_13 : decode cX4_lastOf 13 = .ok (.iload_n 2, 1) := by decide +kernel
theorem dX4_lastOf_14 : decode cX4_lastOf 14 = .ok (.iaload, 1) := by decide +kernel
theorem dX4_lastOf_15 : decode cX4_lastOf 15 = .ok (.iload_n 1, 1) := by decide +kernel
theorem dX4_lastOf_16 : decode cX4_lastOf 16 = .ok (.if_icmp .ne 25, 3) := by decide +kernel
theorem dX4_lastOf_19 : decode cX4_lastOf 19 = .ok (.aload_n 0, 1) := by decide +kernel
theorem dX4_lastOf_20 : decode cX4_lastOf 20 = .ok (.getfield 35, 3) := by decide +kernel
theorem dX4_lastOf_23 : decode cX4_lastOf 23 = .ok (.iload_n 2, 1) := by decide +kernel
theorem dX4_lastOf_24 : decode cX4_lastOf 24 = .ok (.iaload, 1) := by decide +kernel
theorem dX4_lastOf_25 : decode cX4_lastOf 25 = .ok (.iconst 2, 1) := by decide +kernel
theorem dX4_lastOf_26 : decode cX4_lastOf 26 = .ok (.if_icmp .eq 13, 3) := by decide +kernel
theorem dX4_lastOf_29 : decode cX4_lastOf 29 = .ok (.aload_n 0, 1) := by decide +kernel
theorem dX4_lastOf_30 : decode cX4_lastOf 30 = .ok (.getfield 35, 3) := by decide +kernel
theorem dX4_lastOf_33 : decode cX4_lastOf 33 = .ok (.iload_n 2, 1) := by decide +kernel
theorem dX4_lastOf_34 : decode cX4_lastOf 34 = .ok (.iaload, 1) := by decide +kernel
theorem dX4_lastOf_35 : decode cX4_lastOf 35 = .ok (.iconst 3, 1) := by decide +kernel
theorem dX4_lastOf_36 : decode cX4_lastOf 36 = .ok (.if_icmp .ne 5, 3) := by decide +kernel
theorem dX4_lastOf_39 : decode cX4_lastOf 39 = .ok (.iconst 0, 1) := by decide +kernel
theorem dX4_lastOf_40 : decode cX4_lastOf 40 = .ok (.ireturn, 1) := by decide +kernel
theorem dX4_lastOf_41 : decode cX4_lastOf 41 = .ok (.aload_n 0, 1) := by decide +kernel
theorem dX4_lastOf_42 : decode cX4_lastOf 42 = .ok (.getfield 38, 3) := by decide +kernel
theorem dX4_lastOf_45 : decode cX4_lastOf 45 = .ok (.iload_n 2, 1) := by decide +kernel
theorem dX4_lastOf_46 : decode cX4_lastOf 46 = .ok (.iaload, 1) := by decide +kernel
theorem dX4_lastOf_47 : decode cX4_lastOf 47 = .ok (.iload_n 1, 1) := by decide +kernel
theorem dX4_lastOf_48 : decode cX4_lastOf 48 = .ok (.if_icmp .ne 23, 3) := by decide +kernel
theorem dX4_lastOf_51 : decode cX4_lastOf 51 = .ok (.aload_n 0, 1) := by decide +kernel
theorem dX4_lastOf_52 : decode cX4_lastOf 52 = .ok (.getfield 35, 3) := by decide +kernel
theorem dX4_lastOf_55 : decode cX4_lastOf 55 = .ok (.iload_n 2, 1) := by decide +kernel
theorem dX4_lastOf_56 : decode cX4_lastOf 56 = .ok (.iaload, 1) := by decide +kernel
theorem dX4_lastOf_57 : decode cX4_lastOf 57 = .ok (.ifCond .ne 14, 3) := by decide +kernel
theorem dX4_lastOf_60 : decode cX4_lastOf 60 = .ok (.aload_n 0, 1) := by decide +kernel
theorem dX4_lastOf_61 : decode cX4_lastOf 61 = .ok (.getfield 56, 3) := by decide +kernel
theorem dX4_lastOf_64 : decode cX4_lastOf 64 = .ok (.iload_n 2, 1) := by decide +kernel
theorem dX4_lastOf_65 : decode cX4_lastOf 65 = .ok (.baload, 1) := by decide +kernel
theorem dX4_lastOf_66 : decode cX4_lastOf 66 = .ok (.ifCond .ne 5, 3) := by decide +kernel
theorem dX4_lastOf_69 : decode cX4_lastOf 69 = .ok (.iload_n 2, 1) := by decide +kernel
theorem dX4_lastOf_70 : decode cX4_lastOf 70 = .ok (.ireturn, 1) := by decide +kernel
theorem dX4_lastOf_71 : decode cX4_lastOf 71 = .ok (.iinc 2 (-1), 3) := by decide +kernel
theorem dX4_lastOf_74 : decode cX4_lastOf 74 = .ok (.goto (-69), 3) := by decide +kernel
theorem dX4_lastOf_77 : decode cX4_lastOf 77 = .ok (.iconst 0, 1) := by decide +kernel
theorem dX4_lastOf_78 : decode cX4_lastOf 78 = .ok (.ireturn, 1) := by decide +kernel
theorem dX4_undosOf_0 : decode cX4_undosOf 0 = .ok (.iconst 0, 1) := by decide +kernel
theorem dX4_undosOf_1 : decode cX4_undosOf 1 = .ok (.istore_n 2, 1) := by decide +kernel
theorem dX4_undosOf_2 : decode cX4_undosOf 2 = .ok (.aload_n 0, 1) := by decide +kernel
theorem dX4_undosOf_3 : decode cX4_undosOf 3 = .ok (.getfield 113, 3) := by decide +kernel
theorem dX4_undosOf_6 : decode cX4_undosOf 6 = .ok (.istore_n 3, 1) := by decide +kernel
theorem dX4_undosOf_7 : decode cX4_undosOf 7 = .ok (.iload_n 3, 1) := by decide +kernel
theorem dX4_undosOf_8 : decode cX4_undosOf 8 = .ok (.ifCond .le 77, 3) := by decide +kernel
theorem dX4_undosOf_11 : decode cX4_undosOf 11 = .ok (.aload_n 0, 1) := by decide +kernel
theorem dX4_undosOf_12 : decode cX4_undosOf 12 = .ok (.getfield 38, 3) := by decide +kernel
theorem dX4_undosOf_15 : decode cX4_undosOf 15 = .ok (.iload_n 3, 1) := by decide +kernel
theorem dX4_undosOf_16 : decode cX4_undosOf 16 = .ok (.iaload, 1) := by decide +kernel
theorem dX4_undosOf_17 : decode cX4_undosOf 17 = .ok (.iload_n 1, 1) := by decide +kernel
theorem dX4_undosOf_18 : decode cX4_undosOf 18 = .ok (.if_icmp .ne 25, 3) := by decide +kernel
theorem dX4_undosOf_21 : decode cX4_undosOf 21 = .ok (.aload_n 0, 1) := by decide +kernel
theorem dX4_undosOf_22 : decode cX4_undosOf 22 = .ok (.getfield 35, 3) := by decide +kernel
theorem dX4_undosOf_25 : decode cX4_undosOf 25 = .ok (.iload_n 3, 1) := by decide +kernel
theorem dX4_undosOf_26 : decode cX4_undosOf 26 = .ok (.iaload, 1) := by decide +kernel
theorem dX4_undosOf_27 : decode cX4_undosOf 27 = .ok (.iconst 2, 1) := by decide +kernel
theorem dX4_undosOf_28 : decode cX4_undosOf 28 = .ok (.if_icmp .eq 13, 3) := by decide +kernel
theorem dX4_undosOf_31 : decode cX4_undosOf 31 = .ok (.aload_n 0, 1) := by decide +kernel
theorem dX4_undosOf_32 : decode cX4_undosOf 32 = .ok (.getfield 35, 3) := by decide +kernel
theorem dX4_undosOf_35 : decode cX4_undosOf 35 = .ok (.iload_n 3, 1) := by decide +kernel
theorem dX4_undosOf_36 : decode cX4_undosOf 36 = .ok (.iaload, 1) := by decide +kernel
theorem dX4_undosOf_37 : decode cX4_undosOf 37 = .ok (.iconst 3, 1) := by decide +kernel
theorem dX4_undosOf_38 : decode cX4_undosOf 38 = .ok (.if_icmp .ne 5, 3) := by decide +kernel
theorem dX4_undosOf_41 : decode cX4_undosOf 41 = .ok (.iload_n 2, 1) := by decide +kernel
theorem dX4_undosOf_42 : decode cX4_undosOf 42 = .ok (.ireturn, 1) := by decide +kernel
theorem dX4_undosOf_43 : decode cX4_undosOf 43 = .ok (.aload_n 0, 1) := by decide +kernel
theorem dX4_undosOf_44 : decode cX4_undosOf 44 = .ok (.getfield 38, 3) := by decide +kernel
theorem dX4_undosOf_47 : decode cX4_undosOf 47 = .ok (.iload_n 3, 1) := by decide +kernel
theorem dX4_undosOf_48 : decode cX4_undosOf 48 = .ok (.iaload, 1) := by decide +kernel
theorem dX4_undosOf_49 : decode cX4_undosOf 49 = .ok (.iload_n 1, 1) := by decide +kernel
theorem dX4_undosOf_50 : decode cX4_undosOf 50 = .ok (.if_icmp .ne 27, 3) := by decide +kernel
theorem dX4_undosOf_53 : decode cX4_undosOf 53 = .ok (.aload_n 0, 1) := by decide +kernel
theorem dX4_undosOf_54 : decode cX4_undosOf 54 = .ok (.getfield 35, 3) := by decide +kernel
theorem dX4_undosOf_57 : decode cX4_undosOf 57 = .ok (.iload_n 3, 1) := by decide +kernel
theorem dX4_undosOf_58 : decode cX4_undosOf 58 = .ok (.iaload, 1) := by decide +kernel
theorem dX4_undosOf_59 : decode cX4_undosOf 59 = .ok (.ifCond .ne 18, 3) := by decide +kernel
theorem dX4_undosOf_62 : decode cX4_undosOf 62 = .ok (.aload_n 0, 1) := by decide +kernel
theorem dX4_undosOf_63 : decode cX4_undosOf 63 = .ok (.getfield 56, 3) := by decide +kernel
theorem dX4_undosOf_66 : decode cX4_undosOf 66 = .ok (.iload_n 3, 1) := by decide +kernel
theorem dX4_undosOf_67 : decode cX4_undosOf 67 = .ok (.baload, 1) := by decide +kernel
theorem dX4_undosOf_68 : decode cX4_undosOf 68 = .ok (.ifCond .ne 9, 3) := by decide +kernel
theorem dX4_undosOf_71 : decode cX4_undosOf 71 = .ok (.iload_n 2, 1) := by decide +kernel
theorem dX4_undosOf_72 : decode cX4_undosOf 72 = .ok (.iconst 1, 1) := by decide +kernel
theorem dX4_undosOf_73 : decode cX4_undosOf 73 = .ok (.iadd, 1) := by decide +kernel
theorem dX4_undosOf_74 : decode cX4_undosOf 74 = .ok (.goto 4, 3) := by decide +kernel
theorem dX4_undosOf_77 : decode cX4_undosOf 77 = .ok (.iload_n 2, 1) := by decide +kernel
theorem dX4_undosOf_78 : decode cX4_undosOf 78 = .ok (.istore_n 2, 1) := by decide +kernel
theorem dX4_undosOf_79 : decode cX4_undosOf 79 = .ok (.iinc 3 (-1), 3) := by decide +kernel
theorem dX4_undosOf_82 : decode cX4_undosOf 82 = .ok (.goto (-75), 3) := by decide +kernel
theorem dX4_undosOf_85 : decode cX4_undosOf 85 = .ok (.iload_n 2, 1) := by decide +kernel
theorem dX4_undosOf_86 : decode cX4_undosOf 86 = .ok (.ireturn, 1) := by decide +kernel
theorem dX4_needed_0 : decode cX4_needed 0 = .ok (.iconst 0, 1) := by decide +kernel
theorem dX4_needed_1 : decode cX4_needed 1 = .ok (.istore_n 1, 1) := by decide +kernel
theorem dX4_needed_2 : decode cX4_needed 2 = .ok (.iconst 0, 1) := by decide +kernel
theorem dX4_needed_3 : decode cX4_needed 3 = .ok (.istore_n 2, 1) := by decide +kernel
theorem dX4_needed_4 : decode cX4_needed 4 = .ok (.iload_n 2, 1) := by decide +kernel
theorem dX4_needed_5 : decode cX4_needed 5 = .ok (.bipush 8, 2) := by decide +kernel
theorem dX4_needed_7 : decode cX4_needed 7 = .ok (.if_icmp .ge 32, 3) := by decide +kernel
theorem dX4_needed_10 : decode cX4_needed 10 = .ok (.aload_n 0, 1) := by decide +kernel
theorem dX4_needed_11 : decode cX4_needed 11 = .ok (.getfield 59, 3) := by decide +kernel
theorem dX4_needed_14 : decode cX4_needed 14 = .ok (.iload_n 2, 1) := by decide +kernel
theorem dX4_needed_15 : decode cX4_needed 15 = .ok (.baload, 1) := by decide +kernel
theorem dX4_needed_16 : decode cX4_needed 16 = .ok (.ifCond .eq 15, 3) := by decide +kernel
theorem dX4_needed_19 : decode cX4_needed 19 = .ok (.iload_n 1, 1) := by decide +kernel
theorem dX4_needed_20 : decode cX4_needed 20 = .ok (.iconst 1, 1) := by decide +kernel
theorem dX4_needed_21 : decode cX4_needed 21 = .ok (.iadd, 1) := by decide +kernel
theorem dX4_needed_22 : decode cX4_needed 22 = .ok (.aload_n 0, 1) := by decide +kernel
theorem dX4_needed_23 : decode cX4_needed 23 = .ok (.iload_n 2, 1) := by decide +kernel
theorem dX4_needed_24 : decode cX4_needed 24 = .ok (.invokevirtual 116, 3) := by decide +kernel
theorem dX4_needed_27 : decode cX4_needed 27 = .ok (.iadd, 1) := by decide +kernel
theorem dX4_needed_28 : decode cX4_needed 28 = .ok (.goto 4, 3) := by decide +kernel
theorem dX4_needed_31 : decode cX4_needed 31 = .ok (.iload_n 1, 1) := by decide +kernel
theorem dX4_needed_32 : decode cX4_needed 32 = .ok (.istore_n 1, 1) := by decide +kernel
theorem dX4_needed_33 : decode cX4_needed 33 = .ok (.iinc 2 1, 3) := by decide +kernel
theorem dX4_needed_36 : decode cX4_needed 36 = .ok (.goto (-32), 3) := by decide +kernel
theorem dX4_needed_39 : decode cX4_needed 39 = .ok (.iload_n 1, 1) := by decide +kernel
theorem dX4_needed_40 : decode cX4_needed 40 = .ok (.ireturn, 1) := by decide +kernel
theorem dX4_begin_0 : decode cX4_begin 0 = .ok (.aload_n 0, 1) := by decide +kernel
theorem dX4_begin_1 : decode cX4_begin 1 = .ok (.iconst 0, 1) := by decide +kernel
theorem dX4_begin_2 : decode cX4_begin 2 = .ok (.putfield 69, 3) := by decide +kernel
theorem dX4_begin_5 : decode cX4_begin 5 = .ok (.iconst 0, 1) := by decide +kernel
theorem dX4_begin_6 : decode cX4_begin 6 = .ok (.istore_n 1, 1) := by decide +kernel
theorem dX4_begin_7 : decode cX4_begin 7 = .ok (.iload_n 1, 1) := by decide +kernel
theorem dX4_begin_8 : decode cX4_begin 8 = .ok (.bipush 8, 2) := by decide +kernel
theorem dX4_begin_10 : decode cX4_begin 10 = .ok (.if_icmp .ge 18, 3) := by decide +kernel
theorem dX4_begin_13 : decode cX4_begin 13 = .ok (.aload_n 0, 1) := by decide +kernel
theorem dX4_begin_14 : decode cX4_begin 14 = .ok (.getfield 59, 3) := by decide +kernel
theorem dX4_begin_17 : decode cX4_begin 17 = .ok (.iload_n 1, 1) := by decide +kernel
theorem dX4_begin_18 : decode cX4_begin 18 = .ok (.baload, 1) := by decide +kernel
theorem dX4_begin_19 : decode cX4_begin 19 = .ok (.ifCond .eq 9, 3) := by decide +kernel
theorem dX4_begin_22 : decode cX4_begin 22 = .ok (.iinc 1 1, 3) := by decide +kernel
theorem dX4_begin_25 : decode cX4_begin 25 = .ok (.goto (-18), 3) := by decide +kernel
theorem dX4_begin_28 : decode cX4_begin 28 = .ok (.iload_n 1, 1) := by decide +kernel
theorem dX4_begin_29 : decode cX4_begin 29 = .ok (.bipush 8, 2) := by decide +kernel
theorem dX4_begin_31 : decode cX4_begin 31 = .ok (.if_icmp .eq 20, 3) := by decide +kernel
theorem dX4_begin_34 : decode cX4_begin 34 = .ok (.aload_n 0, 1) := by decide +kernel
theorem dX4_begin_35 : decode cX4_begin 35 = .ok (.getfield 113, 3) := by decide +kernel
theorem dX4_begin_38 : decode cX4_begin 38 = .ok (.aload_n 0, 1) := by decide +kernel
theorem dX4_begin_39 : decode cX4_begin 39 = .ok (.invokevirtual 119, 3) := by decide +kernel
theorem dX4_begin_42 : decode cX4_begin 42 = .ok (.iadd, 1) := by decide +kernel
theorem dX4_begin_43 : decode cX4_begin 43 = .ok (.iconst 2, 1) := by decide +kernel
theorem dX4_begin_44 : decode cX4_begin 44 = .ok (.iadd, 1) := by decide +kernel
theorem dX4_begin_45 : decode cX4_begin 45 = .ok (.sipush 400, 3) := by decide +kernel
theorem dX4_begin_48 : decode cX4_begin 48 = .ok (.if_icmp .le 6, 3) := by decide +kernel
theorem dX4_begin_51 : decode cX4_begin 51 = .ok (.bipush (-2), 2) := by decide +kernel
theorem dX4_begin_53 : decode cX4_begin 53 = .ok (.ireturn, 1) := by decide +kernel
theorem dX4_begin_54 : decode cX4_begin 54 = .ok (.aload_n 0, 1) := by decide +kernel
theorem dX4_begin_55 : decode cX4_begin 55 = .ok (.getfield 59, 3) := by decide +kernel
theorem dX4_begin_58 : decode cX4_begin 58 = .ok (.iload_n 1, 1) := by decide +kernel
theorem dX4_begin_59 : decode cX4_begin 59 = .ok (.iconst 1, 1) := by decide +kernel
theorem dX4_begin_60 : decode cX4_begin 60 = .ok (.bastore, 1) := by decide +kernel
theorem dX4_begin_61 : decode cX4_begin 61 = .ok (.aload_n 0, 1) := by decide +kernel
theorem dX4_begin_62 : decode cX4_begin 62 = .ok (.getfield 62, 3) := by decide +kernel
theorem dX4_begin_65 : decode cX4_begin 65 = .ok (.iload_n 1, 1) := by decide +kernel
theorem dX4_begin_66 : decode cX4_begin 66 = .ok (.iconst 0, 1) := by decide +kernel
theorem dX4_begin_67 : decode cX4_begin 67 = .ok (.bastore, 1) := by decide +kernel
theorem dX4_begin_68 : decode cX4_begin 68 = .ok (.iload_n 1, 1) := by decide +kernel
theorem dX4_begin_69 : decode cX4_begin 69 = .ok (.ireturn, 1) := by decide +kernel
theorem dX4_set_0 : decode cX4_set 0 = .ok (.iload_n 1, 1) := by decide +kernel
theorem dX4_set_1 : decode cX4_set 1 = .ok (.iconst 0, 1) := by decide +kernel
theorem dX4_set_2 : decode cX4_set 2 = .ok (.bipush 7, 2) := by decide +kernel
theorem dX4_set_4 : decode cX4_set 4 = .ok (.invokestatic 100, 3) := by decide +kernel
theorem dX4_set_7 : decode cX4_set 7 = .ok (.ifCond .eq 27, 3) := by decide +kernel
theorem dX4_set_10 : decode cX4_set 10 = .ok (.iload_n 2, 1) := by decide +kernel
theorem dX4_set_11 : decode cX4_set 11 = .ok (.iconst 0, 1) := by decide +kernel
theorem dX4_set_12 : decode cX4_set 12 = .ok (.bipush 31, 2) := by decide +kernel
theorem dX4_set_14 : decode cX4_set 14 = .ok (.invokestatic 100, 3) := by decide +kernel
theorem dX4_set_17 : decode cX4_set 17 = .ok (.ifCond .eq 17, 3) := by decide +kernel
theorem dX4_set_20 : decode cX4_set 20 = .ok (.iload_n 3, 1) := by decide +kernel
theorem dX4_set_21 : decode cX4_set 21 = .ok (.iconst 0, 1) := by decide +kernel
theorem dX4_set_22 : decode cX4_set 22 = .ok (.bipush 7, 2) := by decide +kernel
theorem dX4_set_24 : decode cX4_set 24 = .ok (.invokestatic 100, 3) := by decide +kernel
theorem dX4_set_27 : decode cX4_set 27 = .ok (.ifCond .eq 7, 3) := by decide +kernel
theorem dX4_set_30 : decode cX4_set 30 = .ok (.iconst 1, 1) := by decide +kernel
theorem dX4_set_31 : decode cX4_set 31 = .ok (.goto 4, 3) := by decide +kernel
theorem dX4_set_34 : decode cX4_set 34 = .ok (.iconst 0, 1) := by decide +kernel
theorem dX4_set_35 : decode cX4_set 35 = .ok (.istore 5, 2) := by decide +kernel
theorem dX4_set_37 : decode cX4_set 37 = .ok (.aload_n 0, 1) := by decide +kernel
theorem dX4_set_38 : decode cX4_set 38 = .ok (.iload 5, 2) := by decide +kernel
theorem dX4_set_40 : decode cX4_set 40 = .ok (.ifCond .ne 7, 3) := by decide +kernel
theorem dX4_set_43 : decode cX4_set 43 = .ok (.iconst 1, 1) := by decide +kernel
theorem dX4_set_44 : decode cX4_set 44 = .ok (.goto 34, 3) := by decide +kernel
theorem dX4_set_47 : decode cX4_set 47 = .ok (.aload_n 0, 1) := by decide +kernel
theorem dX4_set_48 : decode cX4_set 48 = .ok (.getfield 59, 3) := by decide +kernel
theorem dX4_set_51 : decode cX4_set 51 = .ok (.iload_n 1, 1) := by decide +kernel
theorem dX4_set_52 : decode cX4_set 52 = .ok (.baload, 1) := by decide +kernel
theorem dX4_set_53 : decode cX4_set 53 = .ok (.ifCond .eq 20, 3) := by decide +kernel
theorem dX4_set_56 : decode cX4_set 56 = .ok (.aload_n 0, 1) := by decide +kernel
theorem dX4_set_57 : decode cX4_set 57 = .ok (.getfield 62, 3) := by decide +kernel
theorem dX4_set_60 : decode cX4_set 60 = .ok (.iload_n 1, 1) := by decide +kernel
theorem dX4_set_61 : decode cX4_set 61 = .ok (.baload, 1) := by decide +kernel
theorem dX4_set_62 : decode cX4_set 62 = .ok (.ifCond .ne 11, 3) := by decide +kernel
theorem dX4_set_65 : decode cX4_set 65 = .ok (.aload_n 0, 1) := by decide +kernel
theorem dX4_set_66 : decode cX4_set 66 = .ok (.iload_n 2, 1) := by decide +kernel
theorem dX4_set_67 : decode cX4_set 67 = .ok (.invokevirtual 110, 3) := by decide +kernel
theorem dX4_set_70 : decode cX4_set 70 = .ok (.ifCond .ne 7, 3) := by decide +kernel
theorem dX4_set_73 : decode cX4_set 73 = .ok (.iconst 2, 1) := by decide +kernel
theorem dX4_set_74 : decode cX4_set 74 = .ok (.goto 4, 3) := by decide +kernel
theorem dX4_set_77 : decode cX4_set 77 = .ok (.iconst 0, 1) := by decide +kernel
theorem dX4_set_78 : decode cX4_set 78 = .ok (.invokevirtual 104, 3) := by decide +kernel
theorem dX4_set_81 : decode cX4_set 81 = .ok (.ifCond .eq 5, 3) := by decide +kernel
theorem dX4_set_84 : decode cX4_set 84 = .ok (.iconst 0, 1) := by decide +kernel
theorem dX4_set_85 : decode cX4_set 85 = .ok (.ireturn, 1) := by decide +kernel
theorem dX4_set_86 : decode cX4_set 86 = .ok (.aload_n 0, 1) := by decide +kernel
theorem dX4_set_87 : decode cX4_set 87 = .ok (.getfield 113, 3) := by decide +kernel
theorem dX4_set_90 : decode cX4_set 90 = .ok (.iconst 1, 1) := by decide +kernel
theorem dX4_set_91 : decode cX4_set 91 = .ok (.iadd, 1) := by decide +kernel
theorem dX4_set_92 : decode cX4_set 92 = .ok (.aload_n 0, 1) := by decide +kernel
theorem dX4_set_93 : decode cX4_set 93 = .ok (.invokevirtual 119, 3) := by decide +kernel
theorem dX4_set_96 : decode cX4_set 96 = .ok (.iadd, 1) := by decide +kernel
theorem dX4_set_97 : decode cX4_set 97 = .ok (.iconst 1, 1) := by decide +kernel
theorem dX4_set_98 : decode cX4_set 98 = .ok (.iadd, 1) := by decide +kernel
theorem dX4_set_99 : decode cX4_set 99 = .ok (.iconst 1, 1) := by decide +kernel
theorem dX4_set_100 : decode cX4_set 100 = .ok (.iadd, 1) := by decide +kernel
theorem dX4_set_101 : decode cX4_set 101 = .ok (.sipush 400, 3) := by decide +kernel
theorem dX4_set_104 : decode cX4_set 104 = .ok (.if_icmp .le 6, 3) := by decide +kernel
theorem dX4_set_107 : decode cX4_set 107 = .ok (.bipush (-2), 2) := by decide +kernel
theorem dX4_set_109 : decode cX4_set 109 = .ok (.ireturn, 1) := by decide +kernel
theorem dX4_set_110 : decode cX4_set 110 = .ok (.aload_n 0, 1) := by decide +kernel
theorem dX4_set_111 : decode cX4_set 111 = .ok (.iload_n 2, 1) := by decide +kernel
theorem dX4_set_112 : decode cX4_set 112 = .ok (.invokevirtual 89, 3) := by decide +kernel
theorem dX4_set_115 : decode cX4_set 115 = .ok (.istore 6, 2) := by decide +kernel
theorem dX4_set_117 : decode cX4_set 117 = .ok (.aload_n 0, 1) := by decide +kernel
theorem dX4_set_118 : decode cX4_set 118 = .ok (.iconst 0, 1) := by decide +kernel
theorem dX4_set_119 : decode cX4_set 119 = .ok (.iload_n 1, 1) := by decide +kernel
theorem dX4_set_120 : decode cX4_set 120 = .ok (.invokevirtual 122, 3) := by decide +kernel
theorem dX4_set_123 : decode cX4_set 123 = .ok (.istore 7, 2) := by decide +kernel
theorem dX4_set_125 : decode cX4_set 125 = .ok (.aload_n 0, 1) := by decide +kernel
theorem dX4_set_126 : decode cX4_set 126 = .ok (.getfield 41, 3) := by decide +kernel
theorem dX4_set_129 : decode cX4_set 129 = .ok (.iload 7, 2) := by decide +kernel
theorem dX4_set_131 : decode cX4_set 131 = .ok (.iload_n 2, 1) := by decide +kernel
theorem dX4_set_132 : decode cX4_set 132 = .ok (.iastore, 1) := by decide +kernel
theorem dX4_set_133 : decode cX4_set 133 = .ok (.aload_n 0, 1) := by decide +kernel
theorem dX4_set_134 : decode cX4_set 134 = .ok (.getfield 44, 3) := by decide +kernel
theorem dX4_set_137 : decode cX4_set 137 = .ok (.iload 7, 2) := by decide +kernel
theorem dX4_set_139 : decode cX4_set 139 = .ok (.iload_n 3, 1) := by decide +kernel
theorem dX4_set_140 : decode cX4_set 140 = .ok (.iastore, 1) := by decide +kernel
theorem dX4_set_141 : decode cX4_set 141 = .ok (.aload_n 0, 1) := by decide +kernel
theorem dX4_set_142 : decode cX4_set 142 = .ok (.getfield 47, 3) := by decide +kernel
theorem dX4_set_145 : decode cX4_set 145 = .ok (.iload 7, 2) := by decide +kernel
theorem dX4_set_147 : decode cX4_set 147 = .ok (.aload_n 0, 1) := by decide +kernel
theorem dX4_set_148 : decode cX4_set 148 = .ok (.getfield 19, 3) := by decide +kernel
theorem dX4_set_151 : decode cX4_set 151 = .ok (.bipush 8, 2) := by decide +kernel
theorem dX4_set_153 : decode cX4_set 153 = .ok (.iload 6, 2) := by decide +kernel
theorem dX4_set_155 : decode cX4_set 155 = .ok (.imul, 1) := by decide +kernel
theorem dX4_set_156 : decode cX4_set 156 = .ok (.iload_n 3, 1) := by decide +kernel
theorem dX4_set_157 : decode cX4_set 157 = .ok (.iadd, 1) := by decide +kernel
theorem dX4_set_158 : decode cX4_set 158 = .ok (.iaload, 1) := by decide +kernel
theorem dX4_set_159 : decode cX4_set 159 = .ok (.iastore, 1) := by decide +kernel
theorem dX4_set_160 : decode cX4_set 160 = .ok (.aload_n 0, 1) := by decide +kernel
theorem dX4_set_161 : decode cX4_set 161 = .ok (.getfield 50, 3) := by decide +kernel
theorem dX4_set_164 : decode cX4_set 164 = .ok (.iload 7, 2) := by decide +kernel
theorem dX4_set_166 : decode cX4_set 166 = .ok (.iload 4, 2) := by decide +kernel
theorem dX4_set_168 : decode cX4_set 168 = .ok (.iastore, 1) := by decide +kernel
theorem dX4_set_169 : decode cX4_set 169 = .ok (.aload_n 0, 1) := by decide +kernel
theorem dX4_set_170 : decode cX4_set 170 = .ok (.getfield 19, 3) := by decide +kernel
theorem dX4_set_173 : decode cX4_set 173 = .ok (.bipush 8, 2) := by decide +kernel
theorem dX4_set_175 : decode cX4_set 175 = .ok (.iload 6, 2) := by decide +kernel
theorem dX4_set_177 : decode cX4_set 177 = .ok (.imul, 1) := by decide +kernel
theorem dX4_set_178 : decode cX4_set 178 = .ok (.iload_n 3, 1) := by decide +kernel
theorem dX4_set_179 : decode cX4_set 179 = .ok (.iadd, 1) := by decide +kernel
theorem dX4_set_180 : decode cX4_set 180 = .ok (.iload 4, 2) := by decide +kernel
end
section
theorem dX4_set_182 : decode cX4_set 182 = .ok (.iastore, 1) := by decide +kernel
theorem dX4_set_183 : decode cX4_set 183 = .ok (.aload_n 0, 1) := by decide +kernel
theorem dX4_set_184 : decode cX4_set 184 = .ok (.getfield 22, 3) := by decide +kernel
theorem dX4_set_187 : decode cX4_set 187 = .ok (.iload 6, 2) := by decide +kernel
theorem dX4_set_189 : decode cX4_set 189 = .ok (.iload 7, 2) := by decide +kernel
theorem dX4_set_191 : decode cX4_set 191 = .ok (.iastore, 1) := by decide +kernel
theorem dX4_set_192 : decode cX4_set 192 = .ok (.aload_n 0, 1) := by decide +kernel
theorem dX4_set_193 : decode cX4_set 193 = .ok (.getfield 28, 3) := by decide +kernel
theorem dX4_set_196 : decode cX4_set 196 = .ok (.iload 6, 2) := by decide +kernel
theorem dX4_set_198 : decode cX4_set 198 = .ok (.iconst 1, 1) := by decide +kernel
theorem dX4_set_199 : decode cX4_set 199 = .ok (.bastore, 1) := by decide +kernel
theorem dX4_set_200 : decode cX4_set 200 = .ok (.iload 7, 2) := by decide +kernel
theorem dX4_set_202 : decode cX4_set 202 = .ok (.ireturn, 1) := by decide +kernel
theorem dX4_commit_0 : decode cX4_commit 0 = .ok (.aload_n 0, 1) := by decide +kernel
theorem dX4_commit_1 : decode cX4_commit 1 = .ok (.iload_n 1, 1) := by decide +kernel
theorem dX4_commit_2 : decode cX4_commit 2 = .ok (.iconst 0, 1) := by decide +kernel
theorem dX4_commit_3 : decode cX4_commit 3 = .ok (.bipush 7, 2) := by decide +kernel
theorem dX4_commit_5 : decode cX4_commit 5 = .ok (.invokestatic 100, 3) := by decide +kernel
theorem dX4_commit_8 : decode cX4_commit 8 = .ok (.ifCond .ne 7, 3) := by decide +kernel
theorem dX4_commit_11 : decode cX4_commit 11 = .ok (.iconst 1, 1) := by decide +kernel
theorem dX4_commit_12 : decode cX4_commit 12 = .ok (.goto 26, 3) := by decide +kernel
theorem dX4_commit_15 : decode cX4_commit 15 = .ok (.aload_n 0, 1) := by decide +kernel
theorem dX4_commit_16 : decode cX4_commit 16 = .ok (.getfield 59, 3) := by decide +kernel
theorem dX4_commit_19 : decode cX4_commit 19 = .ok (.iload_n 1, 1) := by decide +kernel
theorem dX4_commit_20 : decode cX4_commit 20 = .ok (.baload, 1) := by decide +kernel
theorem dX4_commit_21 : decode cX4_commit 21 = .ok (.ifCond .eq 12, 3) := by decide +kernel
theorem dX4_commit_24 : decode cX4_commit 24 = .ok (.aload_n 0, 1) := by decide +kernel
theorem dX4_commit_25 : decode cX4_commit 25 = .ok (.getfield 62, 3) := by decide +kernel
theorem dX4_commit_28 : decode cX4_commit 28 = .ok (.iload_n 1, 1) := by decide +kernel
theorem dX4_commit_29 : decode cX4_commit 29 = .ok (.baload, 1) := by decide +kernel
theorem dX4_commit_30 : decode cX4_commit 30 = .ok (.ifCond .eq 7, 3) := by decide +kernel
theorem dX4_commit_33 : decode cX4_commit 33 = .ok (.iconst 2, 1) := by decide +kernel
theorem dX4_commit_34 : decode cX4_commit 34 = .ok (.goto 4, 3) := by decide +kernel
theorem dX4_commit_37 : decode cX4_commit 37 = .ok (.iconst 0, 1) := by decide +kernel
theorem dX4_commit_38 : decode cX4_commit 38 = .ok (.invokevirtual 104, 3) := by decide +kernel
theorem dX4_commit_41 : decode cX4_commit 41 = .ok (.ifCond .eq 5, 3) := by decide +kernel
theorem dX4_commit_44 : decode cX4_commit 44 = .ok (.iconst 0, 1) := by decide +kernel
theorem dX4_commit_45 : decode cX4_commit 45 = .ok (.ireturn, 1) := by decide +kernel
theorem dX4_commit_46 : decode cX4_commit 46 = .ok (.aload_n 0, 1) := by decide +kernel
theorem dX4_commit_47 : decode cX4_commit 47 = .ok (.aload_n 0, 1) := by decide +kernel
theorem dX4_commit_48 : decode cX4_commit 48 = .ok (.iconst 2, 1) := by decide +kernel
theorem dX4_commit_49 : decode cX4_commit 49 = .ok (.iload_n 1, 1) := by decide +kernel
theorem dX4_commit_50 : decode cX4_commit 50 = .ok (.invokevirtual 122, 3) := by decide +kernel
theorem dX4_commit_53 : decode cX4_commit 53 = .ok (.putfield 72, 3) := by decide +kernel
theorem dX4_commit_56 : decode cX4_commit 56 = .ok (.aload_n 0, 1) := by decide +kernel
theorem dX4_commit_57 : decode cX4_commit 57 = .ok (.getfield 59, 3) := by decide +kernel
theorem dX4_commit_60 : decode cX4_commit 60 = .ok (.iload_n 1, 1) := by decide +kernel
theorem dX4_commit_61 : decode cX4_commit 61 = .ok (.iconst 0, 1) := by decide +kernel
theorem dX4_commit_62 : decode cX4_commit 62 = .ok (.bastore, 1) := by decide +kernel
theorem dX4_commit_63 : decode cX4_commit 63 = .ok (.aload_n 0, 1) := by decide +kernel
theorem dX4_commit_64 : decode cX4_commit 64 = .ok (.getfield 72, 3) := by decide +kernel
theorem dX4_commit_67 : decode cX4_commit 67 = .ok (.ireturn, 1) := by decide +kernel
theorem dX4_tellUndo_0 : decode cX4_tellUndo 0 = .ok (.aload_n 0, 1) := by decide +kernel
theorem dX4_tellUndo_1 : decode cX4_tellUndo 1 = .ok (.iconst 1, 1) := by decide +kernel
theorem dX4_tellUndo_2 : decode cX4_tellUndo 2 = .ok (.aload_n 0, 1) := by decide +kernel
theorem dX4_tellUndo_3 : decode cX4_tellUndo 3 = .ok (.getfield 38, 3) := by decide +kernel
theorem dX4_tellUndo_6 : decode cX4_tellUndo 6 = .ok (.iload_n 1, 1) := by decide +kernel
theorem dX4_tellUndo_7 : decode cX4_tellUndo 7 = .ok (.iaload, 1) := by decide +kernel
theorem dX4_tellUndo_8 : decode cX4_tellUndo 8 = .ok (.invokevirtual 122, 3) := by decide +kernel
theorem dX4_tellUndo_11 : decode cX4_tellUndo 11 = .ok (.istore_n 3, 1) := by decide +kernel
theorem dX4_tellUndo_12 : decode cX4_tellUndo 12 = .ok (.aload_n 0, 1) := by decide +kernel
theorem dX4_tellUndo_13 : decode cX4_tellUndo 13 = .ok (.getfield 41, 3) := by decide +kernel
theorem dX4_tellUndo_16 : decode cX4_tellUndo 16 = .ok (.iload_n 3, 1) := by decide +kernel
theorem dX4_tellUndo_17 : decode cX4_tellUndo 17 = .ok (.aload_n 0, 1) := by decide +kernel
theorem dX4_tellUndo_18 : decode cX4_tellUndo 18 = .ok (.getfield 41, 3) := by decide +kernel
theorem dX4_tellUndo_21 : decode cX4_tellUndo 21 = .ok (.iload_n 1, 1) := by decide +kernel
theorem dX4_tellUndo_22 : decode cX4_tellUndo 22 = .ok (.iaload, 1) := by decide +kernel
theorem dX4_tellUndo_23 : decode cX4_tellUndo 23 = .ok (.iastore, 1) := by decide +kernel
theorem dX4_tellUndo_24 : decode cX4_tellUndo 24 = .ok (.aload_n 0, 1) := by decide +kernel
theorem dX4_tellUndo_25 : decode cX4_tellUndo 25 = .ok (.getfield 44, 3) := by decide +kernel
theorem dX4_tellUndo_28 : decode cX4_tellUndo 28 = .ok (.iload_n 3, 1) := by decide +kernel
theorem dX4_tellUndo_29 : decode cX4_tellUndo 29 = .ok (.aload_n 0, 1) := by decide +kernel
theorem dX4_tellUndo_30 : decode cX4_tellUndo 30 = .ok (.getfield 44, 3) := by decide +kernel
theorem dX4_tellUndo_33 : decode cX4_tellUndo 33 = .ok (.iload_n 1, 1) := by decide +kernel
theorem dX4_tellUndo_34 : decode cX4_tellUndo 34 = .ok (.iaload, 1) := by decide +kernel
theorem dX4_tellUndo_35 : decode cX4_tellUndo 35 = .ok (.iastore, 1) := by decide +kernel
theorem dX4_tellUndo_36 : decode cX4_tellUndo 36 = .ok (.aload_n 0, 1) := by decide +kernel
theorem dX4_tellUndo_37 : decode cX4_tellUndo 37 = .ok (.getfield 47, 3) := by decide +kernel
theorem dX4_tellUndo_40 : decode cX4_tellUndo 40 = .ok (.iload_n 3, 1) := by decide +kernel
theorem dX4_tellUndo_41 : decode cX4_tellUndo 41 = .ok (.iload_n 2, 1) := by decide +kernel
theorem dX4_tellUndo_42 : decode cX4_tellUndo 42 = .ok (.iastore, 1) := by decide +kernel
theorem dX4_tellUndo_43 : decode cX4_tellUndo 43 = .ok (.aload_n 0, 1) := by decide +kernel
theorem dX4_tellUndo_44 : decode cX4_tellUndo 44 = .ok (.getfield 50, 3) := by decide +kernel
theorem dX4_tellUndo_47 : decode cX4_tellUndo 47 = .ok (.iload_n 3, 1) := by decide +kernel
theorem dX4_tellUndo_48 : decode cX4_tellUndo 48 = .ok (.aload_n 0, 1) := by decide +kernel
theorem dX4_tellUndo_49 : decode cX4_tellUndo 49 = .ok (.getfield 47, 3) := by decide +kernel
theorem dX4_tellUndo_52 : decode cX4_tellUndo 52 = .ok (.iload_n 1, 1) := by decide +kernel
theorem dX4_tellUndo_53 : decode cX4_tellUndo 53 = .ok (.iaload, 1) := by decide +kernel
theorem dX4_tellUndo_54 : decode cX4_tellUndo 54 = .ok (.iastore, 1) := by decide +kernel
theorem dX4_tellUndo_55 : decode cX4_tellUndo 55 = .ok (.aload_n 0, 1) := by decide +kernel
theorem dX4_tellUndo_56 : decode cX4_tellUndo 56 = .ok (.getfield 53, 3) := by decide +kernel
theorem dX4_tellUndo_59 : decode cX4_tellUndo 59 = .ok (.iload_n 3, 1) := by decide +kernel
theorem dX4_tellUndo_60 : decode cX4_tellUndo 60 = .ok (.iload_n 1, 1) := by decide +kernel
theorem dX4_tellUndo_61 : decode cX4_tellUndo 61 = .ok (.iastore, 1) := by decide +kernel
theorem dX4_tellUndo_62 : decode cX4_tellUndo 62 = .ok (.aload_n 0, 1) := by decide +kernel
theorem dX4_tellUndo_63 : decode cX4_tellUndo 63 = .ok (.getfield 56, 3) := by decide +kernel
theorem dX4_tellUndo_66 : decode cX4_tellUndo 66 = .ok (.iload_n 1, 1) := by decide +kernel
theorem dX4_tellUndo_67 : decode cX4_tellUndo 67 = .ok (.iconst 1, 1) := by decide +kernel
theorem dX4_tellUndo_68 : decode cX4_tellUndo 68 = .ok (.bastore, 1) := by decide +kernel
theorem dX4_tellUndo_69 : decode cX4_tellUndo 69 = .ok (.iload_n 3, 1) := by decide +kernel
theorem dX4_tellUndo_70 : decode cX4_tellUndo 70 = .ok (.ireturn, 1) := by decide +kernel
theorem dX4_abort_0 : decode cX4_abort 0 = .ok (.aload_n 0, 1) := by decide +kernel
theorem dX4_abort_1 : decode cX4_abort 1 = .ok (.iload_n 1, 1) := by decide +kernel
theorem dX4_abort_2 : decode cX4_abort 2 = .ok (.iconst 0, 1) := by decide +kernel
theorem dX4_abort_3 : decode cX4_abort 3 = .ok (.bipush 7, 2) := by decide +kernel
theorem dX4_abort_5 : decode cX4_abort 5 = .ok (.invokestatic 100, 3) := by decide +kernel
theorem dX4_abort_8 : decode cX4_abort 8 = .ok (.ifCond .ne 7, 3) := by decide +kernel
theorem dX4_abort_11 : decode cX4_abort 11 = .ok (.iconst 1, 1) := by decide +kernel
theorem dX4_abort_12 : decode cX4_abort 12 = .ok (.goto 17, 3) := by decide +kernel
theorem dX4_abort_15 : decode cX4_abort 15 = .ok (.aload_n 0, 1) := by decide +kernel
theorem dX4_abort_16 : decode cX4_abort 16 = .ok (.getfield 59, 3) := by decide +kernel
theorem dX4_abort_19 : decode cX4_abort 19 = .ok (.iload_n 1, 1) := by decide +kernel
theorem dX4_abort_20 : decode cX4_abort 20 = .ok (.baload, 1) := by decide +kernel
theorem dX4_abort_21 : decode cX4_abort 21 = .ok (.ifCond .ne 7, 3) := by decide +kernel
theorem dX4_abort_24 : decode cX4_abort 24 = .ok (.iconst 2, 1) := by decide +kernel
theorem dX4_abort_25 : decode cX4_abort 25 = .ok (.goto 4, 3) := by decide +kernel
theorem dX4_abort_28 : decode cX4_abort 28 = .ok (.iconst 0, 1) := by decide +kernel
theorem dX4_abort_29 : decode cX4_abort 29 = .ok (.invokevirtual 104, 3) := by decide +kernel
theorem dX4_abort_32 : decode cX4_abort 32 = .ok (.ifCond .eq 5, 3) := by decide +kernel
theorem dX4_abort_35 : decode cX4_abort 35 = .ok (.iconst 0, 1) := by decide +kernel
theorem dX4_abort_36 : decode cX4_abort 36 = .ok (.ireturn, 1) := by decide +kernel
theorem dX4_abort_37 : decode cX4_abort 37 = .ok (.aload_n 0, 1) := by decide +kernel
theorem dX4_abort_38 : decode cX4_abort 38 = .ok (.getfield 62, 3) := by decide +kernel
theorem dX4_abort_41 : decode cX4_abort 41 = .ok (.iload_n 1, 1) := by decide +kernel
theorem dX4_abort_42 : decode cX4_abort 42 = .ok (.iconst 1, 1) := by decide +kernel
theorem dX4_abort_43 : decode cX4_abort 43 = .ok (.bastore, 1) := by decide +kernel
theorem dX4_abort_44 : decode cX4_abort 44 = .ok (.iconst 0, 1) := by decide +kernel
theorem dX4_abort_45 : decode cX4_abort 45 = .ok (.istore_n 2, 1) := by decide +kernel
theorem dX4_abort_46 : decode cX4_abort 46 = .ok (.aload_n 0, 1) := by decide +kernel
theorem dX4_abort_47 : decode cX4_abort 47 = .ok (.iload_n 1, 1) := by decide +kernel
theorem dX4_abort_48 : decode cX4_abort 48 = .ok (.invokevirtual 126, 3) := by decide +kernel
theorem dX4_abort_51 : decode cX4_abort 51 = .ok (.istore_n 3, 1) := by decide +kernel
theorem dX4_abort_52 : decode cX4_abort 52 = .ok (.iload_n 3, 1) := by decide +kernel
theorem dX4_abort_53 : decode cX4_abort 53 = .ok (.ifCond .le 89, 3) := by decide +kernel
theorem dX4_abort_56 : decode cX4_abort 56 = .ok (.aload_n 0, 1) := by decide +kernel
theorem dX4_abort_57 : decode cX4_abort 57 = .ok (.aload_n 0, 1) := by decide +kernel
theorem dX4_abort_58 : decode cX4_abort 58 = .ok (.getfield 41, 3) := by decide +kernel
theorem dX4_abort_61 : decode cX4_abort 61 = .ok (.iload_n 3, 1) := by decide +kernel
theorem dX4_abort_62 : decode cX4_abort 62 = .ok (.iaload, 1) := by decide +kernel
theorem dX4_abort_63 : decode cX4_abort 63 = .ok (.invokevirtual 107, 3) := by decide +kernel
theorem dX4_abort_66 : decode cX4_abort 66 = .ok (.istore 4, 2) := by decide +kernel
theorem dX4_abort_68 : decode cX4_abort 68 = .ok (.iload 4, 2) := by decide +kernel
theorem dX4_abort_70 : decode cX4_abort 70 = .ok (.ifCond .ge 6, 3) := by decide +kernel
theorem dX4_abort_73 : decode cX4_abort 73 = .ok (.bipush (-2), 2) := by decide +kernel
theorem dX4_abort_75 : decode cX4_abort 75 = .ok (.ireturn, 1) := by decide +kernel
theorem dX4_abort_76 : decode cX4_abort 76 = .ok (.bipush 8, 2) := by decide +kernel
theorem dX4_abort_78 : decode cX4_abort 78 = .ok (.iload 4, 2) := by decide +kernel
theorem dX4_abort_80 : decode cX4_abort 80 = .ok (.imul, 1) := by decide +kernel
theorem dX4_abort_81 : decode cX4_abort 81 = .ok (.aload_n 0, 1) := by decide +kernel
theorem dX4_abort_82 : decode cX4_abort 82 = .ok (.getfield 44, 3) := by decide +kernel
theorem dX4_abort_85 : decode cX4_abort 85 = .ok (.iload_n 3, 1) := by decide +kernel
theorem dX4_abort_86 : decode cX4_abort 86 = .ok (.iaload, 1) := by decide +kernel
theorem dX4_abort_87 : decode cX4_abort 87 = .ok (.iadd, 1) := by decide +kernel
theorem dX4_abort_88 : decode cX4_abort 88 = .ok (.istore 5, 2) := by decide +kernel
theorem dX4_abort_90 : decode cX4_abort 90 = .ok (.aload_n 0, 1) := by decide +kernel
theorem dX4_abort_91 : decode cX4_abort 91 = .ok (.getfield 22, 3) := by decide +kernel
theorem dX4_abort_94 : decode cX4_abort 94 = .ok (.iload 4, 2) := by decide +kernel
theorem dX4_abort_96 : decode cX4_abort 96 = .ok (.aload_n 0, 1) := by decide +kernel
theorem dX4_abort_97 : decode cX4_abort 97 = .ok (.iload_n 3, 1) := by decide +kernel
theorem dX4_abort_98 : decode cX4_abort 98 = .ok (.aload_n 0, 1) := by decide +kernel
theorem dX4_abort_99 : decode cX4_abort 99 = .ok (.getfield 19, 3) := by decide +kernel
theorem dX4_abort_102 : decode cX4_abort 102 = .ok (.iload 5, 2) := by decide +kernel
theorem dX4_abort_104 : decode cX4_abort 104 = .ok (.iaload, 1) := by decide +kernel
theorem dX4_abort_105 : decode cX4_abort 105 = .ok (.invokevirtual 129, 3) := by decide +kernel
theorem dX4_abort_108 : decode cX4_abort 108 = .ok (.iastore, 1) := by decide +kernel
theorem dX4_abort_109 : decode cX4_abort 109 = .ok (.aload_n 0, 1) := by decide +kernel
theorem dX4_abort_110 : decode cX4_abort 110 = .ok (.getfield 19, 3) := by decide +kernel
theorem dX4_abort_113 : decode cX4_abort 113 = .ok (.iload 5, 2) := by decide +kernel
theorem dX4_abort_115 : decode cX4_abort 115 = .ok (.aload_n 0, 1) := by decide +kernel
theorem dX4_abort_116 : decode cX4_abort 116 = .ok (.getfield 47, 3) := by decide +kernel
theorem dX4_abort_119 : decode cX4_abort 119 = .ok (.iload_n 3, 1) := by decide +kernel
theorem dX4_abort_120 : decode cX4_abort 120 = .ok (.iaload, 1) := by decide +kernel
theorem dX4_abort_121 : decode cX4_abort 121 = .ok (.iastore, 1) := by decide +kernel
theorem dX4_abort_122 : decode cX4_abort 122 = .ok (.aload_n 0, 1) := by decide +kernel
theorem dX4_abort_123 : decode cX4_abort 123 = .ok (.getfield 28, 3) := by decide +kernel
theorem dX4_abort_126 : decode cX4_abort 126 = .ok (.iload 4, 2) := by decide +kernel
theorem dX4_abort_128 : decode cX4_abort 128 = .ok (.iconst 1, 1) := by decide +kernel
theorem dX4_abort_129 : decode cX4_abort 129 = .ok (.bastore, 1) := by decide +kernel
theorem dX4_abort_130 : decode cX4_abort 130 = .ok (.iinc 2 1, 3) := by decide +kernel
theorem dX4_abort_133 : decode cX4_abort 133 = .ok (.aload_n 0, 1) := by decide +kernel
theorem dX4_abort_134 : decode cX4_abort 134 = .ok (.iload_n 1, 1) := by decide +kernel
theorem dX4_abort_135 : decode cX4_abort 135 = .ok (.invokevirtual 126, 3) := by decide +kernel
theorem dX4_abort_138 : decode cX4_abort 138 = .ok (.istore_n 3, 1) := by decide +kernel
theorem dX4_abort_139 : decode cX4_abort 139 = .ok (.goto (-87), 3) := by decide +kernel
theorem dX4_abort_142 : decode cX4_abort 142 = .ok (.aload_n 0, 1) := by decide +kernel
theorem dX4_abort_143 : decode cX4_abort 143 = .ok (.iconst 3, 1) := by decide +kernel
theorem dX4_abort_144 : decode cX4_abort 144 = .ok (.iload_n 1, 1) := by decide +kernel
theorem dX4_abort_145 : decode cX4_abort 145 = .ok (.invokevirtual 122, 3) := by decide +kernel
theorem dX4_abort_148 : decode cX4_abort 148 = .ok (.istore_n 3, 1) := by decide +kernel
theorem dX4_abort_149 : decode cX4_abort 149 = .ok (.aload_n 0, 1) := by decide +kernel
theorem dX4_abort_150 : decode cX4_abort 150 = .ok (.getfield 59, 3) := by decide +kernel
theorem dX4_abort_153 : decode cX4_abort 153 = .ok (.iload_n 1, 1) := by decide +kernel
theorem dX4_abort_154 : decode cX4_abort 154 = .ok (.iconst 0, 1) := by decide +kernel
theorem dX4_abort_155 : decode cX4_abort 155 = .ok (.bastore, 1) := by decide +kernel
theorem dX4_abort_156 : decode cX4_abort 156 = .ok (.aload_n 0, 1) := by decide +kernel
theorem dX4_abort_157 : decode cX4_abort 157 = .ok (.getfield 62, 3) := by decide +kernel
theorem dX4_abort_160 : decode cX4_abort 160 = .ok (.iload_n 1, 1) := by decide +kernel
theorem dX4_abort_161 : decode cX4_abort 161 = .ok (.iload_n 3, 1) := by decide +kernel
theorem dX4_abort_162 : decode cX4_abort 162 = .ok (.ifCond .ge 7, 3) := by decide +kernel
theorem dX4_abort_165 : decode cX4_abort 165 = .ok (.iconst 1, 1) := by decide +kernel
theorem dX4_abort_166 : decode cX4_abort 166 = .ok (.goto 4, 3) := by decide +kernel
theorem dX4_abort_169 : decode cX4_abort 169 = .ok (.iconst 0, 1) := by decide +kernel
theorem dX4_abort_170 : decode cX4_abort 170 = .ok (.bastore, 1) := by decide +kernel
theorem dX4_abort_171 : decode cX4_abort 171 = .ok (.iload_n 2, 1) := by decide +kernel
theorem dX4_abort_172 : decode cX4_abort 172 = .ok (.ireturn, 1) := by decide +kernel
theorem dX4_flush_0 : decode cX4_flush 0 = .ok (.aload_n 0, 1) := by decide +kernel
theorem dX4_flush_1 : decode cX4_flush 1 = .ok (.iload_n 1, 1) := by decide +kernel
theorem dX4_flush_2 : decode cX4_flush 2 = .ok (.ifCond .ge 7, 3) := by decide +kernel
theorem dX4_flush_5 : decode cX4_flush 5 = .ok (.iconst 1, 1) := by decide +kernel
theorem dX4_flush_6 : decode cX4_flush 6 = .ok (.goto 4, 3) := by decide +kernel
theorem dX4_flush_9 : decode cX4_flush 9 = .ok (.iconst 0, 1) := by decide +kernel
theorem dX4_flush_10 : decode cX4_flush 10 = .ok (.invokevirtual 104, 3) := by decide +kernel
theorem dX4_flush_13 : decode cX4_flush 13 = .ok (.ifCond .eq 5, 3) := by decide +kernel
theorem dX4_flush_16 : decode cX4_flush 16 = .ok (.iconst 0, 1) := by decide +kernel
theorem dX4_flush_17 : decode cX4_flush 17 = .ok (.ireturn, 1) := by decide +kernel
theorem dX4_flush_18 : decode cX4_flush 18 = .ok (.iload_n 1, 1) := by decide +kernel
theorem dX4_flush_19 : decode cX4_flush 19 = .ok (.aload_n 0, 1) := by decide +kernel
theorem dX4_flush_20 : decode cX4_flush 20 = .ok (.getfield 113, 3) := by decide +kernel
theorem dX4_flush_23 : decode cX4_flush 23 = .ok (.if_icmp .ge 7, 3) := by decide +kernel
theorem dX4_flush_26 : decode cX4_flush 26 = .ok (.iload_n 1, 1) := by decide +kernel
theorem dX4_flush_27 : decode cX4_flush 27 = .ok (.goto 7, 3) := by decide +kernel
theorem dX4_flush_30 : decode cX4_flush 30 = .ok (.aload_n 0, 1) := by decide +kernel
theorem dX4_flush_31 : decode cX4_flush 31 = .ok (.getfield 113, 3) := by decide +kernel
theorem dX4_flush_34 : decode cX4_flush 34 = .ok (.istore_n 2, 1) := by decide +kernel
theorem dX4_flush_35 : decode cX4_flush 35 = .ok (.aload_n 0, 1) := by decide +kernel
theorem dX4_flush_36 : decode cX4_flush 36 = .ok (.iload_n 2, 1) := by decide +kernel
theorem dX4_flush_37 : decode cX4_flush 37 = .ok (.aload_n 0, 1) := by decide +kernel
theorem dX4_flush_38 : decode cX4_flush 38 = .ok (.getfield 72, 3) := by decide +kernel
theorem dX4_flush_41 : decode cX4_flush 41 = .ok (.if_icmp .le 7, 3) := by decide +kernel
theorem dX4_flush_44 : decode cX4_flush 44 = .ok (.iload_n 2, 1) := by decide +kernel
theorem dX4_flush_45 : decode cX4_flush 45 = .ok (.goto 7, 3) := by decide +kernel
theorem dX4_flush_48 : decode cX4_flush 48 = .ok (.aload_n 0, 1) := by decide +kernel
theorem dX4_flush_49 : decode cX4_flush 49 = .ok (.getfield 72, 3) := by decide +kernel
theorem dX4_flush_52 : decode cX4_flush 52 = .ok (.putfield 72, 3) := by decide +kernel
theorem dX4_flush_55 : decode cX4_flush 55 = .ok (.aload_n 0, 1) := by decide +kernel
theorem dX4_flush_56 : decode cX4_flush 56 = .ok (.getfield 72, 3) := by decide +kernel
theorem dX4_flush_59 : decode cX4_flush 59 = .ok (.ireturn, 1) := by decide +kernel
theorem dX4_clean_0 : decode cX4_clean 0 = .ok (.aload_n 0, 1) := by decide +kernel
theorem dX4_clean_1 : decode cX4_clean 1 = .ok (.iload_n 1, 1) := by decide +kernel
theorem dX4_clean_2 : decode cX4_clean 2 = .ok (.iconst 0, 1) := by decide +kernel
theorem dX4_clean_3 : decode cX4_clean 3 = .ok (.bipush 31, 2) := by decide +kernel
theorem dX4_clean_5 : decode cX4_clean 5 = .ok (.invokestatic 100, 3) := by decide +kernel
theorem dX4_clean_8 : decode cX4_clean 8 = .ok (.ifCond .eq 7, 3) := by decide +kernel
theorem dX4_clean_11 : decode cX4_clean 11 = .ok (.iconst 0, 1) := by decide +kernel
theorem dX4_clean_12 : decode cX4_clean 12 = .ok (.goto 4, 3) := by decide +kernel
theorem dX4_clean_15 : decode cX4_clean 15 = .ok (.iconst 1, 1) := by decide +kernel
theorem dX4_clean_16 : decode cX4_clean 16 = .ok (.invokevirtual 104, 3) := by decide +kernel
theorem dX4_clean_19 : decode cX4_clean 19 = .ok (.ifCond .eq 5, 3) := by decide +kernel
theorem dX4_clean_22 : decode cX4_clean 22 = .ok (.iconst 0, 1) := by decide +kernel
theorem dX4_clean_23 : decode cX4_clean 23 = .ok (.ireturn, 1) := by decide +kernel
theorem dX4_clean_24 : decode cX4_clean 24 = .ok (.aload_n 0, 1) := by decide +kernel
theorem dX4_clean_25 : decode cX4_clean 25 = .ok (.iload_n 1, 1) := by decide +kernel
theorem dX4_clean_26 : decode cX4_clean 26 = .ok (.invokevirtual 89, 3) := by decide +kernel
theorem dX4_clean_29 : decode cX4_clean 29 = .ok (.istore_n 2, 1) := by decide +kernel
theorem dX4_clean_30 : decode cX4_clean 30 = .ok (.iload_n 2, 1) := by decide +kernel
theorem dX4_clean_31 : decode cX4_clean 31 = .ok (.ifCond .lt 25, 3) := by decide +kernel
theorem dX4_clean_34 : decode cX4_clean 34 = .ok (.aload_n 0, 1) := by decide +kernel
theorem dX4_clean_35 : decode cX4_clean 35 = .ok (.getfield 28, 3) := by decide +kernel
theorem dX4_clean_38 : decode cX4_clean 38 = .ok (.iload_n 2, 1) := by decide +kernel
theorem dX4_clean_39 : decode cX4_clean 39 = .ok (.baload, 1) := by decide +kernel
theorem dX4_clean_40 : decode cX4_clean 40 = .ok (.ifCond .eq 16, 3) := by decide +kernel
theorem dX4_clean_43 : decode cX4_clean 43 = .ok (.aload_n 0, 1) := by decide +kernel
theorem dX4_clean_44 : decode cX4_clean 44 = .ok (.getfield 22, 3) := by decide +kernel
theorem dX4_clean_47 : decode cX4_clean 47 = .ok (.iload_n 2, 1) := by decide +kernel
theorem dX4_clean_48 : decode cX4_clean 48 = .ok (.iaload, 1) := by decide +kernel
theorem dX4_clean_49 : decode cX4_clean 49 = .ok (.aload_n 0, 1) := by decide +kernel
theorem dX4_clean_50 : decode cX4_clean 50 = .ok (.getfield 72, 3) := by decide +kernel
theorem dX4_clean_53 : decode cX4_clean 53 = .ok (.if_icmp .le 5, 3) := by decide +kernel
theorem dX4_clean_56 : decode cX4_clean 56 = .ok (.iconst 0, 1) := by decide +kernel
theorem dX4_clean_57 : decode cX4_clean 57 = .ok (.ireturn, 1) := by decide +kernel
theorem dX4_clean_58 : decode cX4_clean 58 = .ok (.aload_n 0, 1) := by decide +kernel
theorem dX4_clean_59 : decode cX4_clean 59 = .ok (.iload_n 2, 1) := by decide +kernel
theorem dX4_clean_60 : decode cX4_clean 60 = .ok (.invokevirtual 85, 3) := by decide +kernel
theorem dX4_clean_63 : decode cX4_clean 63 = .ok (.iconst 1, 1) := by decide +kernel
theorem dX4_clean_64 : decode cX4_clean 64 = .ok (.ireturn, 1) := by decide +kernel
theorem dX4_loseRecords_0 : decode cX4_loseRecords 0 = .ok (.aload_n 0, 1) := by decide +kernel
theorem dX4_loseRecords_1 : decode cX4_loseRecords 1 = .ok (.getfield 72, 3) := by decide +kernel
theorem dX4_loseRecords_4 : decode cX4_loseRecords 4 = .ok (.iconst 1, 1) := by decide +kernel
theorem dX4_loseRecords_5 : decode cX4_loseRecords 5 = .ok (.iadd, 1) := by decide +kernel
theorem dX4_loseRecords_6 : decode cX4_loseRecords 6 = .ok (.istore_n 1, 1) := by decide +kernel
theorem dX4_loseRecords_7 : decode cX4_loseRecords 7 = .ok (.iload_n 1, 1) := by decide +kernel
theorem dX4_loseRecords_8 : decode cX4_loseRecords 8 = .ok (.aload_n 0, 1) := by decide +kernel
theorem dX4_loseRecords_9 : decode cX4_loseRecords 9 = .ok (.getfield 113, 3) := by decide +kernel
theorem dX4_loseRecords_12 : decode cX4_loseRecords 12 = .ok (.if_icmp .gt 31, 3) := by decide +kernel
theorem dX4_loseRecords_15 : decode cX4_loseRecords 15 = .ok (.aload_n 0, 1) := by decide +kernel
theorem dX4_loseRecords_16 : decode cX4_loseRecords 16 = .ok (.getfield 35, 3) := by decide +kernel
theorem dX4_loseRecords_19 : decode cX4_loseRecords 19 = .ok (.iload_n 1, 1) := by decide +kernel
theorem dX4_loseRecords_20 : decode cX4_loseRecords 20 = .ok (.iaload, 1) := by decide +kernel
theorem dX4_loseRecords_21 : decode cX4_loseRecords 21 = .ok (.iconst 1, 1) := by decide +kernel
theorem dX4_loseRecords_22 : decode cX4_loseRecords 22 = .ok (.if_icmp .ne 15, 3) := by decide +kernel
theorem dX4_loseRecords_25 : decode cX4_loseRecords 25 = .ok (.aload_n 0, 1) := by decide +kernel
theorem dX4_loseRecords_26 : decode cX4_loseRecords 26 = .ok (.getfield 56, 3) := by decide +kernel
theorem dX4_loseRecords_29 : decode cX4_loseRecords 29 = .ok (.aload_n 0, 1) := by decide +kernel
theorem dX4_loseRecords_30 : decode cX4_loseRecords 30 = .ok (.getfield 53, 3) := by decide +kernel
theorem dX4_loseRecords_33 : decode cX4_loseRecords 33 = .ok (.iload_n 1, 1) := by decide +kernel
theorem dX4_loseRecords_34 : decode cX4_loseRecords 34 = .ok (.iaload, 1) := by decide +kernel
theorem dX4_loseRecords_35 : decode cX4_loseRecords 35 = .ok (.iconst 0, 1) := by decide +kernel
theorem dX4_loseRecords_36 : decode cX4_loseRecords 36 = .ok (.bastore, 1) := by decide +kernel
theorem dX4_loseRecords_37 : decode cX4_loseRecords 37 = .ok (.iinc 1 1, 3) := by decide +kernel
theorem dX4_loseRecords_40 : decode cX4_loseRecords 40 = .ok (.goto (-33), 3) := by decide +kernel
theorem dX4_loseRecords_43 : decode cX4_loseRecords 43 = .ok (.aload_n 0, 1) := by decide +kernel
theorem dX4_loseRecords_44 : decode cX4_loseRecords 44 = .ok (.aload_n 0, 1) := by decide +kernel
theorem dX4_loseRecords_45 : decode cX4_loseRecords 45 = .ok (.getfield 72, 3) := by decide +kernel
theorem dX4_loseRecords_48 : decode cX4_loseRecords 48 = .ok (.putfield 113, 3) := by decide +kernel
theorem dX4_loseRecords_51 : decode cX4_loseRecords 51 = .ok (.return_, 1) := by decide +kernel
theorem dX4_redo_0 : decode cX4_redo 0 = .ok (.iconst 1, 1) := by decide +kernel
theorem dX4_redo_1 : decode cX4_redo 1 = .ok (.istore_n 1, 1) := by decide +kernel
theorem dX4_redo_2 : decode cX4_redo 2 = .ok (.iload_n 1, 1) := by decide +kernel
theorem dX4_redo_3 : decode cX4_redo 3 = .ok (.aload_n 0, 1) := by decide +kernel
theorem dX4_redo_4 : decode cX4_redo 4 = .ok (.getfield 113, 3) := by decide +kernel
theorem dX4_redo_7 : decode cX4_redo 7 = .ok (.if_icmp .gt 73, 3) := by decide +kernel
theorem dX4_redo_10 : decode cX4_redo 10 = .ok (.aload_n 0, 1) := by decide +kernel
theorem dX4_redo_11 : decode cX4_redo 11 = .ok (.getfield 35, 3) := by decide +kernel
theorem dX4_redo_14 : decode cX4_redo 14 = .ok (.iload_n 1, 1) := by decide +kernel
theorem dX4_redo_15 : decode cX4_redo 15 = .ok (.iaload, 1) := by decide +kernel
theorem dX4_redo_16 : decode cX4_redo 16 = .ok (.iconst 2, 1) := by decide +kernel
theorem dX4_redo_17 : decode cX4_redo 17 = .ok (.if_icmp .ge 57, 3) := by decide +kernel
theorem dX4_redo_20 : decode cX4_redo 20 = .ok (.iload_n 1, 1) := by decide +kernel
theorem dX4_redo_21 : decode cX4_redo 21 = .ok (.aload_n 0, 1) := by decide +kernel
theorem dX4_redo_22 : decode cX4_redo 22 = .ok (.getfield 13, 3) := by decide +kernel
theorem dX4_redo_25 : decode cX4_redo 25 = .ok (.aload_n 0, 1) := by decide +kernel
theorem dX4_redo_26 : decode cX4_redo 26 = .ok (.getfield 41, 3) := by decide +kernel
theorem dX4_redo_29 : decode cX4_redo 29 = .ok (.iload_n 1, 1) := by decide +kernel
theorem dX4_redo_30 : decode cX4_redo 30 = .ok (.iaload, 1) := by decide +kernel
theorem dX4_redo_31 : decode cX4_redo 31 = .ok (.iaload, 1) := by decide +kernel
theorem dX4_redo_32 : decode cX4_redo 32 = .ok (.if_icmp .le 42, 3) := by decide +kernel
theorem dX4_redo_35 : decode cX4_redo 35 = .ok (.aload_n 0, 1) := by decide +kernel
theorem dX4_redo_36 : decode cX4_redo 36 = .ok (.getfield 7, 3) := by decide +kernel
theorem dX4_redo_39 : decode cX4_redo 39 = .ok (.bipush 8, 2) := by decide +kernel
theorem dX4_redo_41 : decode cX4_redo 41 = .ok (.aload_n 0, 1) := by decide +kernel
theorem dX4_redo_42 : decode cX4_redo 42 = .ok (.getfield 41, 3) := by decide +kernel
theorem dX4_redo_45 : decode cX4_redo 45 = .ok (.iload_n 1, 1) := by decide +kernel
theorem dX4_redo_46 : decode cX4_redo 46 = .ok (.iaload, 1) := by decide +kernel
theorem dX4_redo_47 : decode cX4_redo 47 = .ok (.imul, 1) := by decide +kernel
theorem dX4_redo_48 : decode cX4_redo 48 = .ok (.aload_n 0, 1) := by decide +kernel
theorem dX4_redo_49 : decode cX4_redo 49 = .ok (.getfield 44, 3) := by decide +kernel
theorem dX4_redo_52 : decode cX4_redo 52 = .ok (.iload_n 1, 1) := by decide +kernel
theorem dX4_redo_53 : decode cX4_redo 53 = .ok (.iaload, 1) := by decide +kernel
theorem dX4_redo_54 : decode cX4_redo 54 = .ok (.iadd, 1) := by decide +kernel
theorem dX4_redo_55 : decode cX4_redo 55 = .ok (.aload_n 0, 1) := by decide +kernel
theorem dX4_redo_56 : decode cX4_redo 56 = .ok (.getfield 50, 3) := by decide +kernel
theorem dX4_redo_59 : decode cX4_redo 59 = .ok (.iload_n 1, 1) := by decide +kernel
theorem dX4_redo_60 : decode cX4_redo 60 = .ok (.iaload, 1) := by decide +kernel
theorem dX4_redo_61 : decode cX4_redo 61 = .ok (.iastore, 1) := by decide +kernel
theorem dX4_redo_62 : decode cX4_redo 62 = .ok (.aload_n 0, 1) := by decide +kernel
theorem dX4_redo_63 : decode cX4_redo 63 = .ok (.getfield 13, 3) := by decide +kernel
theorem dX4_redo_66 : decode cX4_redo 66 = .ok (.aload_n 0, 1) := by decide +kernel
theorem dX4_redo_67 : decode cX4_redo 67 = .ok (.getfield 41, 3) := by decide +kernel
theorem dX4_redo_70 : decode cX4_redo 70 = .ok (.iload_n 1, 1) := by decide +kernel
theorem dX4_redo_71 : decode cX4_redo 71 = .ok (.iaload, 1) := by decide +kernel
theorem dX4_redo_72 : decode cX4_redo 72 = .ok (.iload_n 1, 1) := by decide +kernel
theorem dX4_redo_73 : decode cX4_redo 73 = .ok (.iastore, 1) := by decide +kernel
theorem dX4_redo_74 : decode cX4_redo 74 = .ok (.iinc 1 1, 3) := by decide +kernel
theorem dX4_redo_77 : decode cX4_redo 77 = .ok (.goto (-75), 3) := by decide +kernel
theorem dX4_redo_80 : decode cX4_redo 80 = .ok (.return_, 1) := by decide +kernel
theorem dX4_isOpen_0 : decode cX4_isOpen 0 = .ok (.iconst 0, 1) := by decide +kernel
theorem dX4_isOpen_1 : decode cX4_isOpen 1 = .ok (.istore_n 2, 1) := by decide +kernel
theorem dX4_isOpen_2 : decode cX4_isOpen 2 = .ok (.iconst 1, 1) := by decide +kernel
theorem dX4_isOpen_3 : decode cX4_isOpen 3 = .ok (.istore_n 3, 1) := by decide +kernel
theorem dX4_isOpen_4 : decode cX4_isOpen 4 = .ok (.iload_n 3, 1) := by decide +kernel
theorem dX4_isOpen_5 : decode cX4_isOpen 5 = .ok (.aload_n 0, 1) := by decide +kernel
theorem dX4_isOpen_6 : decode cX4_isOpen 6 = .ok (.getfield 113, 3) := by decide +kernel
theorem dX4_isOpen_9 : decode cX4_isOpen 9 = .ok (.if_icmp .gt 35, 3) := by decide +kernel
theorem dX4_isOpen_12 : decode cX4_isOpen 12 = .ok (.aload_n 0, 1) := by decide +kernel
theorem dX4_isOpen_13 : decode cX4_isOpen 13 = .ok (.getfield 38, 3) := by decide +kernel
theorem dX4_isOpen_16 : decode cX4_isOpen 16 = .ok (.iload_n 3, 1) := by decide +kernel
theorem dX4_isOpen_17 : decode cX4_isOpen 17 = .ok (.iaload, 1) := by decide +kernel
theorem dX4_isOpen_18 : decode cX4_isOpen 18 = .ok (.iload_n 1, 1) := by decide +kernel
theorem dX4_isOpen_19 : decode cX4_isOpen 19 = .ok (.if_icmp .ne 19, 3) := by decide +kernel
theorem dX4_isOpen_22 : decode cX4_isOpen 22 = .ok (.aload_n 0, 1) := by decide +kernel
theorem dX4_isOpen_23 : decode cX4_isOpen 23 = .ok (.getfield 35, 3) := by decide +kernel
theorem dX4_isOpen_26 : decode cX4_isOpen 26 = .ok (.iload_n 3, 1) := by decide +kernel
theorem dX4_isOpen_27 : decode cX4_isOpen 27 = .ok (.iaload, 1) := by decide +kernel
theorem dX4_isOpen_28 : decode cX4_isOpen 28 = .ok (.iconst 2, 1) := by decide +kernel
theorem dX4_isOpen_29 : decode cX4_isOpen 29 = .ok (.if_icmp .ge 7, 3) := by decide +kernel
theorem dX4_isOpen_32 : decode cX4_isOpen 32 = .ok (.iconst 1, 1) := by decide +kernel
theorem dX4_isOpen_33 : decode cX4_isOpen 33 = .ok (.goto 4, 3) := by decide +kernel
theorem dX4_isOpen_36 : decode cX4_isOpen 36 = .ok (.iconst 0, 1) := by decide +kernel
theorem dX4_isOpen_37 : decode cX4_isOpen 37 = .ok (.istore_n 2, 1) := by decide +kernel
theorem dX4_isOpen_38 : decode cX4_isOpen 38 = .ok (.iinc 3 1, 3) := by decide +kernel
theorem dX4_isOpen_41 : decode cX4_isOpen 41 = .ok (.goto (-37), 3) := by decide +kernel
theorem dX4_isOpen_44 : decode cX4_isOpen 44 = .ok (.iload_n 2, 1) := by decide +kernel
theorem dX4_isOpen_45 : decode cX4_isOpen 45 = .ok (.ireturn, 1) := by decide +kernel
theorem dX4_crash_0 : decode cX4_crash 0 = .ok (.aload_n 0, 1) := by decide +kernel
theorem dX4_crash_1 : decode cX4_crash 1 = .ok (.iconst 0, 1) := by decide +kernel
theorem dX4_crash_2 : decode cX4_crash 2 = .ok (.putfield 69, 3) := by decide +kernel
theorem dX4_crash_5 : decode cX4_crash 5 = .ok (.aload_n 0, 1) := by decide +kernel
theorem dX4_crash_6 : decode cX4_crash 6 = .ok (.getfield 113, 3) := by decide +kernel
theorem dX4_crash_9 : decode cX4_crash 9 = .ok (.aload_n 0, 1) := by decide +kernel
theorem dX4_crash_10 : decode cX4_crash 10 = .ok (.getfield 72, 3) := by decide +kernel
theorem dX4_crash_13 : decode cX4_crash 13 = .ok (.isub, 1) := by decide +kernel
theorem dX4_crash_14 : decode cX4_crash 14 = .ok (.istore_n 1, 1) := by decide +kernel
theorem dX4_crash_15 : decode cX4_crash 15 = .ok (.aload_n 0, 1) := by decide +kernel
theorem dX4_crash_16 : decode cX4_crash 16 = .ok (.invokevirtual 132, 3) := by decide +kernel
theorem dX4_crash_19 : decode cX4_crash 19 = .ok (.iconst 0, 1) := by decide +kernel
theorem dX4_crash_20 : decode cX4_crash 20 = .ok (.istore_n 2, 1) := by decide +kernel
theorem dX4_crash_21 : decode cX4_crash 21 = .ok (.iload_n 2, 1) := by decide +kernel
theorem dX4_crash_22 : decode cX4_crash 22 = .ok (.bipush 8, 2) := by decide +kernel
theorem dX4_crash_24 : decode cX4_crash 24 = .ok (.if_icmp .ge 44, 3) := by decide +kernel
theorem dX4_crash_27 : decode cX4_crash 27 = .ok (.aload_n 0, 1) := by decide +kernel
theorem dX4_crash_28 : decode cX4_crash 28 = .ok (.getfield 16, 3) := by decide +kernel
theorem dX4_crash_31 : decode cX4_crash 31 = .ok (.iload_n 2, 1) := by decide +kernel
theorem dX4_crash_32 : decode cX4_crash 32 = .ok (.iconst (-1), 1) := by decide +kernel
theorem dX4_crash_33 : decode cX4_crash 33 = .ok (.iastore, 1) := by decide +kernel
theorem dX4_crash_34 : decode cX4_crash 34 = .ok (.aload_n 0, 1) := by decide +kernel
theorem dX4_crash_35 : decode cX4_crash 35 = .ok (.getfield 25, 3) := by decide +kernel
theorem dX4_crash_38 : decode cX4_crash 38 = .ok (.iload_n 2, 1) := by decide +kernel
theorem dX4_crash_39 : decode cX4_crash 39 = .ok (.iconst 0, 1) := by decide +kernel
theorem dX4_crash_40 : decode cX4_crash 40 = .ok (.iastore, 1) := by decide +kernel
theorem dX4_crash_41 : decode cX4_crash 41 = .ok (.aload_n 0, 1) := by decide +kernel
theorem dX4_crash_42 : decode cX4_crash 42 = .ok (.getfield 28, 3) := by decide +kernel
theorem dX4_crash_45 : decode cX4_crash 45 = .ok (.iload_n 2, 1) := by decide +kernel
theorem dX4_crash_46 : decode cX4_crash 46 = .ok (.iconst 0, 1) := by decide +kernel
theorem dX4_crash_47 : decode cX4_crash 47 = .ok (.bastore, 1) := by decide +kernel
theorem dX4_crash_48 : decode cX4_crash 48 = .ok (.aload_n 0, 1) := by decide +kernel
theorem dX4_crash_49 : decode cX4_crash 49 = .ok (.getfield 32, 3) := by decide +kernel
theorem dX4_crash_52 : decode cX4_crash 52 = .ok (.iload_n 2, 1) := by decide +kernel
theorem dX4_crash_53 : decode cX4_crash 53 = .ok (.iconst 0, 1) := by decide +kernel
theorem dX4_crash_54 : decode cX4_crash 54 = .ok (.bastore, 1) := by decide +kernel
theorem dX4_crash_55 : decode cX4_crash 55 = .ok (.aload_n 0, 1) := by decide +kernel
theorem dX4_crash_56 : decode cX4_crash 56 = .ok (.getfield 22, 3) := by decide +kernel
theorem dX4_crash_59 : decode cX4_crash 59 = .ok (.iload_n 2, 1) := by decide +kernel
theorem dX4_crash_60 : decode cX4_crash 60 = .ok (.iconst 0, 1) := by decide +kernel
theorem dX4_crash_61 : decode cX4_crash 61 = .ok (.iastore, 1) := by decide +kernel
theorem dX4_crash_62 : decode cX4_crash 62 = .ok (.iinc 2 1, 3) := by decide +kernel
theorem dX4_crash_65 : decode cX4_crash 65 = .ok (.goto (-44), 3) := by decide +kernel
theorem dX4_crash_68 : decode cX4_crash 68 = .ok (.aload_n 0, 1) := by decide +kernel
theorem dX4_crash_69 : decode cX4_crash 69 = .ok (.iconst 0, 1) := by decide +kernel
theorem dX4_crash_70 : decode cX4_crash 70 = .ok (.putfield 82, 3) := by decide +kernel
theorem dX4_crash_73 : decode cX4_crash 73 = .ok (.aload_n 0, 1) := by decide +kernel
theorem dX4_crash_74 : decode cX4_crash 74 = .ok (.invokevirtual 135, 3) := by decide +kernel
theorem dX4_crash_77 : decode cX4_crash 77 = .ok (.aload_n 0, 1) := by decide +kernel
theorem dX4_crash_78 : decode cX4_crash 78 = .ok (.iconst 0, 1) := by decide +kernel
theorem dX4_crash_79 : decode cX4_crash 79 = .ok (.putfield 138, 3) := by decide +kernel
theorem dX4_crash_82 : decode cX4_crash 82 = .ok (.aload_n 0, 1) := by decide +kernel
theorem dX4_crash_83 : decode cX4_crash 83 = .ok (.getfield 113, 3) := by decide +kernel
theorem dX4_crash_86 : decode cX4_crash 86 = .ok (.istore_n 2, 1) := by decide +kernel
theorem dX4_crash_87 : decode cX4_crash 87 = .ok (.iconst 0, 1) := by decide +kernel
theorem dX4_crash_88 : decode cX4_crash 88 = .ok (.istore_n 3, 1) := by decide +kernel
theorem dX4_crash_89 : decode cX4_crash 89 = .ok (.iload_n 3, 1) := by decide +kernel
theorem dX4_crash_90 : decode cX4_crash 90 = .ok (.bipush 8, 2) := by decide +kernel
theorem dX4_crash_92 : decode cX4_crash 92 = .ok (.if_icmp .ge 20, 3) := by decide +kernel
theorem dX4_crash_95 : decode cX4_crash 95 = .ok (.aload_n 0, 1) := by decide +kernel
theorem dX4_crash_96 : decode cX4_crash 96 = .ok (.getfield 59, 3) := by decide +kernel
theorem dX4_crash_99 : decode cX4_crash 99 = .ok (.iload_n 3, 1) := by decide +kernel
theorem dX4_crash_100 : decode cX4_crash 100 = .ok (.aload_n 0, 1) := by decide +kernel
theorem dX4_crash_101 : decode cX4_crash 101 = .ok (.iload_n 3, 1) := by decide +kernel
theorem dX4_crash_102 : decode cX4_crash 102 = .ok (.invokevirtual 141, 3) := by decide +kernel
theorem dX4_crash_105 : decode cX4_crash 105 = .ok (.bastore, 1) := by decide +kernel
theorem dX4_crash_106 : decode cX4_crash 106 = .ok (.iinc 3 1, 3) := by decide +kernel
theorem dX4_crash_109 : decode cX4_crash 109 = .ok (.goto (-20), 3) := by decide +kernel
theorem dX4_crash_112 : decode cX4_crash 112 = .ok (.iload_n 2, 1) := by decide +kernel
theorem dX4_crash_113 : decode cX4_crash 113 = .ok (.istore_n 3, 1) := by decide +kernel
theorem dX4_crash_114 : decode cX4_crash 114 = .ok (.iload_n 3, 1) := by decide +kernel
theorem dX4_crash_115 : decode cX4_crash 115 = .ok (.ifCond .le 113, 3) := by decide +kernel
theorem dX4_crash_118 : decode cX4_crash 118 = .ok (.aload_n 0, 1) := by decide +kernel
theorem dX4_crash_119 : decode cX4_crash 119 = .ok (.getfield 35, 3) := by decide +kernel
theorem dX4_crash_122 : decode cX4_crash 122 = .ok (.iload_n 3, 1) := by decide +kernel
theorem dX4_crash_123 : decode cX4_crash 123 = .ok (.iaload, 1) := by decide +kernel
theorem dX4_crash_124 : decode cX4_crash 124 = .ok (.ifCond .ne 98, 3) := by decide +kernel
theorem dX4_crash_127 : decode cX4_crash 127 = .ok (.aload_n 0, 1) := by decide +kernel
theorem dX4_crash_128 : decode cX4_crash 128 = .ok (.getfield 56, 3) := by decide +kernel
theorem dX4_crash_131 : decode cX4_crash 131 = .ok (.iload_n 3, 1) := by decide +kernel
theorem dX4_crash_132 : decode cX4_crash 132 = .ok (.baload, 1) := by decide +kernel
theorem dX4_crash_133 : decode cX4_crash 133 = .ok (.ifCond .ne 89, 3) := by decide +kernel
theorem dX4_crash_136 : decode cX4_crash 136 = .ok (.aload_n 0, 1) := by decide +kernel
theorem dX4_crash_137 : decode cX4_crash 137 = .ok (.getfield 59, 3) := by decide +kernel
theorem dX4_crash_140 : decode cX4_crash 140 = .ok (.aload_n 0, 1) := by decide +kernel
theorem dX4_crash_141 : decode cX4_crash 141 = .ok (.getfield 38, 3) := by decide +kernel
theorem dX4_crash_144 : decode cX4_crash 144 = .ok (.iload_n 3, 1) := by decide +kernel
theorem dX4_crash_145 : decode cX4_crash 145 = .ok (.iaload, 1) := by decide +kernel
theorem dX4_crash_146 : decode cX4_crash 146 = .ok (.baload, 1) := by decide +kernel
theorem dX4_crash_147 : decode cX4_crash 147 = .ok (.ifCond .eq 75, 3) := by decide +kernel
theorem dX4_crash_150 : decode cX4_crash 150 = .ok (.aload_n 0, 1) := by decide +kernel
theorem dX4_crash_151 : decode cX4_crash 151 = .ok (.iload_n 3, 1) := by decide +kernel
theorem dX4_crash_152 : decode cX4_crash 152 = .ok (.invokevirtual 144, 3) := by decide +kernel
theorem dX4_crash_155 : decode cX4_crash 155 = .ok (.ifCond .eq 67, 3) := by decide +kernel
theorem dX4_crash_158 : decode cX4_crash 158 = .ok (.bipush 8, 2) := by decide +kernel
theorem dX4_crash_160 : decode cX4_crash 160 = .ok (.aload_n 0, 1) := by decide +kernel
theorem dX4_crash_161 : decode cX4_crash 161 = .ok (.getfield 41, 3) := by decide +kernel
theorem dX4_crash_164 : decode cX4_crash 164 = .ok (.iload_n 3, 1) := by decide +kernel
theorem dX4_crash_165 : decode cX4_crash 165 = .ok (.iaload, 1) := by decide +kernel
theorem dX4_crash_166 : decode cX4_crash 166 = .ok (.imul, 1) := by decide +kernel
theorem dX4_crash_167 : decode cX4_crash 167 = .ok (.aload_n 0, 1) := by decide +kernel
theorem dX4_crash_168 : decode cX4_crash 168 = .ok (.getfield 44, 3) := by decide +kernel
theorem dX4_crash_171 : decode cX4_crash 171 = .ok (.iload_n 3, 1) := by decide +kernel
theorem dX4_crash_172 : decode cX4_crash 172 = .ok (.iaload, 1) := by decide +kernel
theorem dX4_crash_173 : decode cX4_crash 173 = .ok (.iadd, 1) := by decide +kernel
theorem dX4_crash_174 : decode cX4_crash 174 = .ok (.istore 4, 2) := by decide +kernel
theorem dX4_crash_176 : decode cX4_crash 176 = .ok (.aload_n 0, 1) := by decide +kernel
theorem dX4_crash_177 : decode cX4_crash 177 = .ok (.getfield 13, 3) := by decide +kernel
theorem dX4_crash_180 : decode cX4_crash 180 = .ok (.aload_n 0, 1) := by decide +kernel
theorem dX4_crash_181 : decode cX4_crash 181 = .ok (.getfield 41, 3) := by decide +kernel
theorem dX4_crash_184 : decode cX4_crash 184 = .ok (.iload_n 3, 1) := by decide +kernel
theorem dX4_crash_185 : decode cX4_crash 185 = .ok (.iaload, 1) := by decide +kernel
theorem dX4_crash_186 : decode cX4_crash 186 = .ok (.aload_n 0, 1) := by decide +kernel
theorem dX4_crash_187 : decode cX4_crash 187 = .ok (.iload_n 3, 1) := by decide +kernel
theorem dX4_crash_188 : decode cX4_crash 188 = .ok (.aload_n 0, 1) := by decide +kernel
theorem dX4_crash_189 : decode cX4_crash 189 = .ok (.getfield 7, 3) := by decide +kernel
theorem dX4_crash_192 : decode cX4_crash 192 = .ok (.iload 4, 2) := by decide +kernel
theorem dX4_crash_194 : decode cX4_crash 194 = .ok (.iaload, 1) := by decide +kernel
theorem dX4_crash_195 : decode cX4_crash 195 = .ok (.invokevirtual 129, 3) := by decide +kernel
theorem dX4_crash_198 : decode cX4_crash 198 = .ok (.iastore, 1) := by decide +kernel
theorem dX4_crash_199 : decode cX4_crash 199 = .ok (.aload_n 0, 1) := by decide +kernel
theorem dX4_crash_200 : decode cX4_crash 200 = .ok (.getfield 7, 3) := by decide +kernel
theorem dX4_crash_203 : decode cX4_crash 203 = .ok (.iload 4, 2) := by decide +kernel
theorem dX4_crash_205 : decode cX4_crash 205 = .ok (.aload_n 0, 1) := by decide +kernel
theorem dX4_crash_206 : decode cX4_crash 206 = .ok (.getfield 47, 3) := by decide +kernel
theorem dX4_crash_209 : decode cX4_crash 209 = .ok (.iload_n 3, 1) := by decide +kernel
theorem dX4_crash_210 : decode cX4_crash 210 = .ok (.iaload, 1) := by decide +kernel
theorem dX4_crash_211 : decode cX4_crash 211 = .ok (.iastore, 1) := by decide +kernel
theorem dX4_crash_212 : decode cX4_crash 212 = .ok (.aload_n 0, 1) := by decide +kernel
theorem dX4_crash_213 : decode cX4_crash 213 = .ok (.dup, 1) := by decide +kernel
theorem dX4_crash_214 : decode cX4_crash 214 = .ok (.getfield 138, 3) := by decide +kernel
theorem dX4_crash_217 : decode cX4_crash 217 = .ok (.iconst 1, 1) := by decide +kernel
theorem dX4_crash_218 : decode cX4_crash 218 = .ok (.iadd, 1) := by decide +kernel
theorem dX4_crash_219 : decode cX4_crash 219 = .ok (.putfield 138, 3) := by decide +kernel
theorem dX4_crash_222 : decode cX4_crash 222 = .ok (.iinc 3 (-1), 3) := by decide +kernel
theorem dX4_crash_225 : decode cX4_crash 225 = .ok (.goto (-111), 3) := by decide +kernel
theorem dX4_crash_228 : decode cX4_crash 228 = .ok (.iconst 0, 1) := by decide +kernel
theorem dX4_crash_229 : decode cX4_crash 229 = .ok (.istore_n 3, 1) := by decide +kernel
theorem dX4_crash_230 : decode cX4_crash 230 = .ok (.iload_n 3, 1) := by decide +kernel
theorem dX4_crash_231 : decode cX4_crash 231 = .ok (.bipush 8, 2) := by decide +kernel
theorem dX4_crash_233 : decode cX4_crash 233 = .ok (.if_icmp .ge 40, 3) := by decide +kernel
theorem dX4_crash_236 : decode cX4_crash 236 = .ok (.aload_n 0, 1) := by decide +kernel
theorem dX4_crash_237 : decode cX4_crash 237 = .ok (.getfield 59, 3) := by decide +kernel
theorem dX4_crash_240 : decode cX4_crash 240 = .ok (.iload_n 3, 1) := by decide +kernel
theorem dX4_crash_241 : decode cX4_crash 241 = .ok (.baload, 1) := by decide +kernel
theorem dX4_crash_242 : decode cX4_crash 242 = .ok (.ifCond .eq 11, 3) := by decide +kernel
theorem dX4_crash_245 : decode cX4_crash 245 = .ok (.aload_n 0, 1) := by decide +kernel
theorem dX4_crash_246 : decode cX4_crash 246 = .ok (.iconst 3, 1) := by decide +kernel
theorem dX4_crash_247 : decode cX4_crash 247 = .ok (.iload_n 3, 1) := by decide +kernel
theorem dX4_crash_248 : decode cX4_crash 248 = .ok (.invokevirtual 122, 3) := by decide +kernel
theorem dX4_crash_251 : decode cX4_crash 251 = .ok (.istore 4, 2) := by decide +kernel
theorem dX4_crash_253 : decode cX4_crash 253 = .ok (.aload_n 0, 1) := by decide +kernel
theorem dX4_crash_254 : decode cX4_crash 254 = .ok (.getfield 59, 3) := by decide +kernel
theorem dX4_crash_257 : decode cX4_crash 257 = .ok (.iload_n 3, 1) := by decide +kernel
theorem dX4_crash_258 : decode cX4_crash 258 = .ok (.iconst 0, 1) := by decide +kernel
theorem dX4_crash_259 : decode cX4_crash 259 = .ok (.bastore, 1) := by decide +kernel
theorem dX4_crash_260 : decode cX4_crash 260 = .ok (.aload_n 0, 1) := by decide +kernel
theorem dX4_crash_261 : decode cX4_crash 261 = .ok (.getfield 62, 3) := by decide +kernel
theorem dX4_crash_264 : decode cX4_crash 264 = .ok (.iload_n 3, 1) := by decide +kernel
theorem dX4_crash_265 : decode cX4_crash 265 = .ok (.iconst 0, 1) := by decide +kernel
theorem dX4_crash_266 : decode cX4_crash 266 = .ok (.bastore, 1) := by decide +kernel
theorem dX4_crash_267 : decode cX4_crash 267 = .ok (.iinc 3 1, 3) := by decide +kernel
theorem dX4_crash_270 : decode cX4_crash 270 = .ok (.goto (-40), 3) := by decide +kernel
theorem dX4_crash_273 : decode cX4_crash 273 = .ok (.aload_n 0, 1) := by decide +kernel
theorem dX4_crash_274 : decode cX4_crash 274 = .ok (.aload_n 0, 1) := by decide +kernel
theorem dX4_crash_275 : decode cX4_crash 275 = .ok (.getfield 113, 3) := by decide +kernel
theorem dX4_crash_278 : decode cX4_crash 278 = .ok (.putfield 72, 3) := by decide +kernel
theorem dX4_crash_281 : decode cX4_crash 281 = .ok (.aload_n 0, 1) := by decide +kernel
theorem dX4_crash_282 : decode cX4_crash 282 = .ok (.dup, 1) := by decide +kernel
theorem dX4_crash_283 : decode cX4_crash 283 = .ok (.getfield 147, 3) := by decide +kernel
theorem dX4_crash_286 : decode cX4_crash 286 = .ok (.iconst 1, 1) := by decide +kernel
theorem dX4_crash_287 : decode cX4_crash 287 = .ok (.iadd, 1) := by decide +kernel
theorem dX4_crash_288 : decode cX4_crash 288 = .ok (.putfield 147, 3) := by decide +kernel
theorem dX4_crash_291 : decode cX4_crash 291 = .ok (.iload_n 1, 1) := by decide +kernel
theorem dX4_crash_292 : decode cX4_crash 292 = .ok (.ireturn, 1) := by decide +kernel
theorem dX4_isLatest_0 : decode cX4_isLatest 0 = .ok (.iconst 1, 1) := by decide +kernel
theorem dX4_isLatest_1 : decode cX4_isLatest 1 = .ok (.istore_n 2, 1) := by decide +kernel
theorem dX4_isLatest_2 : decode cX4_isLatest 2 = .ok (.iload_n 1, 1) := by decide +kernel
theorem dX4_isLatest_3 : decode cX4_isLatest 3 = .ok (.iconst 1, 1) := by decide +kernel
theorem dX4_isLatest_4 : decode cX4_isLatest 4 = .ok (.iadd, 1) := by decide +kernel
theorem dX4_isLatest_5 : decode cX4_isLatest 5 = .ok (.istore_n 3, 1) := by decide +kernel
theorem dX4_isLatest_6 : decode cX4_isLatest 6 = .ok (.iload_n 3, 1) := by decide +kernel
theorem dX4_isLatest_7 : decode cX4_isLatest 7 = .ok (.aload_n 0, 1) := by decide +kernel
theorem dX4_isLatest_8 : decode cX4_isLatest 8 = .ok (.getfield 113, 3) := by decide +kernel
theorem dX4_isLatest_11 : decode cX4_isLatest 11 = .ok (.if_icmp .gt 44, 3) := by decide +kernel
theorem dX4_isLatest_14 : decode cX4_isLatest 14 = .ok (.iload_n 2, 1) := by decide +kernel
theorem dX4_isLatest_15 : decode cX4_isLatest 15 = .ok (.ifCond .eq 32, 3) := by decide +kernel
theorem dX4_isLatest_18 : decode cX4_isLatest 18 = .ok (.aload_n 0, 1) := by decide +kernel
theorem dX4_isLatest_19 : decode cX4_isLatest 19 = .ok (.getfield 38, 3) := by decide +kernel
theorem dX4_isLatest_22 : decode cX4_isLatest 22 = .ok (.iload_n 3, 1) := by decide +kernel
theorem dX4_isLatest_23 : decode cX4_isLatest 23 = .ok (.iaload, 1) := by decide +kernel
theorem dX4_isLatest_24 : decode cX4_isLatest 24 = .ok (.aload_n 0, 1) := by decide +kernel
theorem dX4_isLatest_25 : decode cX4_isLatest 25 = .ok (.getfield 38, 3) := by decide +kernel
theorem dX4_isLatest_28 : decode cX4_isLatest 28 = .ok (.iload_n 1, 1) := by decide +kernel
theorem dX4_isLatest_29 : decode cX4_isLatest 29 = .ok (.iaload, 1) := by decide +kernel
theorem dX4_isLatest_30 : decode cX4_isLatest 30 = .ok (.if_icmp .ne 13, 3) := by decide +kernel
theorem dX4_isLatest_33 : decode cX4_isLatest 33 = .ok (.aload_n 0, 1) := by decide +kernel
theorem dX4_isLatest_34 : decode cX4_isLatest 34 = .ok (.getfield 35, 3) := by decide +kernel
theorem dX4_isLatest_37 : decode cX4_isLatest 37 = .ok (.iload_n 3, 1) := by decide +kernel
theorem dX4_isLatest_38 : decode cX4_isLatest 38 = .ok (.iaload, 1) := by decide +kernel
theorem dX4_isLatest_39 : decode cX4_isLatest 39 = .ok (.iconst 2, 1) := by decide +kernel
theorem dX4_isLatest_40 : decode cX4_isLatest 40 = .ok (.if_icmp .ge 7, 3) := by decide +kernel
theorem dX4_isLatest_43 : decode cX4_isLatest 43 = .ok (.iconst 1, 1) := by decide +kernel
theorem dX4_isLatest_44 : decode cX4_isLatest 44 = .ok (.goto 4, 3) := by decide +kernel
theorem dX4_isLatest_47 : decode cX4_isLatest 47 = .ok (.iconst 0, 1) := by decide +kernel
theorem dX4_isLatest_48 : decode cX4_isLatest 48 = .ok (.istore_n 2, 1) := by decide +kernel
theorem dX4_isLatest_49 : decode cX4_isLatest 49 = .ok (.iinc 3 1, 3) := by decide +kernel
theorem dX4_isLatest_52 : decode cX4_isLatest 52 = .ok (.goto (-46), 3) := by decide +kernel
theorem dX4_isLatest_55 : decode cX4_isLatest 55 = .ok (.iload_n 2, 1) := by decide +kernel
theorem dX4_isLatest_56 : decode cX4_isLatest 56 = .ok (.ireturn, 1) := by decide +kernel
theorem dX4_disk_0 : decode cX4_disk 0 = .ok (.aload_n 0, 1) := by decide +kernel
theorem dX4_disk_1 : decode cX4_disk 1 = .ok (.iload_n 1, 1) := by decide +kernel
theorem dX4_disk_2 : decode cX4_disk 2 = .ok (.iconst 0, 1) := by decide +kernel
theorem dX4_disk_3 : decode cX4_disk 3 = .ok (.bipush 31, 2) := by decide +kernel
theorem dX4_disk_5 : decode cX4_disk 5 = .ok (.invokestatic 100, 3) := by decide +kernel
theorem dX4_disk_8 : decode cX4_disk 8 = .ok (.ifCond .eq 17, 3) := by decide +kernel
theorem dX4_disk_11 : decode cX4_disk 11 = .ok (.iload_n 2, 1) := by decide +kernel
theorem dX4_disk_12 : decode cX4_disk 12 = .ok (.iconst 0, 1) := by decide +kernel
theorem dX4_disk_13 : decode cX4_disk 13 = .ok (.bipush 8, 2) := by decide +kernel
theorem dX4_disk_15 : decode cX4_disk 15 = .ok (.invokestatic 100, 3) := by decide +kernel
theorem dX4_disk_18 : decode cX4_disk 18 = .ok (.ifCond .eq 7, 3) := by decide +kernel
theorem dX4_disk_21 : decode cX4_disk 21 = .ok (.iconst 0, 1) := by decide +kernel
theorem dX4_disk_22 : decode cX4_disk 22 = .ok (.goto 4, 3) := by decide +kernel
theorem dX4_disk_25 : decode cX4_disk 25 = .ok (.iconst 1, 1) := by decide +kernel
theorem dX4_disk_26 : decode cX4_disk 26 = .ok (.invokevirtual 104, 3) := by decide +kernel
theorem dX4_disk_29 : decode cX4_disk 29 = .ok (.ifCond .eq 5, 3) := by decide +kernel
theorem dX4_disk_32 : decode cX4_disk 32 = .ok (.iconst 0, 1) := by decide +kernel
theorem dX4_disk_33 : decode cX4_disk 33 = .ok (.ireturn, 1) := by decide +kernel
theorem dX4_disk_34 : decode cX4_disk 34 = .ok (.iload_n 2, 1) := by decide +kernel
theorem dX4_disk_35 : decode cX4_disk 35 = .ok (.bipush 8, 2) := by decide +kernel
theorem dX4_disk_37 : decode cX4_disk 37 = .ok (.if_icmp .ne 12, 3) := by decide +kernel
theorem dX4_disk_40 : decode cX4_disk 40 = .ok (.aload_n 0, 1) := by decide +kernel
theorem dX4_disk_41 : decode cX4_disk 41 = .ok (.getfield 13, 3) := by decide +kernel
theorem dX4_disk_44 : decode cX4_disk 44 = .ok (.iload_n 1, 1) := by decide +kernel
theorem dX4_disk_45 : decode cX4_disk 45 = .ok (.iaload, 1) := by decide +kernel
theorem dX4_disk_46 : decode cX4_disk 46 = .ok (.goto 14, 3) := by decide +kernel
theorem dX4_disk_49 : decode cX4_disk 49 = .ok (.aload_n 0, 1) := by decide +kernel
theorem dX4_disk_50 : decode cX4_disk 50 = .ok (.getfield 7, 3) := by decide +kernel
theorem dX4_disk_53 : decode cX4_disk 53 = .ok (.bipush 8, 2) := by decide +kernel
theorem dX4_disk_55 : decode cX4_disk 55 = .ok (.iload_n 1, 1) := by decide +kernel
theorem dX4_disk_56 : decode cX4_disk 56 = .ok (.imul, 1) := by decide +kernel
theorem dX4_disk_57 : decode cX4_disk 57 = .ok (.iload_n 2, 1) := by decide +kernel
theorem dX4_disk_58 : decode cX4_disk 58 = .ok (.iadd, 1) := by decide +kernel
theorem dX4_disk_59 : decode cX4_disk 59 = .ok (.iaload, 1) := by decide +kernel
theorem dX4_disk_60 : decode cX4_disk 60 = .ok (.ireturn, 1) := by decide +kernel
theorem dX4_frame_0 : decode cX4_frame 0 = .ok (.aload_n 0, 1) := by decide +kernel
theorem dX4_frame_1 : decode cX4_frame 1 = .ok (.iload_n 1, 1) := by decide +kernel
theorem dX4_frame_2 : decode cX4_frame 2 = .ok (.iconst 0, 1) := by decide +kernel
theorem dX4_frame_3 : decode cX4_frame 3 = .ok (.aload_n 0, 1) := by decide +kernel
theorem dX4_frame_4 : decode cX4_frame 4 = .ok (.getfield 65, 3) := by decide +kernel
theorem dX4_frame_7 : decode cX4_frame 7 = .ok (.iconst 1, 1) := by decide +kernel
theorem dX4_frame_8 : decode cX4_frame 8 = .ok (.isub, 1) := by decide +kernel
theorem dX4_frame_9 : decode cX4_frame 9 = .ok (.invokestatic 100, 3) := by decide +kernel
theorem dX4_frame_12 : decode cX4_frame 12 = .ok (.ifCond .eq 16, 3) := by decide +kernel
theorem dX4_frame_15 : decode cX4_frame 15 = .ok (.iload_n 2, 1) := by decide +kernel
theorem dX4_frame_16 : decode cX4_frame 16 = .ok (.iconst 0, 1) := by decide +kernel
theorem dX4_frame_17 : decode cX4_frame 17 = .ok (.iconst 4, 1) := by decide +kernel
theorem dX4_frame_18 : decode cX4_frame 18 = .ok (.invokestatic 100, 3) := by decide +kernel
theorem dX4_frame_21 : decode cX4_frame 21 = .ok (.ifCond .eq 7, 3) := by decide +kernel
theorem dX4_frame_24 : decode cX4_frame 24 = .ok (.iconst 0, 1) := by decide +kernel
theorem dX4_frame_25 : decode cX4_frame 25 = .ok (.goto 4, 3) := by decide +kernel
theorem dX4_frame_28 : decode cX4_frame 28 = .ok (.iconst 1, 1) := by decide +kernel
theorem dX4_frame_29 : decode cX4_frame 29 = .ok (.invokevirtual 104, 3) := by decide +kernel
theorem dX4_frame_32 : decode cX4_frame 32 = .ok (.ifCond .eq 5, 3) := by decide +kernel
theorem dX4_frame_35 : decode cX4_frame 35 = .ok (.iconst 0, 1) := by decide +kernel
theorem dX4_frame_36 : decode cX4_frame 36 = .ok (.ireturn, 1) := by decide +kernel
theorem dX4_frame_37 : decode cX4_frame 37 = .ok (.aload_n 0, 1) := by decide +kernel
theorem dX4_frame_38 : decode cX4_frame 38 = .ok (.getfield 16, 3) := by decide +kernel
theorem dX4_frame_41 : decode cX4_frame 41 = .ok (.iload_n 1, 1) := by decide +kernel
theorem dX4_frame_42 : decode cX4_frame 42 = .ok (.iaload, 1) := by decide +kernel
theorem dX4_frame_43 : decode cX4_frame 43 = .ok (.ifCond .ge 7, 3) := by decide +kernel
theorem dX4_frame_46 : decode cX4_frame 46 = .ok (.iconst 1, 1) := by decide +kernel
theorem dX4_frame_47 : decode cX4_frame 47 = .ok (.goto 4, 3) := by decide +kernel
theorem dX4_frame_50 : decode cX4_frame 50 = .ok (.iconst 0, 1) := by decide +kernel
theorem dX4_frame_51 : decode cX4_frame 51 = .ok (.istore_n 3, 1) := by decide +kernel
theorem dX4_frame_52 : decode cX4_frame 52 = .ok (.iload_n 2, 1) := by decide +kernel
theorem dX4_frame_53 : decode cX4_frame 53 = .ok (.tableswitch 91 0 3 #[31, 38, 53, 72], 31) := by decide +kernel
theorem dX4_frame_84 : decode cX4_frame 84 = .ok (.aload_n 0, 1) := by decide +kernel
theorem dX4_frame_85 : decode cX4_frame 85 = .ok (.getfield 16, 3) := by decide +kernel
theorem dX4_frame_88 : decode cX4_frame 88 = .ok (.iload_n 1, 1) := by decide +kernel
theorem dX4_frame_89 : decode cX4_frame 89 = .ok (.iaload, 1) := by decide +kernel
theorem dX4_frame_90 : decode cX4_frame 90 = .ok (.ireturn, 1) := by decide +kernel
theorem dX4_frame_91 : decode cX4_frame 91 = .ok (.iload_n 3, 1) := by decide +kernel
theorem dX4_frame_92 : decode cX4_frame 92 = .ok (.ifCond .eq 7, 3) := by decide +kernel
theorem dX4_frame_95 : decode cX4_frame 95 = .ok (.iconst 0, 1) := by decide +kernel
theorem dX4_frame_96 : decode cX4_frame 96 = .ok (.goto 9, 3) := by decide +kernel
theorem dX4_frame_99 : decode cX4_frame 99 = .ok (.aload_n 0, 1) := by decide +kernel
theorem dX4_frame_100 : decode cX4_frame 100 = .ok (.getfield 25, 3) := by decide +kernel
theorem dX4_frame_103 : decode cX4_frame 103 = .ok (.iload_n 1, 1) := by decide +kernel
theorem dX4_frame_104 : decode cX4_frame 104 = .ok (.iaload, 1) := by decide +kernel
theorem dX4_frame_105 : decode cX4_frame 105 = .ok (.ireturn, 1) := by decide +kernel
theorem dX4_frame_106 : decode cX4_frame 106 = .ok (.iload_n 3, 1) := by decide +kernel
theorem dX4_frame_107 : decode cX4_frame 107 = .ok (.ifCond .ne 16, 3) := by decide +kernel
theorem dX4_frame_110 : decode cX4_frame 110 = .ok (.aload_n 0, 1) := by decide +kernel
theorem dX4_frame_111 : decode cX4_frame 111 = .ok (.getfield 28, 3) := by decide +kernel
theorem dX4_frame_114 : decode cX4_frame 114 = .ok (.iload_n 1, 1) := by decide +kernel
theorem dX4_frame_115 : decode cX4_frame 115 = .ok (.baload, 1) := by decide +kernel
theorem dX4_frame_116 : decode cX4_frame 116 = .ok (.ifCond .eq 7, 3) := by decide +kernel
theorem dX4_frame_119 : decode cX4_frame 119 = .ok (.iconst 1, 1) := by decide +kernel
theorem dX4_frame_120 : decode cX4_frame 120 = .ok (.goto 4, 3) := by decide +kernel
theorem dX4_frame_123 : decode cX4_frame 123 = .ok (.iconst 0, 1) := by decide +kernel
theorem dX4_frame_124 : decode cX4_frame 124 = .ok (.ireturn, 1) := by decide +kernel
theorem dX4_frame_125 : decode cX4_frame 125 = .ok (.iload_n 3, 1) := by decide +kernel
theorem dX4_frame_126 : decode cX4_frame 126 = .ok (.ifCond .ne 16, 3) := by decide +kernel
theorem dX4_frame_129 : decode cX4_frame 129 = .ok (.aload_n 0, 1) := by decide +kernel
theorem dX4_frame_130 : decode cX4_frame 130 = .ok (.getfield 32, 3) := by decide +kernel
theorem dX4_frame_133 : decode cX4_frame 133 = .ok (.iload_n 1, 1) := by decide +kernel
theorem dX4_frame_134 : decode cX4_frame 134 = .ok (.baload, 1) := by decide +kernel
theorem dX4_frame_135 : decode cX4_frame 135 = .ok (.ifCond .eq 7, 3) := by decide +kernel
theorem dX4_frame_138 : decode cX4_frame 138 = .ok (.iconst 1, 1) := by decide +kernel
theorem dX4_frame_139 : decode cX4_frame 139 = .ok (.goto 4, 3) := by decide +kernel
theorem dX4_frame_142 : decode cX4_frame 142 = .ok (.iconst 0, 1) := by decide +kernel
theorem dX4_frame_143 : decode cX4_frame 143 = .ok (.ireturn, 1) := by decide +kernel
theorem dX4_frame_144 : decode cX4_frame 144 = .ok (.iload_n 3, 1) := by decide +kernel
theorem dX4_frame_145 : decode cX4_frame 145 = .ok (.ifCond .eq 7, 3) := by decide +kernel
theorem dX4_frame_148 : decode cX4_frame 148 = .ok (.iconst 0, 1) := by decide +kernel
theorem dX4_frame_149 : decode cX4_frame 149 = .ok (.goto 9, 3) := by decide +kernel
theorem dX4_frame_152 : decode cX4_frame 152 = .ok (.aload_n 0, 1) := by decide +kernel
theorem dX4_frame_153 : decode cX4_frame 153 = .ok (.getfield 22, 3) := by decide +kernel
theorem dX4_frame_156 : decode cX4_frame 156 = .ok (.iload_n 1, 1) := by decide +kernel
theorem dX4_frame_157 : decode cX4_frame 157 = .ok (.iaload, 1) := by decide +kernel
theorem dX4_frame_158 : decode cX4_frame 158 = .ok (.ireturn, 1) := by decide +kernel
theorem dX4_log_0 : decode cX4_log 0 = .ok (.aload_n 0, 1) := by decide +kernel
theorem dX4_log_1 : decode cX4_log 1 = .ok (.iload_n 1, 1) := by decide +kernel
theorem dX4_log_2 : decode cX4_log 2 = .ok (.iconst 1, 1) := by decide +kernel
theorem dX4_log_3 : decode cX4_log 3 = .ok (.aload_n 0, 1) := by decide +kernel
theorem dX4_log_4 : decode cX4_log 4 = .ok (.getfield 113, 3) := by decide +kernel
theorem dX4_log_7 : decode cX4_log 7 = .ok (.invokestatic 100, 3) := by decide +kernel
theorem dX4_log_10 : decode cX4_log 10 = .ok (.ifCond .eq 17, 3) := by decide +kernel
theorem dX4_log_13 : decode cX4_log 13 = .ok (.iload_n 2, 1) := by decide +kernel
theorem dX4_log_14 : decode cX4_log 14 = .ok (.iconst 0, 1) := by decide +kernel
theorem dX4_log_15 : decode cX4_log 15 = .ok (.bipush 6, 2) := by decide +kernel
theorem dX4_log_17 : decode cX4_log 17 = .ok (.invokestatic 100, 3) := by decide +kernel
theorem dX4_log_20 : decode cX4_log 20 = .ok (.ifCond .eq 7, 3) := by decide +kernel
theorem dX4_log_23 : decode cX4_log 23 = .ok (.iconst 0, 1) := by decide +kernel
theorem dX4_log_24 : decode cX4_log 24 = .ok (.goto 4, 3) := by decide +kernel
theorem dX4_log_27 : decode cX4_log 27 = .ok (.iconst 1, 1) := by decide +kernel
theorem dX4_log_28 : decode cX4_log 28 = .ok (.invokevirtual 104, 3) := by decide +kernel
theorem dX4_log_31 : decode cX4_log 31 = .ok (.ifCond .eq 5, 3) := by decide +kernel
theorem dX4_log_34 : decode cX4_log 34 = .ok (.iconst 0, 1) := by decide +kernel
theorem dX4_log_35 : decode cX4_log 35 = .ok (.ireturn, 1) := by decide +kernel
theorem dX4_log_36 : decode cX4_log 36 = .ok (.iload_n 2, 1) := by decide +kernel
theorem dX4_log_37 : decode cX4_log 37 = .ok (.tableswitch 81 0 5 #[39, 46, 53, 60, 67, 74], 39) := by decide +kernel
theorem dX4_log_76 : decode cX4_log 76 = .ok (.aload_n 0, 1) := by decide +kernel
theorem dX4_log_77 : decode cX4_log 77 = .ok (.getfield 35, 3) := by decide +kernel
theorem dX4_log_80 : decode cX4_log 80 = .ok (.iload_n 1, 1) := by decide +kernel
theorem dX4_log_81 : decode cX4_log 81 = .ok (.iaload, 1) := by decide +kernel
theorem dX4_log_82 : decode cX4_log 82 = .ok (.ireturn, 1) := by decide +kernel
theorem dX4_log_83 : decode cX4_log 83 = .ok (.aload_n 0, 1) := by decide +kernel
theorem dX4_log_84 : decode cX4_log 84 = .ok (.getfield 38, 3) := by decide +kernel
theorem dX4_log_87 : decode cX4_log 87 = .ok (.iload_n 1, 1) := by decide +kernel
theorem dX4_log_88 : decode cX4_log 88 = .ok (.iaload, 1) := by decide +kernel
theorem dX4_log_89 : decode cX4_log 89 = .ok (.ireturn, 1) := by decide +kernel
theorem dX4_log_90 : decode cX4_log 90 = .ok (.aload_n 0, 1) := by decide +kernel
theorem dX4_log_91 : decode cX4_log 91 = .ok (.getfield 41, 3) := by decide +kernel
theorem dX4_log_94 : decode cX4_log 94 = .ok (.iload_n 1, 1) := by decide +kernel
theorem dX4_log_95 : decode cX4_log 95 = .ok (.iaload, 1) := by decide +kernel
theorem dX4_log_96 : decode cX4_log 96 = .ok (.ireturn, 1) := by decide +kernel
theorem dX4_log_97 : decode cX4_log 97 = .ok (.aload_n 0, 1) := by decide +kernel
theorem dX4_log_98 : decode cX4_log 98 = .ok (.getfield 44, 3) := by decide +kernel
theorem dX4_log_101 : decode cX4_log 101 = .ok (.iload_n 1, 1) := by decide +kernel
theorem dX4_log_102 : decode cX4_log 102 = .ok (.iaload, 1) := by decide +kernel
theorem dX4_log_103 : decode cX4_log 103 = .ok (.ireturn, 1) := by decide +kernel
theorem dX4_log_104 : decode cX4_log 104 = .ok (.aload_n 0, 1) := by decide +kernel
theorem dX4_log_105 : decode cX4_log 105 = .ok (.getfield 47, 3) := by decide +kernel
theorem dX4_log_108 : decode cX4_log 108 = .ok (.iload_n 1, 1) := by decide +kernel
theorem dX4_log_109 : decode cX4_log 109 = .ok (.iaload, 1) := by decide +kernel
theorem dX4_log_110 : decode cX4_log 110 = .ok (.ireturn, 1) := by decide +kernel
theorem dX4_log_111 : decode cX4_log 111 = .ok (.aload_n 0, 1) := by decide +kernel
theorem dX4_log_112 : decode cX4_log 112 = .ok (.getfield 50, 3) := by decide +kernel
theorem dX4_log_115 : decode cX4_log 115 = .ok (.iload_n 1, 1) := by decide +kernel
theorem dX4_log_116 : decode cX4_log 116 = .ok (.iaload, 1) := by decide +kernel
theorem dX4_log_117 : decode cX4_log 117 = .ok (.ireturn, 1) := by decide +kernel
theorem dX4_log_118 : decode cX4_log 118 = .ok (.aload_n 0, 1) := by decide +kernel
theorem dX4_log_119 : decode cX4_log 119 = .ok (.getfield 53, 3) := by decide +kernel
theorem dX4_log_122 : decode cX4_log 122 = .ok (.iload_n 1, 1) := by decide +kernel
theorem dX4_log_123 : decode cX4_log 123 = .ok (.iaload, 1) := by decide +kernel
theorem dX4_log_124 : decode cX4_log 124 = .ok (.ireturn, 1) := by decide +kernel
theorem dX4_count_0 : decode cX4_count 0 = .ok (.aload_n 0, 1) := by decide +kernel
theorem dX4_count_1 : decode cX4_count 1 = .ok (.iload_n 1, 1) := by decide +kernel
theorem dX4_count_2 : decode cX4_count 2 = .ok (.iconst 0, 1) := by decide +kernel
theorem dX4_count_3 : decode cX4_count 3 = .ok (.bipush 7, 2) := by decide +kernel
theorem dX4_count_5 : decode cX4_count 5 = .ok (.invokestatic 100, 3) := by decide +kernel
theorem dX4_count_8 : decode cX4_count 8 = .ok (.ifCond .eq 7, 3) := by decide +kernel
theorem dX4_count_11 : decode cX4_count 11 = .ok (.iconst 0, 1) := by decide +kernel
theorem dX4_count_12 : decode cX4_count 12 = .ok (.goto 4, 3) := by decide +kernel
theorem dX4_count_15 : decode cX4_count 15 = .ok (.iconst 1, 1) := by decide +kernel
theorem dX4_count_16 : decode cX4_count 16 = .ok (.invokevirtual 104, 3) := by decide +kernel
theorem dX4_count_19 : decode cX4_count 19 = .ok (.ifCond .eq 5, 3) := by decide +kernel
theorem dX4_count_22 : decode cX4_count 22 = .ok (.iconst 0, 1) := by decide +kernel
theorem dX4_count_23 : decode cX4_count 23 = .ok (.ireturn, 1) := by decide +kernel
theorem dX4_count_24 : decode cX4_count 24 = .ok (.iconst 0, 1) := by decide +kernel
theorem dX4_count_25 : decode cX4_count 25 = .ok (.istore_n 2, 1) := by decide +kernel
theorem dX4_count_26 : decode cX4_count 26 = .ok (.iload_n 1, 1) := by decide +kernel
theorem dX4_count_27 : decode cX4_count 27 = .ok (.tableswitch 104 0 6 #[41, 46, 51, 84, 89, 94, 99], 41) := by decide +kernel
theorem dX4_count_68 : decode cX4_count 68 = .ok (.aload_n 0, 1) := by decide +kernel
theorem dX4_count_69 : decode cX4_count 69 = .ok (.getfield 113, 3) := by decide +kernel
theorem dX4_count_72 : decode cX4_count 72 = .ok (.ireturn, 1) := by decide +kernel
theorem dX4_count_73 : decode cX4_count 73 = .ok (.aload_n 0, 1) := by decide +kernel
theorem dX4_count_74 : decode cX4_count 74 = .ok (.getfield 72, 3) := by decide +kernel
theorem dX4_count_77 : decode cX4_count 77 = .ok (.ireturn, 1) := by decide +kernel
theorem dX4_count_78 : decode cX4_count 78 = .ok (.iconst 0, 1) := by decide +kernel
theorem dX4_count_79 : decode cX4_count 79 = .ok (.istore_n 3, 1) := by decide +kernel
theorem dX4_count_80 : decode cX4_count 80 = .ok (.iload_n 3, 1) := by decide +kernel
theorem dX4_count_81 : decode cX4_count 81 = .ok (.bipush 8, 2) := by decide +kernel
theorem dX4_count_83 : decode cX4_count 83 = .ok (.if_icmp .ge 26, 3) := by decide +kernel
theorem dX4_count_86 : decode cX4_count 86 = .ok (.aload_n 0, 1) := by decide +kernel
theorem dX4_count_87 : decode cX4_count 87 = .ok (.getfield 59, 3) := by decide +kernel
theorem dX4_count_90 : decode cX4_count 90 = .ok (.iload_n 3, 1) := by decide +kernel
theorem dX4_count_91 : decode cX4_count 91 = .ok (.baload, 1) := by decide +kernel
theorem dX4_count_92 : decode cX4_count 92 = .ok (.ifCond .eq 9, 3) := by decide +kernel
theorem dX4_count_95 : decode cX4_count 95 = .ok (.iload_n 2, 1) := by decide +kernel
theorem dX4_count_96 : decode cX4_count 96 = .ok (.iconst 1, 1) := by decide +kernel
theorem dX4_count_97 : decode cX4_count 97 = .ok (.iadd, 1) := by decide +kernel
theorem dX4_count_98 : decode cX4_count 98 = .ok (.goto 4, 3) := by decide +kernel
theorem dX4_count_101 : decode cX4_count 101 = .ok (.iload_n 2, 1) := by decide +kernel
theorem dX4_count_102 : decode cX4_count 102 = .ok (.istore_n 2, 1) := by decide +kernel
theorem dX4_count_103 : decode cX4_count 103 = .ok (.iinc 3 1, 3) := by decide +kernel
theorem dX4_count_106 : decode cX4_count 106 = .ok (.goto (-26), 3) := by decide +kernel
theorem dX4_count_109 : decode cX4_count 109 = .ok (.iload_n 2, 1) := by decide +kernel
theorem dX4_count_110 : decode cX4_count 110 = .ok (.ireturn, 1) := by decide +kernel
theorem dX4_count_111 : decode cX4_count 111 = .ok (.aload_n 0, 1) := by decide +kernel
theorem dX4_count_112 : decode cX4_count 112 = .ok (.getfield 82, 3) := by decide +kernel
theorem dX4_count_115 : decode cX4_count 115 = .ok (.ireturn, 1) := by decide +kernel
theorem dX4_count_116 : decode cX4_count 116 = .ok (.aload_n 0, 1) := by decide +kernel
theorem dX4_count_117 : decode cX4_count 117 = .ok (.getfield 75, 3) := by decide +kernel
theorem dX4_count_120 : decode cX4_count 120 = .ok (.ireturn, 1) := by decide +kernel
theorem dX4_count_121 : decode cX4_count 121 = .ok (.aload_n 0, 1) := by decide +kernel
theorem dX4_count_122 : decode cX4_count 122 = .ok (.getfield 97, 3) := by decide +kernel
theorem dX4_count_125 : decode cX4_count 125 = .ok (.ireturn, 1) := by decide +kernel
theorem dX4_count_126 : decode cX4_count 126 = .ok (.aload_n 0, 1) := by decide +kernel
theorem dX4_count_127 : decode cX4_count 127 = .ok (.getfield 147, 3) := by decide +kernel
theorem dX4_count_130 : decode cX4_count 130 = .ok (.ireturn, 1) := by decide +kernel
theorem dX4_count_131 : decode cX4_count 131 = .ok (.aload_n 0, 1) := by decide +kernel
theorem dX4_count_132 : decode cX4_count 132 = .ok (.getfield 138, 3) := by decide +kernel
theorem dX4_count_135 : decode cX4_count 135 = .ok (.ireturn, 1) := by decide +kernel
end
section
theorem dL_cell_0 : decode cL_cell 0 = .ok (.iload_n 1, 1) := by decide +kernel
theorem dL_cell_1 : decode cL_cell 1 = .ok (.aload_n 0, 1) := by decide +kernel
theorem dL_cell_2 : decode cL_cell 2 = .ok (.arraylength, 1) := by decide +kernel
theorem dL_cell_3 : decode cL_cell 3 = .ok (.if_icmp .ge 9, 3) := by decide +kernel
theorem dL_cell_6 : decode cL_cell 6 = .ok (.aload_n 0, 1) := by decide +kernel
theorem dL_cell_7 : decode cL_cell 7 = .ok (.iload_n 1, 1) := by decide +kernel
theorem dL_cell_8 : decode cL_cell 8 = .ok (.iaload, 1) := by decide +kernel
theorem dL_cell_9 : decode cL_cell 9 = .ok (.goto 4, 3) := by decide +kernel
theorem dL_cell_12 : decode cL_cell 12 = .ok (.iconst 0, 1) := by decide +kernel
theorem dL_cell_13 : decode cL_cell 13 = .ok (.ireturn, 1) := by decide +kernel
theorem dL_fetch_0 : decode cL_fetch 0 = .ok (.aload_n 2, 1) := by decide +kernel
theorem dL_fetch_1 : decode cL_fetch 1 = .ok (.iconst 0, 1) := by decide +kernel
theorem dL_fetch_2 : decode cL_fetch 2 = .ok (.aload_n 0, 1) := by decide +kernel
theorem dL_fetch_3 : decode cL_fetch 3 = .ok (.iload_n 1, 1) := by decide +kernel
theorem dL_fetch_4 : decode cL_fetch 4 = .ok (.invokevirtual 7, 3) := by decide +kernel
theorem dL_fetch_7 : decode cL_fetch 7 = .ok (.i2l, 1) := by decide +kernel
theorem dL_fetch_8 : decode cL_fetch 8 = .ok (.lastore, 1) := by decide +kernel
theorem dL_fetch_9 : decode cL_fetch 9 = .ok (.goto 6, 3) := by decide +kernel
theorem dL_fetch_12 : decode cL_fetch 12 = .ok (.astore_n 3, 1) := by decide +kernel
theorem dL_fetch_13 : decode cL_fetch 13 = .ok (.iconst 1, 1) := by decide +kernel
theorem dL_fetch_14 : decode cL_fetch 14 = .ok (.ireturn, 1) := by decide +kernel
theorem dL_fetch_15 : decode cL_fetch 15 = .ok (.iconst 0, 1) := by decide +kernel
theorem dL_fetch_16 : decode cL_fetch 16 = .ok (.ireturn, 1) := by decide +kernel
theorem dL_release_0 : decode cL_release 0 = .ok (.aload_n 2, 1) := by decide +kernel
theorem dL_release_1 : decode cL_release 1 = .ok (.iconst 0, 1) := by decide +kernel
theorem dL_release_2 : decode cL_release 2 = .ok (.aload_n 0, 1) := by decide +kernel
theorem dL_release_3 : decode cL_release 3 = .ok (.iload_n 1, 1) := by decide +kernel
theorem dL_release_4 : decode cL_release 4 = .ok (.invokevirtual 15, 3) := by decide +kernel
theorem dL_release_7 : decode cL_release 7 = .ok (.i2l, 1) := by decide +kernel
theorem dL_release_8 : decode cL_release 8 = .ok (.lastore, 1) := by decide +kernel
theorem dL_release_9 : decode cL_release 9 = .ok (.goto 9, 3) := by decide +kernel
theorem dL_release_12 : decode cL_release 12 = .ok (.astore_n 3, 1) := by decide +kernel
theorem dL_release_13 : decode cL_release 13 = .ok (.iconst 1, 1) := by decide +kernel
theorem dL_release_14 : decode cL_release 14 = .ok (.ireturn, 1) := by decide +kernel
theorem dL_release_15 : decode cL_release 15 = .ok (.astore_n 3, 1) := by decide +kernel
theorem dL_release_16 : decode cL_release 16 = .ok (.iconst 2, 1) := by decide +kernel
theorem dL_release_17 : decode cL_release 17 = .ok (.ireturn, 1) := by decide +kernel
theorem dL_release_18 : decode cL_release 18 = .ok (.iconst 0, 1) := by decide +kernel
theorem dL_release_19 : decode cL_release 19 = .ok (.ireturn, 1) := by decide +kernel
theorem dL_get_0 : decode cL_get 0 = .ok (.aload_n 3, 1) := by decide +kernel
theorem dL_get_1 : decode cL_get 1 = .ok (.iconst 0, 1) := by decide +kernel
theorem dL_get_2 : decode cL_get 2 = .ok (.aload_n 0, 1) := by decide +kernel
theorem dL_get_3 : decode cL_get 3 = .ok (.iload_n 1, 1) := by decide +kernel
theorem dL_get_4 : decode cL_get 4 = .ok (.iload_n 2, 1) := by decide +kernel
theorem dL_get_5 : decode cL_get 5 = .ok (.invokevirtual 20, 3) := by decide +kernel
theorem dL_get_8 : decode cL_get 8 = .ok (.i2l, 1) := by decide +kernel
theorem dL_get_9 : decode cL_get 9 = .ok (.lastore, 1) := by decide +kernel
theorem dL_get_10 : decode cL_get 10 = .ok (.goto 11, 3) := by decide +kernel
theorem dL_get_13 : decode cL_get 13 = .ok (.astore 4, 2) := by decide +kernel
theorem dL_get_15 : decode cL_get 15 = .ok (.iconst 1, 1) := by decide +kernel
theorem dL_get_16 : decode cL_get 16 = .ok (.ireturn, 1) := by decide +kernel
theorem dL_get_17 : decode cL_get 17 = .ok (.astore 4, 2) := by decide +kernel
theorem dL_get_19 : decode cL_get 19 = .ok (.iconst 2, 1) := by decide +kernel
theorem dL_get_20 : decode cL_get 20 = .ok (.ireturn, 1) := by decide +kernel
theorem dL_get_21 : decode cL_get 21 = .ok (.iconst 0, 1) := by decide +kernel
theorem dL_get_22 : decode cL_get 22 = .ok (.ireturn, 1) := by decide +kernel
theorem dL_set_0 : decode cL_set 0 = .ok (.aload 5, 2) := by decide +kernel
theorem dL_set_2 : decode cL_set 2 = .ok (.iconst 0, 1) := by decide +kernel
theorem dL_set_3 : decode cL_set 3 = .ok (.aload_n 0, 1) := by decide +kernel
theorem dL_set_4 : decode cL_set 4 = .ok (.iload_n 1, 1) := by decide +kernel
theorem dL_set_5 : decode cL_set 5 = .ok (.iload_n 2, 1) := by decide +kernel
theorem dL_set_6 : decode cL_set 6 = .ok (.iload_n 3, 1) := by decide +kernel
theorem dL_set_7 : decode cL_set 7 = .ok (.iload 4, 2) := by decide +kernel
theorem dL_set_9 : decode cL_set 9 = .ok (.invokevirtual 24, 3) := by decide +kernel
theorem dL_set_12 : decode cL_set 12 = .ok (.i2l, 1) := by decide +kernel
theorem dL_set_13 : decode cL_set 13 = .ok (.lastore, 1) := by decide +kernel
theorem dL_set_14 : decode cL_set 14 = .ok (.goto 11, 3) := by decide +kernel
theorem dL_set_17 : decode cL_set 17 = .ok (.astore 6, 2) := by decide +kernel
theorem dL_set_19 : decode cL_set 19 = .ok (.iconst 1, 1) := by decide +kernel
theorem dL_set_20 : decode cL_set 20 = .ok (.ireturn, 1) := by decide +kernel
theorem dL_set_21 : decode cL_set 21 = .ok (.astore 6, 2) := by decide +kernel
theorem dL_set_23 : decode cL_set 23 = .ok (.iconst 2, 1) := by decide +kernel
theorem dL_set_24 : decode cL_set 24 = .ok (.ireturn, 1) := by decide +kernel
theorem dL_set_25 : decode cL_set 25 = .ok (.iconst 0, 1) := by decide +kernel
theorem dL_set_26 : decode cL_set 26 = .ok (.ireturn, 1) := by decide +kernel
theorem dL_commit_0 : decode cL_commit 0 = .ok (.aload_n 2, 1) := by decide +kernel
theorem dL_commit_1 : decode cL_commit 1 = .ok (.iconst 0, 1) := by decide +kernel
theorem dL_commit_2 : decode cL_commit 2 = .ok (.aload_n 0, 1) := by decide +kernel
theorem dL_commit_3 : decode cL_commit 3 = .ok (.iload_n 1, 1) := by decide +kernel
theorem dL_commit_4 : decode cL_commit 4 = .ok (.invokevirtual 28, 3) := by decide +kernel
theorem dL_commit_7 : decode cL_commit 7 = .ok (.i2l, 1) := by decide +kernel
theorem dL_commit_8 : decode cL_commit 8 = .ok (.lastore, 1) := by decide +kernel
theorem dL_commit_9 : decode cL_commit 9 = .ok (.goto 9, 3) := by decide +kernel
theorem dL_commit_12 : decode cL_commit 12 = .ok (.astore_n 3, 1) := by decide +kernel
theorem dL_commit_13 : decode cL_commit 13 = .ok (.iconst 1, 1) := by decide +kernel
theorem dL_commit_14 : decode cL_commit 14 = .ok (.ireturn, 1) := by decide +kernel
theorem dL_commit_15 : decode cL_commit 15 = .ok (.astore_n 3, 1) := by decide +kernel
theorem dL_commit_16 : decode cL_commit 16 = .ok (.iconst 2, 1) := by decide +kernel
theorem dL_commit_17 : decode cL_commit 17 = .ok (.ireturn, 1) := by decide +kernel
theorem dL_commit_18 : decode cL_commit 18 = .ok (.iconst 0, 1) := by decide +kernel
theorem dL_commit_19 : decode cL_commit 19 = .ok (.ireturn, 1) := by decide +kernel
theorem dL_abort_0 : decode cL_abort 0 = .ok (.aload_n 2, 1) := by decide +kernel
theorem dL_abort_1 : decode cL_abort 1 = .ok (.iconst 0, 1) := by decide +kernel
theorem dL_abort_2 : decode cL_abort 2 = .ok (.aload_n 0, 1) := by decide +kernel
theorem dL_abort_3 : decode cL_abort 3 = .ok (.iload_n 1, 1) := by decide +kernel
theorem dL_abort_4 : decode cL_abort 4 = .ok (.invokevirtual 31, 3) := by decide +kernel
theorem dL_abort_7 : decode cL_abort 7 = .ok (.i2l, 1) := by decide +kernel
theorem dL_abort_8 : decode cL_abort 8 = .ok (.lastore, 1) := by decide +kernel
theorem dL_abort_9 : decode cL_abort 9 = .ok (.goto 9, 3) := by decide +kernel
theorem dL_abort_12 : decode cL_abort 12 = .ok (.astore_n 3, 1) := by decide +kernel
theorem dL_abort_13 : decode cL_abort 13 = .ok (.iconst 1, 1) := by decide +kernel
theorem dL_abort_14 : decode cL_abort 14 = .ok (.ireturn, 1) := by decide +kernel
theorem dL_abort_15 : decode cL_abort 15 = .ok (.astore_n 3, 1) := by decide +kernel
theorem dL_abort_16 : decode cL_abort 16 = .ok (.iconst 2, 1) := by decide +kernel
theorem dL_abort_17 : decode cL_abort 17 = .ok (.ireturn, 1) := by decide +kernel
theorem dL_abort_18 : decode cL_abort 18 = .ok (.iconst 0, 1) := by decide +kernel
theorem dL_abort_19 : decode cL_abort 19 = .ok (.ireturn, 1) := by decide +kernel
theorem dL_flush_0 : decode cL_flush 0 = .ok (.aload_n 2, 1) := by decide +kernel
theorem dL_flush_1 : decode cL_flush 1 = .ok (.iconst 0, 1) := by decide +kernel
theorem dL_flush_2 : decode cL_flush 2 = .ok (.aload_n 0, 1) := by decide +kernel
theorem dL_flush_3 : decode cL_flush 3 = .ok (.iload_n 1, 1) := by decide +kernel
theorem dL_flush_4 : decode cL_flush 4 = .ok (.invokevirtual 34, 3) := by decide +kernel
theorem dL_flush_7 : decode cL_flush 7 = .ok (.i2l, 1) := by decide +kernel
theorem dL_flush_8 : decode cL_flush 8 = .ok (.lastore, 1) := by decide +kernel
theorem dL_flush_9 : decode cL_flush 9 = .ok (.goto 6, 3) := by decide +kernel
theorem dL_flush_12 : decode cL_flush 12 = .ok (.astore_n 3, 1) := by decide +kernel
theorem dL_flush_13 : decode cL_flush 13 = .ok (.iconst 1, 1) := by decide +kernel
theorem dL_flush_14 : decode cL_flush 14 = .ok (.ireturn, 1) := by decide +kernel
theorem dL_flush_15 : decode cL_flush 15 = .ok (.iconst 0, 1) := by decide +kernel
theorem dL_flush_16 : decode cL_flush 16 = .ok (.ireturn, 1) := by decide +kernel
theorem dL_clean_0 : decode cL_clean 0 = .ok (.aload_n 2, 1) := by decide +kernel
theorem dL_clean_1 : decode cL_clean 1 = .ok (.iconst 0, 1) := by decide +kernel
theorem dL_clean_2 : decode cL_clean 2 = .ok (.aload_n 0, 1) := by decide +kernel
theorem dL_clean_3 : decode cL_clean 3 = .ok (.iload_n 1, 1) := by decide +kernel
theorem dL_clean_4 : decode cL_clean 4 = .ok (.invokevirtual 37, 3) := by decide +kernel
theorem dL_clean_7 : decode cL_clean 7 = .ok (.ifCond .eq 7, 3) := by decide +kernel
theorem dL_clean_10 : decode cL_clean 10 = .ok (.lconst 1, 1) := by decide +kernel
theorem dL_clean_11 : decode cL_clean 11 = .ok (.goto 4, 3) := by decide +kernel
theorem dL_clean_14 : decode cL_clean 14 = .ok (.lconst 0, 1) := by decide +kernel
theorem dL_clean_15 : decode cL_clean 15 = .ok (.lastore, 1) := by decide +kernel
theorem dL_clean_16 : decode cL_clean 16 = .ok (.goto 6, 3) := by decide +kernel
theorem dL_clean_19 : decode cL_clean 19 = .ok (.astore_n 3, 1) := by decide +kernel
theorem dL_clean_20 : decode cL_clean 20 = .ok (.iconst 1, 1) := by decide +kernel
theorem dL_clean_21 : decode cL_clean 21 = .ok (.ireturn, 1) := by decide +kernel
theorem dL_clean_22 : decode cL_clean 22 = .ok (.iconst 0, 1) := by decide +kernel
theorem dL_clean_23 : decode cL_clean 23 = .ok (.ireturn, 1) := by decide +kernel
theorem dL_disk_0 : decode cL_disk 0 = .ok (.aload_n 3, 1) := by decide +kernel
theorem dL_disk_1 : decode cL_disk 1 = .ok (.iconst 0, 1) := by decide +kernel
theorem dL_disk_2 : decode cL_disk 2 = .ok (.aload_n 0, 1) := by decide +kernel
theorem dL_disk_3 : decode cL_disk 3 = .ok (.iload_n 1, 1) := by decide +kernel
theorem dL_disk_4 : decode cL_disk 4 = .ok (.iload_n 2, 1) := by decide +kernel
theorem dL_disk_5 : decode cL_disk 5 = .ok (.invokevirtual 41, 3) := by decide +kernel
theorem dL_disk_8 : decode cL_disk 8 = .ok (.i2l, 1) := by decide +kernel
theorem dL_disk_9 : decode cL_disk 9 = .ok (.lastore, 1) := by decide +kernel
theorem dL_disk_10 : decode cL_disk 10 = .ok (.goto 7, 3) := by decide +kernel
theorem dL_disk_13 : decode cL_disk 13 = .ok (.astore 4, 2) := by decide +kernel
theorem dL_disk_15 : decode cL_disk 15 = .ok (.iconst 1, 1) := by decide +kernel
theorem dL_disk_16 : decode cL_disk 16 = .ok (.ireturn, 1) := by decide +kernel
theorem dL_disk_17 : decode cL_disk 17 = .ok (.iconst 0, 1) := by decide +kernel
theorem dL_disk_18 : decode cL_disk 18 = .ok (.ireturn, 1) := by decide +kernel
theorem dL_frame_0 : decode cL_frame 0 = .ok (.aload_n 3, 1) := by decide +kernel
theorem dL_frame_1 : decode cL_frame 1 = .ok (.iconst 0, 1) := by decide +kernel
theorem dL_frame_2 : decode cL_frame 2 = .ok (.aload_n 0, 1) := by decide +kernel
theorem dL_frame_3 : decode cL_frame 3 = .ok (.iload_n 1, 1) := by decide +kernel
theorem dL_frame_4 : decode cL_frame 4 = .ok (.iload_n 2, 1) := by decide +kernel
theorem dL_frame_5 : decode cL_frame 5 = .ok (.invokevirtual 44, 3) := by decide +kernel
theorem dL_frame_8 : decode cL_frame 8 = .ok (.i2l, 1) := by decide +kernel
theorem dL_frame_9 : decode cL_frame 9 = .ok (.lastore, 1) := by decide +kernel
theorem dL_frame_10 : decode cL_frame 10 = .ok (.goto 7, 3) := by decide +kernel
theorem dL_frame_13 : decode cL_frame 13 = .ok (.astore 4, 2) := by decide +kernel
theorem dL_frame_15 : decode cL_frame 15 = .ok (.iconst 1, 1) := by decide +kernel
theorem dL_frame_16 : decode cL_frame 16 = .ok (.ireturn, 1) := by decide +kernel
theorem dL_frame_17 : decode cL_frame 17 = .ok (.iconst 0, 1) := by decide +kernel
theorem dL_frame_18 : decode cL_frame 18 = .ok (.ireturn, 1) := by decide +kernel
theorem dL_log_0 : decode cL_log 0 = .ok (.aload_n 3, 1) := by decide +kernel
theorem dL_log_1 : decode cL_log 1 = .ok (.iconst 0, 1) := by decide +kernel
theorem dL_log_2 : decode cL_log 2 = .ok (.aload_n 0, 1) := by decide +kernel
theorem dL_log_3 : decode cL_log 3 = .ok (.iload_n 1, 1) := by decide +kernel
theorem dL_log_4 : decode cL_log 4 = .ok (.iload_n 2, 1) := by decide +kernel
theorem dL_log_5 : decode cL_log 5 = .ok (.invokevirtual 47, 3) := by decide +kernel
theorem dL_log_8 : decode cL_log 8 = .ok (.i2l, 1) := by decide +kernel
theorem dL_log_9 : decode cL_log 9 = .ok (.lastore, 1) := by decide +kernel
theorem dL_log_10 : decode cL_log 10 = .ok (.goto 7, 3) := by decide +kernel
theorem dL_log_13 : decode cL_log 13 = .ok (.astore 4, 2) := by decide +kernel
theorem dL_log_15 : decode cL_log 15 = .ok (.iconst 1, 1) := by decide +kernel
theorem dL_log_16 : decode cL_log 16 = .ok (.ireturn, 1) := by decide +kernel
theorem dL_log_17 : decode cL_log 17 = .ok (.iconst 0, 1) := by decide +kernel
theorem dL_log_18 : decode cL_log 18 = .ok (.ireturn, 1) := by decide +kernel
theorem dL_count_0 : decode cL_count 0 = .ok (.aload_n 2, 1) := by decide +kernel
theorem dL_count_1 : decode cL_count 1 = .ok (.iconst 0, 1) := by decide +kernel
theorem dL_count_2 : decode cL_count 2 = .ok (.aload_n 0, 1) := by decide +kernel
theorem dL_count_3 : decode cL_count 3 = .ok (.iload_n 1, 1) := by decide +kernel
theorem dL_count_4 : decode cL_count 4 = .ok (.invokevirtual 50, 3) := by decide +kernel
theorem dL_count_7 : decode cL_count 7 = .ok (.i2l, 1) := by decide +kernel
theorem dL_count_8 : decode cL_count 8 = .ok (.lastore, 1) := by decide +kernel
theorem dL_count_9 : decode cL_count 9 = .ok (.goto 6, 3) := by decide +kernel
theorem dL_count_12 : decode cL_count 12 = .ok (.astore_n 3, 1) := by decide +kernel
theorem dL_count_13 : decode cL_count 13 = .ok (.iconst 1, 1) := by decide +kernel
theorem dL_count_14 : decode cL_count 14 = .ok (.ireturn, 1) := by decide +kernel
theorem dL_count_15 : decode cL_count 15 = .ok (.iconst 0, 1) := by decide +kernel
theorem dL_count_16 : decode cL_count 16 = .ok (.ireturn, 1) := by decide +kernel
theorem dL_law_0 : decode cL_law 0 = .ok (.new 8, 3) := by decide +kernel
theorem dL_law_3 : decode cL_law 3 = .ok (.dup, 1) := by decide +kernel
theorem dL_law_4 : decode cL_law 4 = .ok (.aload_n 0, 1) := by decide +kernel
theorem dL_law_5 : decode cL_law 5 = .ok (.iconst 0, 1) := by decide +kernel
theorem dL_law_6 : decode cL_law 6 = .ok (.invokestatic 53, 3) := by decide +kernel
theorem dL_law_9 : decode cL_law 9 = .ok (.invokespecial 59, 3) := by decide +kernel
theorem dL_law_12 : decode cL_law 12 = .ok (.astore_n 1, 1) := by decide +kernel
theorem dL_law_13 : decode cL_law 13 = .ok (.new 62, 3) := by decide +kernel
theorem dL_law_16 : decode cL_law 16 = .ok (.dup, 1) := by decide +kernel
theorem dL_law_17 : decode cL_law 17 = .ok (.aload_n 0, 1) := by decide +kernel
theorem dL_law_18 : decode cL_law 18 = .ok (.iconst 0, 1) := by decide +kernel
theorem dL_law_19 : decode cL_law 19 = .ok (.invokestatic 53, 3) := by decide +kernel
theorem dL_law_22 : decode cL_law 22 = .ok (.invokespecial 64, 3) := by decide +kernel
theorem dL_law_25 : decode cL_law 25 = .ok (.astore_n 2, 1) := by decide +kernel
theorem dL_law_26 : decode cL_law 26 = .ok (.iconst 1, 1) := by decide +kernel
theorem dL_law_27 : decode cL_law 27 = .ok (.newarray .long, 2) := by decide +kernel
theorem dL_law_29 : decode cL_law 29 = .ok (.astore_n 3, 1) := by decide +kernel
theorem dL_law_30 : decode cL_law 30 = .ok (.iconst 1, 1) := by decide +kernel
theorem dL_law_31 : decode cL_law 31 = .ok (.istore 4, 2) := by decide +kernel
theorem dL_law_33 : decode cL_law 33 = .ok (.iload 4, 2) := by decide +kernel
theorem dL_law_35 : decode cL_law 35 = .ok (.aload_n 0, 1) := by decide +kernel
theorem dL_law_36 : decode cL_law 36 = .ok (.arraylength, 1) := by decide +kernel
theorem dL_law_37 : decode cL_law 37 = .ok (.iconst 5, 1) := by decide +kernel
theorem dL_law_38 : decode cL_law 38 = .ok (.isub, 1) := by decide +kernel
theorem dL_law_39 : decode cL_law 39 = .ok (.if_icmp .gt 876, 3) := by decide +kernel
theorem dL_law_42 : decode cL_law 42 = .ok (.aload_n 0, 1) := by decide +kernel
theorem dL_law_43 : decode cL_law 43 = .ok (.iload 4, 2) := by decide +kernel
theorem dL_law_45 : decode cL_law 45 = .ok (.iaload, 1) := by decide +kernel
theorem dL_law_46 : decode cL_law 46 = .ok (.bipush 15, 2) := by decide +kernel
theorem dL_law_48 : decode cL_law 48 = .ok (.iand, 1) := by decide +kernel
theorem dL_law_49 : decode cL_law 49 = .ok (.tableswitch 860 0 13 #[71, 127, 183, 251, 264, 356, 412, 468, 524, 587, 600, 668, 736, 804], 71) := by decide +kernel
theorem dL_law_120 : decode cL_law 120 = .ok (.aload_n 1, 1) := by decide +kernel
theorem dL_law_121 : decode cL_law 121 = .ok (.aload_n 0, 1) := by decide +kernel
theorem dL_law_122 : decode cL_law 122 = .ok (.iload 4, 2) := by decide +kernel
theorem dL_law_124 : decode cL_law 124 = .ok (.iconst 1, 1) := by decide +kernel
theorem dL_law_125 : decode cL_law 125 = .ok (.iadd, 1) := by decide +kernel
theorem dL_law_126 : decode cL_law 126 = .ok (.iaload, 1) := by decide +kernel
theorem dL_law_127 : decode cL_law 127 = .ok (.aload_n 3, 1) := by decide +kernel
theorem dL_law_128 : decode cL_law 128 = .ok (.invokestatic 65, 3) := by decide +kernel
theorem dL_law_131 : decode cL_law 131 = .ok (.istore 5, 2) := by decide +kernel
theorem dL_law_133 : decode cL_law 133 = .ok (.aload_n 2, 1) := by decide +kernel
theorem dL_law_134 : decode cL_law 134 = .ok (.aload_n 0, 1) := by decide +kernel
theorem dL_law_135 : decode cL_law 135 = .ok (.iload 4, 2) := by decide +kernel
theorem dL_law_137 : decode cL_law 137 = .ok (.iconst 1, 1) := by decide +kernel
theorem dL_law_138 : decode cL_law 138 = .ok (.iadd, 1) := by decide +kernel
theorem dL_law_139 : decode cL_law 139 = .ok (.iaload, 1) := by decide +kernel
theorem dL_law_140 : decode cL_law 140 = .ok (.invokevirtual 68, 3) := by decide +kernel
theorem dL_law_143 : decode cL_law 143 = .ok (.istore 6, 2) := by decide +kernel
theorem dL_law_145 : decode cL_law 145 = .ok (.aload_n 2, 1) := by decide +kernel
theorem dL_law_146 : decode cL_law 146 = .ok (.invokevirtual 69, 3) := by decide +kernel
theorem dL_law_149 : decode cL_law 149 = .ok (.iload 5, 2) := by decide +kernel
theorem dL_law_151 : decode cL_law 151 = .ok (.if_icmp .eq 5, 3) := by decide +kernel
theorem dL_law_154 : decode cL_law 154 = .ok (.iconst 0, 1) := by decide +kernel
theorem dL_law_155 : decode cL_law 155 = .ok (.ireturn, 1) := by decide +kernel
theorem dL_law_156 : decode cL_law 156 = .ok (.iload 5, 2) := by decide +kernel
theorem dL_law_158 : decode cL_law 158 = .ok (.ifCond .ne 15, 3) := by decide +kernel
theorem dL_law_161 : decode cL_law 161 = .ok (.aload_n 3, 1) := by decide +kernel
theorem dL_law_162 : decode cL_law 162 = .ok (.iconst 0, 1) := by decide +kernel
theorem dL_law_163 : decode cL_law 163 = .ok (.laload, 1) := by decide +kernel
theorem dL_law_164 : decode cL_law 164 = .ok (.iload 6, 2) := by decide +kernel
theorem dL_law_166 : decode cL_law 166 = .ok (.i2l, 1) := by decide +kernel
theorem dL_law_167 : decode cL_law 167 = .ok (.lcmp, 1) := by decide +kernel
theorem dL_law_168 : decode cL_law 168 = .ok (.ifCond .eq 5, 3) := by decide +kernel
theorem dL_law_171 : decode cL_law 171 = .ok (.iconst 0, 1) := by decide +kernel
theorem dL_law_172 : decode cL_law 172 = .ok (.ireturn, 1) := by decide +kernel
theorem dL_law_173 : decode cL_law 173 = .ok (.goto 736, 3) := by decide +kernel
theorem dL_law_176 : decode cL_law 176 = .ok (.aload_n 1, 1) := by decide +kernel
theorem dL_law_177 : decode cL_law 177 = .ok (.aload_n 0, 1) := by decide +kernel
theorem dL_law_178 : decode cL_law 178 = .ok (.iload 4, 2) := by decide +kernel
theorem dL_law_180 : decode cL_law 180 = .ok (.iconst 1, 1) := by decide +kernel
theorem dL_law_181 : decode cL_law 181 = .ok (.iadd, 1) := by decide +kernel
theorem dL_law_182 : decode cL_law 182 = .ok (.iaload, 1) := by decide +kernel
theorem dL_law_183 : decode cL_law 183 = .ok (.aload_n 3, 1) := by decide +kernel
theorem dL_law_184 : decode cL_law 184 = .ok (.invokestatic 73, 3) := by decide +kernel
theorem dL_law_187 : decode cL_law 187 = .ok (.istore 5, 2) := by decide +kernel
theorem dL_law_189 : decode cL_law 189 = .ok (.aload_n 2, 1) := by decide +kernel
theorem dL_law_190 : decode cL_law 190 = .ok (.aload_n 0, 1) := by decide +kernel
theorem dL_law_191 : decode cL_law 191 = .ok (.iload 4, 2) := by decide +kernel
theorem dL_law_193 : decode cL_law 193 = .ok (.iconst 1, 1) := by decide +kernel
theorem dL_law_194 : decode cL_law 194 = .ok (.iadd, 1) := by decide +kernel
theorem dL_law_195 : decode cL_law 195 = .ok (.iaload, 1) := by decide +kernel
theorem dL_law_196 : decode cL_law 196 = .ok (.invokevirtual 75, 3) := by decide +kernel
theorem dL_law_199 : decode cL_law 199 = .ok (.istore 6, 2) := by decide +kernel
theorem dL_law_201 : decode cL_law 201 = .ok (.aload_n 2, 1) := by decide +kernel
theorem dL_law_202 : decode cL_law 202 = .ok (.invokevirtual 69, 3) := by decide +kernel
theorem dL_law_205 : decode cL_law 205 = .ok (.iload 5, 2) := by decide +kernel
theorem dL_law_207 : decode cL_law 207 = .ok (.if_icmp .eq 5, 3) := by decide +kernel
theorem dL_law_210 : decode cL_law 210 = .ok (.iconst 0, 1) := by decide +kernel
theorem dL_law_211 : decode cL_law 211 = .ok (.ireturn, 1) := by decide +kernel
theorem dL_law_212 : decode cL_law 212 = .ok (.iload 5, 2) := by decide +kernel
theorem dL_law_214 : decode cL_law 214 = .ok (.ifCond .ne 15, 3) := by decide +kernel
theorem dL_law_217 : decode cL_law 217 = .ok (.aload_n 3, 1) := by decide +kernel
theorem dL_law_218 : decode cL_law 218 = .ok (.iconst 0, 1) := by decide +kernel
theorem dL_law_219 : decode cL_law 219 = .ok (.laload, 1) := by decide +kernel
theorem dL_law_220 : decode cL_law 220 = .ok (.iload 6, 2) := by decide +kernel
theorem dL_law_222 : decode cL_law 222 = .ok (.i2l, 1) := by decide +kernel
theorem dL_law_223 : decode cL_law 223 = .ok (.lcmp, 1) := by decide +kernel
theorem dL_law_224 : decode cL_law 224 = .ok (.ifCond .eq 5, 3) := by decide +kernel
theorem dL_law_227 : decode cL_law 227 = .ok (.iconst 0, 1) := by decide +kernel
theorem dL_law_228 : decode cL_law 228 = .ok (.ireturn, 1) := by decide +kernel
theorem dL_law_229 : decode cL_law 229 = .ok (.goto 680, 3) := by decide +kernel
theorem dL_law_232 : decode cL_law 232 = .ok (.aload_n 1, 1) := by decide +kernel
theorem dL_law_233 : decode cL_law 233 = .ok (.aload_n 0, 1) := by decide +kernel
theorem dL_law_234 : decode cL_law 234 = .ok (.iload 4, 2) := by decide +kernel
theorem dL_law_236 : decode cL_law 236 = .ok (.iconst 1, 1) := by decide +kernel
theorem dL_law_237 : decode cL_law 237 = .ok (.iadd, 1) := by decide +kernel
theorem dL_law_238 : decode cL_law 238 = .ok (.iaload, 1) := by decide +kernel
theorem dL_law_239 : decode cL_law 239 = .ok (.aload_n 0, 1) := by decide +kernel
theorem dL_law_240 : decode cL_law 240 = .ok (.iload 4, 2) := by decide +kernel
theorem dL_law_242 : decode cL_law 242 = .ok (.iconst 2, 1) := by decide +kernel
theorem dL_law_243 : decode cL_law 243 = .ok (.iadd, 1) := by decide +kernel
theorem dL_law_244 : decode cL_law 244 = .ok (.iaload, 1) := by decide +kernel
theorem dL_law_245 : decode cL_law 245 = .ok (.aload_n 3, 1) := by decide +kernel
theorem dL_law_246 : decode cL_law 246 = .ok (.invokestatic 76, 3) := by decide +kernel
theorem dL_law_249 : decode cL_law 249 = .ok (.istore 5, 2) := by decide +kernel
theorem dL_law_251 : decode cL_law 251 = .ok (.aload_n 2, 1) := by decide +kernel
theorem dL_law_252 : decode cL_law 252 = .ok (.aload_n 0, 1) := by decide +kernel
theorem dL_law_253 : decode cL_law 253 = .ok (.iload 4, 2) := by decide +kernel
theorem dL_law_255 : decode cL_law 255 = .ok (.iconst 1, 1) := by decide +kernel
theorem dL_law_256 : decode cL_law 256 = .ok (.iadd, 1) := by decide +kernel
theorem dL_law_257 : decode cL_law 257 = .ok (.iaload, 1) := by decide +kernel
theorem dL_law_258 : decode cL_law 258 = .ok (.aload_n 0, 1) := by decide +kernel
theorem dL_law_259 : decode cL_law 259 = .ok (.iload 4, 2) := by decide +kernel
theorem dL_law_261 : decode cL_law 261 = .ok (.iconst 2, 1) := by decide +kernel
theorem dL_law_262 : decode cL_law 262 = .ok (.iadd, 1) := by decide +kernel
theorem dL_law_263 : decode cL_law 263 = .ok (.iaload, 1) := by decide +kernel
theorem dL_law_264 : decode cL_law 264 = .ok (.invokevirtual 79, 3) := by decide +kernel
theorem dL_law_267 : decode cL_law 267 = .ok (.istore 6, 2) := by decide +kernel
theorem dL_law_269 : decode cL_law 269 = .ok (.aload_n 2, 1) := by decide +kernel
theorem dL_law_270 : decode cL_law 270 = .ok (.invokevirtual 69, 3) := by decide +kernel
theorem dL_law_273 : decode cL_law 273 = .ok (.iload 5, 2) := by decide +kernel
theorem dL_law_275 : decode cL_law 275 = .ok (.if_icmp .eq 5, 3) := by decide +kernel
theorem dL_law_278 : decode cL_law 278 = .ok (.iconst 0, 1) := by decide +kernel
theorem dL_law_279 : decode cL_law 279 = .ok (.ireturn, 1) := by decide +kernel
theorem dL_law_280 : decode cL_law 280 = .ok (.iload 5, 2) := by decide +kernel
theorem dL_law_282 : decode cL_law 282 = .ok (.ifCond .ne 15, 3) := by decide +kernel
theorem dL_law_285 : decode cL_law 285 = .ok (.aload_n 3, 1) := by decide +kernel
theorem dL_law_286 : decode cL_law 286 = .ok (.iconst 0, 1) := by decide +kernel
theorem dL_law_287 : decode cL_law 287 = .ok (.laload, 1) := by decide +kernel
theorem dL_law_288 : decode cL_law 288 = .ok (.iload 6, 2) := by decide +kernel
theorem dL_law_290 : decode cL_law 290 = .ok (.i2l, 1) := by decide +kernel
theorem dL_law_291 : decode cL_law 291 = .ok (.lcmp, 1) := by decide +kernel
theorem dL_law_292 : decode cL_law 292 = .ok (.ifCond .eq 5, 3) := by decide +kernel
theorem dL_law_295 : decode cL_law 295 = .ok (.iconst 0, 1) := by decide +kernel
theorem dL_law_296 : decode cL_law 296 = .ok (.ireturn, 1) := by decide +kernel
theorem dL_law_297 : decode cL_law 297 = .ok (.goto 612, 3) := by decide +kernel
theorem dL_law_300 : decode cL_law 300 = .ok (.aload_n 1, 1) := by decide +kernel
theorem dL_law_301 : decode cL_law 301 = .ok (.invokevirtual 80, 3) := by decide +kernel
theorem dL_law_304 : decode cL_law 304 = .ok (.aload_n 2, 1) := by decide +kernel
theorem dL_law_305 : decode cL_law 305 = .ok (.invokevirtual 83, 3) := by decide +kernel
theorem dL_law_308 : decode cL_law 308 = .ok (.if_icmp .eq 601, 3) := by decide +kernel
theorem dL_law_311 : decode cL_law 311 = .ok (.iconst 0, 1) := by decide +kernel
theorem dL_law_312 : decode cL_law 312 = .ok (.ireturn, 1) := by decide +kernel
theorem dL_law_313 : decode cL_law 313 = .ok (.aload_n 1, 1) := by decide +kernel
theorem dL_law_314 : decode cL_law 314 = .ok (.aload_n 0, 1) := by decide +kernel
theorem dL_law_315 : decode cL_law 315 = .ok (.iload 4, 2) := by decide +kernel
theorem dL_law_317 : decode cL_law 317 = .ok (.iconst 1, 1) := by decide +kernel
theorem dL_law_318 : decode cL_law 318 = .ok (.iadd, 1) := by decide +kernel
theorem dL_law_319 : decode cL_law 319 = .ok (.iaload, 1) := by decide +kernel
theorem dL_law_320 : decode cL_law 320 = .ok (.aload_n 0, 1) := by decide +kernel
theorem dL_law_321 : decode cL_law 321 = .ok (.iload 4, 2) := by decide +kernel
theorem dL_law_323 : decode cL_law 323 = .ok (.iconst 2, 1) := by decide +kernel
theorem dL_law_324 : decode cL_law 324 = .ok (.iadd, 1) := by decide +kernel
theorem dL_law_325 : decode cL_law 325 = .ok (.iaload, 1) := by decide +kernel
theorem dL_law_326 : decode cL_law 326 = .ok (.aload_n 0, 1) := by decide +kernel
theorem dL_law_327 : decode cL_law 327 = .ok (.iload 4, 2) := by decide +kernel
theorem dL_law_329 : decode cL_law 329 = .ok (.iconst 3, 1) := by decide +kernel
theorem dL_law_330 : decode cL_law 330 = .ok (.iadd, 1) := by decide +kernel
theorem dL_law_331 : decode cL_law 331 = .ok (.iaload, 1) := by decide +kernel
theorem dL_law_332 : decode cL_law 332 = .ok (.aload_n 0, 1) := by decide +kernel
theorem dL_law_333 : decode cL_law 333 = .ok (.iload 4, 2) := by decide +kernel
theorem dL_law_335 : decode cL_law 335 = .ok (.iconst 4, 1) := by decide +kernel
theorem dL_law_336 : decode cL_law 336 = .ok (.iadd, 1) := by decide +kernel
theorem dL_law_337 : decode cL_law 337 = .ok (.iaload, 1) := by decide +kernel
theorem dL_law_338 : decode cL_law 338 = .ok (.aload_n 3, 1) := by decide +kernel
theorem dL_law_339 : decode cL_law 339 = .ok (.invokestatic 84, 3) := by decide +kernel
theorem dL_law_342 : decode cL_law 342 = .ok (.istore 5, 2) := by decide +kernel
theorem dL_law_344 : decode cL_law 344 = .ok (.aload_n 2, 1) := by decide +kernel
theorem dL_law_345 : decode cL_law 345 = .ok (.aload_n 0, 1) := by decide +kernel
theorem dL_law_346 : decode cL_law 346 = .ok (.iload 4, 2) := by decide +kernel
theorem dL_law_348 : decode cL_law 348 = .ok (.iconst 1, 1) := by decide +kernel
theorem dL_law_349 : decode cL_law 349 = .ok (.iadd, 1) := by decide +kernel
theorem dL_law_350 : decode cL_law 350 = .ok (.iaload, 1) := by decide +kernel
theorem dL_law_351 : decode cL_law 351 = .ok (.aload_n 0, 1) := by decide +kernel
theorem dL_law_352 : decode cL_law 352 = .ok (.iload 4, 2) := by decide +kernel
theorem dL_law_354 : decode cL_law 354 = .ok (.iconst 2, 1) := by decide +kernel
theorem dL_law_355 : decode cL_law 355 = .ok (.iadd, 1) := by decide +kernel
theorem dL_law_356 : decode cL_law 356 = .ok (.iaload, 1) := by decide +kernel
theorem dL_law_357 : decode cL_law 357 = .ok (.aload_n 0, 1) := by decide +kernel
theorem dL_law_358 : decode cL_law 358 = .ok (.iload 4, 2) := by decide +kernel
theorem dL_law_360 : decode cL_law 360 = .ok (.iconst 3, 1) := by decide +kernel
theorem dL_law_361 : decode cL_law 361 = .ok (.iadd, 1) := by decide +kernel
theorem dL_law_362 : decode cL_law 362 = .ok (.iaload, 1) := by decide +kernel
theorem dL_law_363 : decode cL_law 363 = .ok (.aload_n 0, 1) := by decide +kernel
theorem dL_law_364 : decode cL_law 364 = .ok (.iload 4, 2) := by decide +kernel
theorem dL_law_366 : decode cL_law 366 = .ok (.iconst 4, 1) := by decide +kernel
theorem dL_law_367 : decode cL_law 367 = .ok (.iadd, 1) := by decide +kernel
theorem dL_law_368 : decode cL_law 368 = .ok (.iaload, 1) := by decide +kernel
theorem dL_law_369 : decode cL_law 369 = .ok (.invokevirtual 87, 3) := by decide +kernel
theorem dL_law_372 : decode cL_law 372 = .ok (.istore 6, 2) := by decide +kernel
theorem dL_law_374 : decode cL_law 374 = .ok (.aload_n 2, 1) := by decide +kernel
theorem dL_law_375 : decode cL_law 375 = .ok (.invokevirtual 69, 3) := by decide +kernel
theorem dL_law_378 : decode cL_law 378 = .ok (.iload 5, 2) := by decide +kernel
theorem dL_law_380 : decode cL_law 380 = .ok (.if_icmp .eq 5, 3) := by decide +kernel
theorem dL_law_383 : decode cL_law 383 = .ok (.iconst 0, 1) := by decide +kernel
theorem dL_law_384 : decode cL_law 384 = .ok (.ireturn, 1) := by decide +kernel
theorem dL_law_385 : decode cL_law 385 = .ok (.iload 5, 2) := by decide +kernel
theorem dL_law_387 : decode cL_law 387 = .ok (.ifCond .ne 15, 3) := by decide +kernel
theorem dL_law_390 : decode cL_law 390 = .ok (.aload_n 3, 1) := by decide +kernel
theorem dL_law_391 : decode cL_law 391 = .ok (.iconst 0, 1) := by decide +kernel
theorem dL_law_392 : decode cL_law 392 = .ok (.laload, 1) := by decide +kernel
theorem dL_law_393 : decode cL_law 393 = .ok (.iload 6, 2) := by decide +kernel
theorem dL_law_395 : decode cL_law 395 = .ok (.i2l, 1) := by decide +kernel
theorem dL_law_396 : decode cL_law 396 = .ok (.lcmp, 1) := by decide +kernel
theorem dL_law_397 : decode cL_law 397 = .ok (.ifCond .eq 5, 3) := by decide +kernel
theorem dL_law_400 : decode cL_law 400 = .ok (.iconst 0, 1) := by decide +kernel
theorem dL_law_401 : decode cL_law 401 = .ok (.ireturn, 1) := by decide +kernel
theorem dL_law_402 : decode cL_law 402 = .ok (.goto 507, 3) := by decide +kernel
theorem dL_law_405 : decode cL_law 405 = .ok (.aload_n 1, 1) := by decide +kernel
theorem dL_law_406 : decode cL_law 406 = .ok (.aload_n 0, 1) := by decide +kernel
theorem dL_law_407 : decode cL_law 407 = .ok (.iload 4, 2) := by decide +kernel
theorem dL_law_409 : decode cL_law 409 = .ok (.iconst 1, 1) := by decide +kernel
theorem dL_law_410 : decode cL_law 410 = .ok (.iadd, 1) := by decide +kernel
theorem dL_law_411 : decode cL_law 411 = .ok (.iaload, 1) := by decide +kernel
theorem dL_law_412 : decode cL_law 412 = .ok (.aload_n 3, 1) := by decide +kernel
theorem dL_law_413 : decode cL_law 413 = .ok (.invokestatic 88, 3) := by decide +kernel
theorem dL_law_416 : decode cL_law 416 = .ok (.istore 5, 2) := by decide +kernel
theorem dL_law_418 : decode cL_law 418 = .ok (.aload_n 2, 1) := by decide +kernel
theorem dL_law_419 : decode cL_law 419 = .ok (.aload_n 0, 1) := by decide +kernel
theorem dL_law_420 : decode cL_law 420 = .ok (.iload 4, 2) := by decide +kernel
theorem dL_law_422 : decode cL_law 422 = .ok (.iconst 1, 1) := by decide +kernel
theorem dL_law_423 : decode cL_law 423 = .ok (.iadd, 1) := by decide +kernel
theorem dL_law_424 : decode cL_law 424 = .ok (.iaload, 1) := by decide +kernel
theorem dL_law_425 : decode cL_law 425 = .ok (.invokevirtual 90, 3) := by decide +kernel
theorem dL_law_428 : decode cL_law 428 = .ok (.istore 6, 2) := by decide +kernel
theorem dL_law_430 : decode cL_law 430 = .ok (.aload_n 2, 1) := by decide +kernel
theorem dL_law_431 : decode cL_law 431 = .ok (.invokevirtual 69, 3) := by decide +kernel
theorem dL_law_434 : decode cL_law 434 = .ok (.iload 5, 2) := by decide +kernel
theorem dL_law_436 : decode cL_law 436 = .ok (.if_icmp .eq 5, 3) := by decide +kernel
theorem dL_law_439 : decode cL_law 439 = .ok (.iconst 0, 1) := by decide +kernel
theorem dL_law_440 : decode cL_law 440 = .ok (.ireturn, 1) := by decide +kernel
theorem dL_law_441 : decode cL_law 441 = .ok (.iload 5, 2) := by decide +kernel
theorem dL_law_443 : decode cL_law 443 = .ok (.ifCond .ne 15, 3) := by decide +kernel
theorem dL_law_446 : decode cL_law 446 = .ok (.aload_n 3, 1) := by decide +kernel
theorem dL_law_447 : decode cL_law 447 = .ok (.iconst 0, 1) := by decide +kernel
theorem dL_law_448 : decode cL_law 448 = .ok (.laload, 1) := by decide +kernel
theorem dL_law_449 : decode cL_law 449 = .ok (.iload 6, 2) := by decide +kernel
theorem dL_law_451 : decode cL_law 451 = .ok (.i2l, 1) := by decide +kernel
theorem dL_law_452 : decode cL_law 452 = .ok (.lcmp, 1) := by decide +kernel
theorem dL_law_453 : decode cL_law 453 = .ok (.ifCond .eq 5, 3) := by decide +kernel
theorem dL_law_456 : decode cL_law 456 = .ok (.iconst 0, 1) := by decide +kernel
theorem dL_law_457 : decode cL_law 457 = .ok (.ireturn, 1) := by decide +kernel
theorem dL_law_458 : decode cL_law 458 = .ok (.goto 451, 3) := by decide +kernel
theorem dL_law_461 : decode cL_law 461 = .ok (.aload_n 1, 1) := by decide +kernel
theorem dL_law_462 : decode cL_law 462 = .ok (.aload_n 0, 1) := by decide +kernel
theorem dL_law_463 : decode cL_law 463 = .ok (.iload 4, 2) := by decide +kernel
theorem dL_law_465 : decode cL_law 465 = .ok (.iconst 1, 1) := by decide +kernel
theorem dL_law_466 : decode cL_law 466 = .ok (.iadd, 1) := by decide +kernel
theorem dL_law_467 : decode cL_law 467 = .ok (.iaload, 1) := by decide +kernel
theorem dL_law_468 : decode cL_law 468 = .ok (.aload_n 3, 1) := by decide +kernel
theorem dL_law_469 : decode cL_law 469 = .ok (.invokestatic 91, 3) := by decide +kernel
theorem dL_law_472 : decode cL_law 472 = .ok (.istore 5, 2) := by decide +kernel
theorem dL_law_474 : decode cL_law 474 = .ok (.aload_n 2, 1) := by decide +kernel
theorem dL_law_475 : decode cL_law 475 = .ok (.aload_n 0, 1) := by decide +kernel
theorem dL_law_476 : decode cL_law 476 = .ok (.iload 4, 2) := by decide +kernel
theorem dL_law_478 : decode cL_law 478 = .ok (.iconst 1, 1) := by decide +kernel
theorem dL_law_479 : decode cL_law 479 = .ok (.iadd, 1) := by decide +kernel
theorem dL_law_480 : decode cL_law 480 = .ok (.iaload, 1) := by decide +kernel
theorem dL_law_481 : decode cL_law 481 = .ok (.invokevirtual 93, 3) := by decide +kernel
theorem dL_law_484 : decode cL_law 484 = .ok (.istore 6, 2) := by decide +kernel
theorem dL_law_486 : decode cL_law 486 = .ok (.aload_n 2, 1) := by decide +kernel
theorem dL_law_487 : decode cL_law 487 = .ok (.invokevirtual 69, 3) := by decide +kernel
theorem dL_law_490 : decode cL_law 490 = .ok (.iload 5, 2) := by decide +kernel
theorem dL_law_492 : decode cL_law 492 = .ok (.if_icmp .eq 5, 3) := by decide +kernel
theorem dL_law_495 : decode cL_law 495 = .ok (.iconst 0, 1) := by decide +kernel
theorem dL_law_496 : decode cL_law 496 = .ok (.ireturn, 1) := by decide +kernel
theorem dL_law_497 : decode cL_law 497 = .ok (.iload 5, 2) := by decide +kernel
theorem dL_law_499 : decode cL_law 499 = .ok (.ifCond .ne 15, 3) := by decide +kernel
theorem dL_law_502 : decode cL_law 502 = .ok (.aload_n 3, 1) := by decide +kernel
theorem dL_law_503 : decode cL_law 503 = .ok (.iconst 0, 1) := by decide +kernel
theorem dL_law_504 : decode cL_law 504 = .ok (.laload, 1) := by decide +kernel
theorem dL_law_505 : decode cL_law 505 = .ok (.iload 6, 2) := by decide +kernel
theorem dL_law_507 : decode cL_law 507 = .ok (.i2l, 1) := by decide +kernel
theorem dL_law_508 : decode cL_law 508 = .ok (.lcmp, 1) := by decide +kernel
theorem dL_law_509 : decode cL_law 509 = .ok (.ifCond .eq 5, 3) := by decide +kernel
theorem dL_law_512 : decode cL_law 512 = .ok (.iconst 0, 1) := by decide +kernel
theorem dL_law_513 : decode cL_law 513 = .ok (.ireturn, 1) := by decide +kernel
theorem dL_law_514 : decode cL_law 514 = .ok (.goto 395, 3) := by decide +kernel
theorem dL_law_517 : decode cL_law 517 = .ok (.aload_n 1, 1) := by decide +kernel
theorem dL_law_518 : decode cL_law 518 = .ok (.aload_n 0, 1) := by decide +kernel
theorem dL_law_519 : decode cL_law 519 = .ok (.iload 4, 2) := by decide +kernel
theorem dL_law_521 : decode cL_law 521 = .ok (.iconst 1, 1) := by decide +kernel
theorem dL_law_522 : decode cL_law 522 = .ok (.iadd, 1) := by decide +kernel
theorem dL_law_523 : decode cL_law 523 = .ok (.iaload, 1) := by decide +kernel
theorem dL_law_524 : decode cL_law 524 = .ok (.aload_n 3, 1) := by decide +kernel
theorem dL_law_525 : decode cL_law 525 = .ok (.invokestatic 94, 3) := by decide +kernel
theorem dL_law_528 : decode cL_law 528 = .ok (.istore 5, 2) := by decide +kernel
theorem dL_law_530 : decode cL_law 530 = .ok (.aload_n 2, 1) := by decide +kernel
theorem dL_law_531 : decode cL_law 531 = .ok (.aload_n 0, 1) := by decide +kernel
theorem dL_law_532 : decode cL_law 532 = .ok (.iload 4, 2) := by decide +kernel
theorem dL_law_534 : decode cL_law 534 = .ok (.iconst 1, 1) := by decide +kernel
theorem dL_law_535 : decode cL_law 535 = .ok (.iadd, 1) := by decide +kernel
theorem dL_law_536 : decode cL_law 536 = .ok (.iaload, 1) := by decide +kernel
theorem dL_law_537 : decode cL_law 537 = .ok (.invokevirtual 96, 3) := by decide +kernel
theorem dL_law_540 : decode cL_law 540 = .ok (.istore 6, 2) := by decide +kernel
theorem dL_law_542 : decode cL_law 542 = .ok (.aload_n 2, 1) := by decide +kernel
theorem dL_law_543 : decode cL_law 543 = .ok (.invokevirtual 69, 3) := by decide +kernel
theorem dL_law_546 : decode cL_law 546 = .ok (.iload 5, 2) := by decide +kernel
theorem dL_law_548 : decode cL_law 548 = .ok (.if_icmp .eq 5, 3) := by decide +kernel
theorem dL_law_551 : decode cL_law 551 = .ok (.iconst 0, 1) := by decide +kernel
theorem dL_law_552 : decode cL_law 552 = .ok (.ireturn, 1) := by decide +kernel
theorem dL_law_553 : decode cL_law 553 = .ok (.iload 5, 2) := by decide +kernel
theorem dL_law_555 : decode cL_law 555 = .ok (.ifCond .ne 15, 3) := by decide +kernel
theorem dL_law_558 : decode cL_law 558 = .ok (.aload_n 3, 1) := by decide +kernel
theorem dL_law_559 : decode cL_law 559 = .ok (.iconst 0, 1) := by decide +kernel
theorem dL_law_560 : decode cL_law 560 = .ok (.laload, 1) := by decide +kernel
theorem dL_law_561 : decode cL_law 561 = .ok (.iload 6, 2) := by decide +kernel
theorem dL_law_563 : decode cL_law 563 = .ok (.i2l, 1) := by decide +kernel
theorem dL_law_564 : decode cL_law 564 = .ok (.lcmp, 1) := by decide +kernel
theorem dL_law_565 : decode cL_law 565 = .ok (.ifCond .eq 5, 3) := by decide +kernel
theorem dL_law_568 : decode cL_law 568 = .ok (.iconst 0, 1) := by decide +kernel
theorem dL_law_569 : decode cL_law 569 = .ok (.ireturn, 1) := by decide +kernel
theorem dL_law_570 : decode cL_law 570 = .ok (.goto 339, 3) := by decide +kernel
theorem dL_law_573 : decode cL_law 573 = .ok (.aload_n 1, 1) := by decide +kernel
theorem dL_law_574 : decode cL_law 574 = .ok (.aload_n 0, 1) := by decide +kernel
theorem dL_law_575 : decode cL_law 575 = .ok (.iload 4, 2) := by decide +kernel
theorem dL_law_577 : decode cL_law 577 = .ok (.iconst 1, 1) := by decide +kernel
theorem dL_law_578 : decode cL_law 578 = .ok (.iadd, 1) := by decide +kernel
theorem dL_law_579 : decode cL_law 579 = .ok (.iaload, 1) := by decide +kernel
theorem dL_law_580 : decode cL_law 580 = .ok (.aload_n 3, 1) := by decide +kernel
theorem dL_law_581 : decode cL_law 581 = .ok (.invokestatic 97, 3) := by decide +kernel
theorem dL_law_584 : decode cL_law 584 = .ok (.istore 5, 2) := by decide +kernel
theorem dL_law_586 : decode cL_law 586 = .ok (.aload_n 2, 1) := by decide +kernel
theorem dL_law_587 : decode cL_law 587 = .ok (.aload_n 0, 1) := by decide +kernel
theorem dL_law_588 : decode cL_law 588 = .ok (.iload 4, 2) := by decide +kernel
theorem dL_law_590 : decode cL_law 590 = .ok (.iconst 1, 1) := by decide +kernel
theorem dL_law_591 : decode cL_law 591 = .ok (.iadd, 1) := by decide +kernel
theorem dL_law_592 : decode cL_law 592 = .ok (.iaload, 1) := by decide +kernel
theorem dL_law_593 : decode cL_law 593 = .ok (.invokevirtual 99, 3) := by decide +kernel
theorem dL_law_596 : decode cL_law 596 = .ok (.istore 6, 2) := by decide +kernel
theorem dL_law_598 : decode cL_law 598 = .ok (.aload_n 2, 1) := by decide +kernel
theorem dL_law_599 : decode cL_law 599 = .ok (.invokevirtual 69, 3) := by decide +kernel
theorem dL_law_602 : decode cL_law 602 = .ok (.iload 5, 2) := by decide +kernel
theorem dL_law_604 : decode cL_law 604 = .ok (.if_icmp .eq 5, 3) := by decide +kernel
theorem dL_law_607 : decode cL_law 607 = .ok (.iconst 0, 1) := by decide +kernel
theorem dL_law_608 : decode cL_law 608 = .ok (.ireturn, 1) := by decide +kernel
theorem dL_law_609 : decode cL_law 609 = .ok (.iload 5, 2) := by decide +kernel
theorem dL_law_611 : decode cL_law 611 = .ok (.ifCond .ne 22, 3) := by decide +kernel
theorem dL_law_614 : decode cL_law 614 = .ok (.aload_n 3, 1) := by decide +kernel
theorem dL_law_615 : decode cL_law 615 = .ok (.iconst 0, 1) := by decide +kernel
theorem dL_law_616 : decode cL_law 616 = .ok (.laload, 1) := by decide +kernel
theorem dL_law_617 : decode cL_law 617 = .ok (.iload 6, 2) := by decide +kernel
theorem dL_law_619 : decode cL_law 619 = .ok (.ifCond .eq 7, 3) := by decide +kernel
theorem dL_law_622 : decode cL_law 622 = .ok (.lconst 1, 1) := by decide +kernel
theorem dL_law_623 : decode cL_law 623 = .ok (.goto 4, 3) := by decide +kernel
theorem dL_law_626 : decode cL_law 626 = .ok (.lconst 0, 1) := by decide +kernel
theorem dL_law_627 : decode cL_law 627 = .ok (.lcmp, 1) := by decide +kernel
theorem dL_law_628 : decode cL_law 628 = .ok (.ifCond .eq 5, 3) := by decide +kernel
theorem dL_law_631 : decode cL_law 631 = .ok (.iconst 0, 1) := by decide +kernel
theorem dL_law_632 : decode cL_law 632 = .ok (.ireturn, 1) := by decide +kernel
theorem dL_law_633 : decode cL_law 633 = .ok (.goto 276, 3) := by decide +kernel
theorem dL_law_636 : decode cL_law 636 = .ok (.aload_n 1, 1) := by decide +kernel
theorem dL_law_637 : decode cL_law 637 = .ok (.invokevirtual 100, 3) := by decide +kernel
theorem dL_law_640 : decode cL_law 640 = .ok (.aload_n 2, 1) := by decide +kernel
theorem dL_law_641 : decode cL_law 641 = .ok (.invokevirtual 103, 3) := by decide +kernel
theorem dL_law_644 : decode cL_law 644 = .ok (.if_icmp .eq 265, 3) := by decide +kernel
theorem dL_law_647 : decode cL_law 647 = .ok (.iconst 0, 1) := by decide +kernel
theorem dL_law_648 : decode cL_law 648 = .ok (.ireturn, 1) := by decide +kernel
theorem dL_law_649 : decode cL_law 649 = .ok (.aload_n 1, 1) := by decide +kernel
theorem dL_law_650 : decode cL_law 650 = .ok (.aload_n 0, 1) := by decide +kernel
theorem dL_law_651 : decode cL_law 651 = .ok (.iload 4, 2) := by decide +kernel
theorem dL_law_653 : decode cL_law 653 = .ok (.iconst 1, 1) := by decide +kernel
theorem dL_law_654 : decode cL_law 654 = .ok (.iadd, 1) := by decide +kernel
theorem dL_law_655 : decode cL_law 655 = .ok (.iaload, 1) := by decide +kernel
theorem dL_law_656 : decode cL_law 656 = .ok (.aload_n 0, 1) := by decide +kernel
theorem dL_law_657 : decode cL_law 657 = .ok (.iload 4, 2) := by decide +kernel
theorem dL_law_659 : decode cL_law 659 = .ok (.iconst 2, 1) := by decide +kernel
theorem dL_law_660 : decode cL_law 660 = .ok (.iadd, 1) := by decide +kernel
theorem dL_law_661 : decode cL_law 661 = .ok (.iaload, 1) := by decide +kernel
theorem dL_law_662 : decode cL_law 662 = .ok (.aload_n 3, 1) := by decide +kernel
theorem dL_law_663 : decode cL_law 663 = .ok (.invokestatic 104, 3) := by decide +kernel
theorem dL_law_666 : decode cL_law 666 = .ok (.istore 5, 2) := by decide +kernel
theorem dL_law_668 : decode cL_law 668 = .ok (.aload_n 2, 1) := by decide +kernel
theorem dL_law_669 : decode cL_law 669 = .ok (.aload_n 0, 1) := by decide +kernel
theorem dL_law_670 : decode cL_law 670 = .ok (.iload 4, 2) := by decide +kernel
theorem dL_law_672 : decode cL_law 672 = .ok (.iconst 1, 1) := by decide +kernel
theorem dL_law_673 : decode cL_law 673 = .ok (.iadd, 1) := by decide +kernel
theorem dL_law_674 : decode cL_law 674 = .ok (.iaload, 1) := by decide +kernel
theorem dL_law_675 : decode cL_law 675 = .ok (.aload_n 0, 1) := by decide +kernel
theorem dL_law_676 : decode cL_law 676 = .ok (.iload 4, 2) := by decide +kernel
theorem dL_law_678 : decode cL_law 678 = .ok (.iconst 2, 1) := by decide +kernel
theorem dL_law_679 : decode cL_law 679 = .ok (.iadd, 1) := by decide +kernel
theorem dL_law_680 : decode cL_law 680 = .ok (.iaload, 1) := by decide +kernel
theorem dL_law_681 : decode cL_law 681 = .ok (.invokevirtual 106, 3) := by decide +kernel
theorem dL_law_684 : decode cL_law 684 = .ok (.istore 6, 2) := by decide +kernel
theorem dL_law_686 : decode cL_law 686 = .ok (.aload_n 2, 1) := by decide +kernel
theorem dL_law_687 : decode cL_law 687 = .ok (.invokevirtual 69, 3) := by decide +kernel
theorem dL_law_690 : decode cL_law 690 = .ok (.iload 5, 2) := by decide +kernel
theorem dL_law_692 : decode cL_law 692 = .ok (.if_icmp .eq 5, 3) := by decide +kernel
theorem dL_law_695 : decode cL_law 695 = .ok (.iconst 0, 1) := by decide +kernel
theorem dL_law_696 : decode cL_law 696 = .ok (.ireturn, 1) := by decide +kernel
theorem dL_law_697 : decode cL_law 697 = .ok (.iload 5, 2) := by decide +kernel
theorem dL_law_699 : decode cL_law 699 = .ok (.ifCond .ne 15, 3) := by decide +kernel
theorem dL_law_702 : decode cL_law 702 = .ok (.aload_n 3, 1) := by decide +kernel
theorem dL_law_703 : decode cL_law 703 = .ok (.iconst 0, 1) := by decide +kernel
theorem dL_law_704 : decode cL_law 704 = .ok (.laload, 1) := by decide +kernel
theorem dL_law_705 : decode cL_law 705 = .ok (.iload 6, 2) := by decide +kernel
theorem dL_law_707 : decode cL_law 707 = .ok (.i2l, 1) := by decide +kernel
theorem dL_law_708 : decode cL_law 708 = .ok (.lcmp, 1) := by decide +kernel
theorem dL_law_709 : decode cL_law 709 = .ok (.ifCond .eq 5, 3) := by decide +kernel
theorem dL_law_712 : decode cL_law 712 = .ok (.iconst 0, 1) := by decide +kernel
theorem dL_law_713 : decode cL_law 713 = .ok (.ireturn, 1) := by decide +kernel
theorem dL_law_714 : decode cL_law 714 = .ok (.goto 195, 3) := by decide +kernel
theorem dL_law_717 : decode cL_law 717 = .ok (.aload_n 1, 1) := by decide +kernel
theorem dL_law_718 : decode cL_law 718 = .ok (.aload_n 0, 1) := by decide +kernel
theorem dL_law_719 : decode cL_law 719 = .ok (.iload 4, 2) := by decide +kernel
theorem dL_law_721 : decode cL_law 721 = .ok (.iconst 1, 1) := by decide +kernel
theorem dL_law_722 : decode cL_law 722 = .ok (.iadd, 1) := by decide +kernel
theorem dL_law_723 : decode cL_law 723 = .ok (.iaload, 1) := by decide +kernel
theorem dL_law_724 : decode cL_law 724 = .ok (.aload_n 0, 1) := by decide +kernel
theorem dL_law_725 : decode cL_law 725 = .ok (.iload 4, 2) := by decide +kernel
theorem dL_law_727 : decode cL_law 727 = .ok (.iconst 2, 1) := by decide +kernel
theorem dL_law_728 : decode cL_law 728 = .ok (.iadd, 1) := by decide +kernel
theorem dL_law_729 : decode cL_law 729 = .ok (.iaload, 1) := by decide +kernel
theorem dL_law_730 : decode cL_law 730 = .ok (.aload_n 3, 1) := by decide +kernel
theorem dL_law_731 : decode cL_law 731 = .ok (.invokestatic 107, 3) := by decide +kernel
theorem dL_law_734 : decode cL_law 734 = .ok (.istore 5, 2) := by decide +kernel
theorem dL_law_736 : decode cL_law 736 = .ok (.aload_n 2, 1) := by decide +kernel
theorem dL_law_737 : decode cL_law 737 = .ok (.aload_n 0, 1) := by decide +kernel
theorem dL_law_738 : decode cL_law 738 = .ok (.iload 4, 2) := by decide +kernel
theorem dL_law_740 : decode cL_law 740 = .ok (.iconst 1, 1) := by decide +kernel
theorem dL_law_741 : decode cL_law 741 = .ok (.iadd, 1) := by decide +kernel
theorem dL_law_742 : decode cL_law 742 = .ok (.iaload, 1) := by decide +kernel
theorem dL_law_743 : decode cL_law 743 = .ok (.aload_n 0, 1) := by decide +kernel
theorem dL_law_744 : decode cL_law 744 = .ok (.iload 4, 2) := by decide +kernel
theorem dL_law_746 : decode cL_law 746 = .ok (.iconst 2, 1) := by decide +kernel
theorem dL_law_747 : decode cL_law 747 = .ok (.iadd, 1) := by decide +kernel
theorem dL_law_748 : decode cL_law 748 = .ok (.iaload, 1) := by decide +kernel
theorem dL_law_749 : decode cL_law 749 = .ok (.invokevirtual 109, 3) := by decide +kernel
theorem dL_law_752 : decode cL_law 752 = .ok (.istore 6, 2) := by decide +kernel
theorem dL_law_754 : decode cL_law 754 = .ok (.aload_n 2, 1) := by decide +kernel
theorem dL_law_755 : decode cL_law 755 = .ok (.invokevirtual 69, 3) := by decide +kernel
theorem dL_law_758 : decode cL_law 758 = .ok (.iload 5, 2) := by decide +kernel
theorem dL_law_760 : decode cL_law 760 = .ok (.if_icmp .eq 5, 3) := by decide +kernel
theorem dL_law_763 : decode cL_law 763 = .ok (.iconst 0, 1) := by decide +kernel
theorem dL_law_764 : decode cL_law 764 = .ok (.ireturn, 1) := by decide +kernel
theorem dL_law_765 : decode cL_law 765 = .ok (.iload 5, 2) := by decide +kernel
theorem dL_law_767 : decode cL_law 767 = .ok (.ifCond .ne 15, 3) := by decide +kernel
theorem dL_law_770 : decode cL_law 770 = .ok (.aload_n 3, 1) := by decide +kernel
theorem dL_law_771 : decode cL_law 771 = .ok (.iconst 0, 1) := by decide +kernel
theorem dL_law_772 : decode cL_law 772 = .ok (.laload, 1) := by decide +kernel
theorem dL_law_773 : decode cL_law 773 = .ok (.iload 6, 2) := by decide +kernel
theorem dL_law_775 : decode cL_law 775 = .ok (.i2l, 1) := by decide +kernel
theorem dL_law_776 : decode cL_law 776 = .ok (.lcmp, 1) := by decide +kernel
theorem dL_law_777 : decode cL_law 777 = .ok (.ifCond .eq 5, 3) := by decide +kernel
theorem dL_law_780 : decode cL_law 780 = .ok (.iconst 0, 1) := by decide +kernel
theorem dL_law_781 : decode cL_law 781 = .ok (.ireturn, 1) := by decide +kernel
theorem dL_law_782 : decode cL_law 782 = .ok (.goto 127, 3) := by decide +kernel
theorem dL_law_785 : decode cL_law 785 = .ok (.aload_n 1, 1) := by decide +kernel
theorem dL_law_786 : decode cL_law 786 = .ok (.aload_n 0, 1) := by decide +kernel
theorem dL_law_787 : decode cL_law 787 = .ok (.iload 4, 2) := by decide +kernel
theorem dL_law_789 : decode cL_law 789 = .ok (.iconst 1, 1) := by decide +kernel
theorem dL_law_790 : decode cL_law 790 = .ok (.iadd, 1) := by decide +kernel
theorem dL_law_791 : decode cL_law 791 = .ok (.iaload, 1) := by decide +kernel
theorem dL_law_792 : decode cL_law 792 = .ok (.aload_n 0, 1) := by decide +kernel
theorem dL_law_793 : decode cL_law 793 = .ok (.iload 4, 2) := by decide +kernel
theorem dL_law_795 : decode cL_law 795 = .ok (.iconst 2, 1) := by decide +kernel
theorem dL_law_796 : decode cL_law 796 = .ok (.iadd, 1) := by decide +kernel
theorem dL_law_797 : decode cL_law 797 = .ok (.iaload, 1) := by decide +kernel
theorem dL_law_798 : decode cL_law 798 = .ok (.aload_n 3, 1) := by decide +kernel
theorem dL_law_799 : decode cL_law 799 = .ok (.invokestatic 110, 3) := by decide +kernel
theorem dL_law_802 : decode cL_law 802 = .ok (.istore 5, 2) := by decide +kernel
theorem dL_law_804 : decode cL_law 804 = .ok (.aload_n 2, 1) := by decide +kernel
theorem dL_law_805 : decode cL_law 805 = .ok (.aload_n 0, 1) := by decide +kernel
theorem dL_law_806 : decode cL_law 806 = .ok (.iload 4, 2) := by decide +kernel
theorem dL_law_808 : decode cL_law 808 = .ok (.iconst 1, 1) := by decide +kernel
theorem dL_law_809 : decode cL_law 809 = .ok (.iadd, 1) := by decide +kernel
theorem dL_law_810 : decode cL_law 810 = .ok (.iaload, 1) := by decide +kernel
theorem dL_law_811 : decode cL_law 811 = .ok (.aload_n 0, 1) := by decide +kernel
theorem dL_law_812 : decode cL_law 812 = .ok (.iload 4, 2) := by decide +kernel
theorem dL_law_814 : decode cL_law 814 = .ok (.iconst 2, 1) := by decide +kernel
theorem dL_law_815 : decode cL_law 815 = .ok (.iadd, 1) := by decide +kernel
theorem dL_law_816 : decode cL_law 816 = .ok (.iaload, 1) := by decide +kernel
theorem dL_law_817 : decode cL_law 817 = .ok (.invokevirtual 112, 3) := by decide +kernel
theorem dL_law_820 : decode cL_law 820 = .ok (.istore 6, 2) := by decide +kernel
theorem dL_law_822 : decode cL_law 822 = .ok (.aload_n 2, 1) := by decide +kernel
theorem dL_law_823 : decode cL_law 823 = .ok (.invokevirtual 69, 3) := by decide +kernel
theorem dL_law_826 : decode cL_law 826 = .ok (.iload 5, 2) := by decide +kernel
theorem dL_law_828 : decode cL_law 828 = .ok (.if_icmp .eq 5, 3) := by decide +kernel
theorem dL_law_831 : decode cL_law 831 = .ok (.iconst 0, 1) := by decide +kernel
theorem dL_law_832 : decode cL_law 832 = .ok (.ireturn, 1) := by decide +kernel
theorem dL_law_833 : decode cL_law 833 = .ok (.iload 5, 2) := by decide +kernel
theorem dL_law_835 : decode cL_law 835 = .ok (.ifCond .ne 15, 3) := by decide +kernel
theorem dL_law_838 : decode cL_law 838 = .ok (.aload_n 3, 1) := by decide +kernel
theorem dL_law_839 : decode cL_law 839 = .ok (.iconst 0, 1) := by decide +kernel
theorem dL_law_840 : decode cL_law 840 = .ok (.laload, 1) := by decide +kernel
theorem dL_law_841 : decode cL_law 841 = .ok (.iload 6, 2) := by decide +kernel
theorem dL_law_843 : decode cL_law 843 = .ok (.i2l, 1) := by decide +kernel
theorem dL_law_844 : decode cL_law 844 = .ok (.lcmp, 1) := by decide +kernel
theorem dL_law_845 : decode cL_law 845 = .ok (.ifCond .eq 5, 3) := by decide +kernel
theorem dL_law_848 : decode cL_law 848 = .ok (.iconst 0, 1) := by decide +kernel
theorem dL_law_849 : decode cL_law 849 = .ok (.ireturn, 1) := by decide +kernel
theorem dL_law_850 : decode cL_law 850 = .ok (.goto 59, 3) := by decide +kernel
theorem dL_law_853 : decode cL_law 853 = .ok (.aload_n 1, 1) := by decide +kernel
theorem dL_law_854 : decode cL_law 854 = .ok (.aload_n 0, 1) := by decide +kernel
theorem dL_law_855 : decode cL_law 855 = .ok (.iload 4, 2) := by decide +kernel
theorem dL_law_857 : decode cL_law 857 = .ok (.iconst 1, 1) := by decide +kernel
theorem dL_law_858 : decode cL_law 858 = .ok (.iadd, 1) := by decide +kernel
theorem dL_law_859 : decode cL_law 859 = .ok (.iaload, 1) := by decide +kernel
theorem dL_law_860 : decode cL_law 860 = .ok (.aload_n 3, 1) := by decide +kernel
theorem dL_law_861 : decode cL_law 861 = .ok (.invokestatic 113, 3) := by decide +kernel
theorem dL_law_864 : decode cL_law 864 = .ok (.istore 5, 2) := by decide +kernel
theorem dL_law_866 : decode cL_law 866 = .ok (.aload_n 2, 1) := by decide +kernel
theorem dL_law_867 : decode cL_law 867 = .ok (.aload_n 0, 1) := by decide +kernel
theorem dL_law_868 : decode cL_law 868 = .ok (.iload 4, 2) := by decide +kernel
theorem dL_law_870 : decode cL_law 870 = .ok (.iconst 1, 1) := by decide +kernel
theorem dL_law_871 : decode cL_law 871 = .ok (.iadd, 1) := by decide +kernel
theorem dL_law_872 : decode cL_law 872 = .ok (.iaload, 1) := by decide +kernel
theorem dL_law_873 : decode cL_law 873 = .ok (.invokevirtual 115, 3) := by decide +kernel
theorem dL_law_876 : decode cL_law 876 = .ok (.istore 6, 2) := by decide +kernel
theorem dL_law_878 : decode cL_law 878 = .ok (.aload_n 2, 1) := by decide +kernel
theorem dL_law_879 : decode cL_law 879 = .ok (.invokevirtual 69, 3) := by decide +kernel
theorem dL_law_882 : decode cL_law 882 = .ok (.iload 5, 2) := by decide +kernel
theorem dL_law_884 : decode cL_law 884 = .ok (.if_icmp .eq 5, 3) := by decide +kernel
theorem dL_law_887 : decode cL_law 887 = .ok (.iconst 0, 1) := by decide +kernel
theorem dL_law_888 : decode cL_law 888 = .ok (.ireturn, 1) := by decide +kernel
theorem dL_law_889 : decode cL_law 889 = .ok (.iload 5, 2) := by decide +kernel
theorem dL_law_891 : decode cL_law 891 = .ok (.ifCond .ne 15, 3) := by decide +kernel
theorem dL_law_894 : decode cL_law 894 = .ok (.aload_n 3, 1) := by decide +kernel
theorem dL_law_895 : decode cL_law 895 = .ok (.iconst 0, 1) := by decide +kernel
theorem dL_law_896 : decode cL_law 896 = .ok (.laload, 1) := by decide +kernel
theorem dL_law_897 : decode cL_law 897 = .ok (.iload 6, 2) := by decide +kernel
theorem dL_law_899 : decode cL_law 899 = .ok (.i2l, 1) := by decide +kernel
theorem dL_law_900 : decode cL_law 900 = .ok (.lcmp, 1) := by decide +kernel
theorem dL_law_901 : decode cL_law 901 = .ok (.ifCond .eq 5, 3) := by decide +kernel
theorem dL_law_904 : decode cL_law 904 = .ok (.iconst 0, 1) := by decide +kernel
theorem dL_law_905 : decode cL_law 905 = .ok (.ireturn, 1) := by decide +kernel
theorem dL_law_906 : decode cL_law 906 = .ok (.goto 3, 3) := by decide +kernel
theorem dL_law_909 : decode cL_law 909 = .ok (.iinc 4 5, 3) := by decide +kernel
theorem dL_law_912 : decode cL_law 912 = .ok (.goto (-879), 3) := by decide +kernel
theorem dL_law_915 : decode cL_law 915 = .ok (.iconst 1, 1) := by decide +kernel
theorem dL_law_916 : decode cL_law 916 = .ok (.ireturn, 1) := by decide +kernel
end
section
/-- the words that every method is given: those of the tables that stay when tables warm -/
def kT : List Cond := lw_tbl.filter goodWord
theorem kT_t {w : Cond} (h : w ∈ tables_1) (g : goodWord w = true) : w ∈ kT := List.mem_filter.mpr ⟨List.mem_append_right _ h, g⟩
theorem kT_1 {w : Cond} (i : Nat) (h : tables_1_1[i]? = some w) (g : goodWord w = true) : w ∈ kT := kT_t (List.mem_append_left _ (List.mem_of_getElem? h)) g
theorem kT_2 {w : Cond} (i : Nat) (h : tables_1_2[i]? = some w) (g : goodWord w = true) : w ∈ kT := kT_t (List.mem_append_right _ (List.mem_append_left _ (List.mem_of_getElem? h))) g
theorem kT_3 {w : Cond} (i : Nat) (h : tables_1_3[i]? = some w) (g : goodWord w = true) : w ∈ kT := kT_t (List.mem_append_right _ (List.mem_append_right _ (List.mem_of_getElem? h))) g
theorem kT_s {q : MethodName × Nat} (h : q ∈ lw_privs) (g : goodWord (Cond.selects q.1.cls q.1 q.1) = true) : Cond.selects q.1.cls q.1 q.1 ∈ kT := List.mem_filter.mpr ⟨List.mem_append_left _ (List.mem_map.mpr ⟨q, h, rfl⟩), g⟩
theorem kT_good {big : List Cond} {y : Cond} (hy : y ∈ big) (hg : goodWord y = true) (hb : ∀ w ∈ kT, w ∈ big) : GoodIn big (y :: kT) := by
  intro w hw
  rcases List.mem_cons.mp hw with rfl | h
  · exact ⟨hy, good_of_word hg⟩
  · exact ⟨hb w h, good_of_word (List.mem_filter.mp h).2⟩
theorem kT_law {args : Array Value} {s : State} (h : ∀ w ∈ lw_tbl, w.before args s = true) : ∀ w ∈ kT, w.before args s = true := fun w hw => h w (List.mem_filter.mp hw).1
/-- the words on members of nest mates: they stay too, but are told by a premise of their own -/
def kN_is : Cond → Bool
  | .fieldLinkNest _ _ _ _ _ _ => true
  | .methodLinkNest _ _ _ _ => true
  | .declares _ => true
  | .castable _ _ => true
  | .privateMethod _ => true
  | _ => false
def kN (U : State) : Prop := ∀ w ∈ tables_1, kN_is w = true → va_Nw w U
theorem kN_moved {s U : State} (hW : s.WarmedH U.vm) (h : kN s) : kN U := by
  intro w hw hi
  have h0 := h w hw hi
  cases w <;> first | exact va_Nw.warmF hW h0 | exact va_Nw.warmM hW h0 | exact va_tabs rfl (rfl : (s.setVm U.vm).vm = U.vm) (Cond.before_shiftedFace (State.Shifted.of_warmed hW) _ rfl h0) | cases hi
theorem kN_same {s U : State} (hv : s.vm = U.vm) (h : kN s) : kN U := by
  intro w hw hi
  have h0 := h w hw hi
  cases w <;> first | exact va_Nw.same rfl hv h0 | cases hi
theorem kN_of {args : Array Value} {s : State} (h : ∀ w ∈ lw_tbl, w.before args s = true) : kN s := by
  intro w hw hi
  have h0 := h w (List.mem_append_right _ hw)
  cases w <;> first | exact va_Nw.of rfl h0 | cases hi
theorem kN_1 {U : State} {w : Cond} (hN : kN U) (i : Nat) (h : tables_1_1[i]? = some w) (g : kN_is w = true) : va_Nw w U := hN w (List.mem_append_left _ (List.mem_of_getElem? h)) g
theorem kN_2 {U : State} {w : Cond} (hN : kN U) (i : Nat) (h : tables_1_2[i]? = some w) (g : kN_is w = true) : va_Nw w U := hN w (List.mem_append_right _ (List.mem_append_left _ (List.mem_of_getElem? h))) g
theorem kN_3 {U : State} {w : Cond} (hN : kN U) (i : Nat) (h : tables_1_3[i]? = some w) (g : kN_is w = true) : va_Nw w U := hN w (List.mem_append_right _ (List.mem_append_right _ (List.mem_of_getElem? h))) g
theorem kin_L : Cond.initialized RL ∈ kT := kT_1 0 rfl rfl
theorem kin_X3 : Cond.initialized RX3 ∈ kT := kT_1 1 rfl rfl
theorem kin_X2 : Cond.initialized RX2 ∈ kT := kT_1 2 rfl rfl
theorem kin_J9 : Cond.initialized "java/lang/Math" ∈ kT := kT_1 3 rfl rfl
theorem kin_X0 : Cond.initialized RX0 ∈ kT := kT_1 4 rfl rfl
theorem kin_X1 : Cond.initialized RX1 ∈ kT := kT_1 5 rfl rfl
theorem kin_X4 : Cond.initialized RX4 ∈ kT := kT_1 6 rfl rfl
theorem kin_Throwable : Cond.initialized "java/lang/Throwable" ∈ kT := kT_1 7 rfl rfl
theorem kin_Exception : Cond.initialized "java/lang/Exception" ∈ kT := kT_1 8 rfl rfl
theorem kin_RuntimeException : Cond.initialized "java/lang/RuntimeException" ∈ kT := kT_1 9 rfl rfl
theorem kin_IllegalArgumentException : Cond.initialized "java/lang/IllegalArgumentException" ∈ kT := kT_1 10 rfl rfl
theorem kin_J10 : Cond.initialized "java/lang/System" ∈ kT := kT_1 11 rfl rfl
theorem kin_IllegalStateException : Cond.initialized "java/lang/IllegalStateException" ∈ kT := kT_1 12 rfl rfl
theorem kin_J7 : Cond.initialized RJ7 ∈ kT := kT_1 13 rfl rfl
theorem kcl_L_8 : Cond.classLink RL 8 RX3 ∈ kT := kT_1 14 rfl rfl
theorem kis_X3 : Cond.instantiable RX3 6 ∈ kT := kT_1 15 rfl rfl
theorem km_L_59 : Cond.methodLink RL 59 yX3_init ∈ kT := kT_1 16 rfl rfl
theorem kim_X3_init : Cond.instanceMethod yX3_init ∈ kT := kT_1 17 rfl rfl
theorem kcd_X3_init : Cond.code yX3_init cX3_init 2 none ∈ kT := kT_1 18 rfl rfl
theorem km_X3_3 : Cond.methodLink RX3 3 objectInit ∈ kT := kT_1 19 rfl rfl
theorem kim_objectInit : Cond.instanceMethod objectInit ∈ kT := kT_1 20 rfl rfl
theorem kcd_objectInit : Cond.code objectInit ⟨#[0xb1]⟩ 1 none ∈ kT := kT_1 21 rfl rfl
theorem kcl_X3_9 : Cond.classLink RX3 9 RX2 ∈ kT := kT_1 22 rfl rfl
theorem kis_X2 : Cond.instantiable RX2 5 ∈ kT := kT_1 23 rfl rfl
theorem km_X3_11 : Cond.methodLink RX3 11 Lib.Math.min.name ∈ kT := kT_1 24 rfl rfl
theorem kst_Lib_Math_min_name : Cond.static Lib.Math.min.name ∈ kT := kT_1 25 rfl rfl
theorem kcd_Math_min : Cond.code Lib.Math.min.name Lib.Math.min.code 2 (some .int) ∈ kT := kT_1 26 rfl rfl
theorem km_X3_17 : Cond.methodLink RX3 17 Lib.Math.max.name ∈ kT := kT_1 27 rfl rfl
theorem kst_Lib_Math_max_name : Cond.static Lib.Math.max.name ∈ kT := kT_1 28 rfl rfl
theorem kcd_Math_max : Cond.code Lib.Math.max.name Lib.Math.max.code 2 (some .int) ∈ kT := kT_1 29 rfl rfl
theorem kmn_X3_20 {U : State} (hN : kN U) : va_Nw (Cond.methodLinkNest RX3 20 yX2_init "ClockPool") U := kN_1 hN 30 rfl rfl
theorem kim_X2_init : Cond.instanceMethod yX2_init ∈ kT := kT_1 31 rfl rfl
theorem kcd_X2_init : Cond.code yX2_init cX2_init 3 none ∈ kT := kT_1 32 rfl rfl
theorem km_X2_3 : Cond.methodLink RX2 3 objectInit ∈ kT := kT_1 33 rfl rfl
theorem kcl_X2_9 : Cond.classLink RX2 9 "[[I" ∈ kT := kT_1 34 rfl rfl
theorem kcl_X2_16 : Cond.classLink RX2 16 RX0 ∈ kT := kT_1 36 rfl rfl
theorem kis_X0 : Cond.instantiable RX0 5 ∈ kT := kT_1 38 rfl rfl
theorem kmn_X2_22 {U : State} (hN : kN U) : va_Nw (Cond.methodLinkNest RX2 22 yX0_init "ClockPool") U := kN_1 hN 39 rfl rfl
theorem kim_X0_init : Cond.instanceMethod yX0_init ∈ kT := kT_1 40 rfl rfl
theorem kcd_X0_init : Cond.code yX0_init cX0_init 1 none ∈ kT := kT_1 41 rfl rfl
theorem km_X0_3 : Cond.methodLink RX0 3 objectInit ∈ kT := kT_1 42 rfl rfl
theorem kf_X0_9 : Cond.fieldLink RX0 9 "ClockPool$Frame" "row" "[I" ∈ kT := kT_1 43 rfl rfl
theorem kfn_X3_65 {U : State} (hN : kN U) : va_Nw (Cond.fieldLinkNest RX3 65 "ClockPool$Frame" "row" "[I" "ClockPool") U := kN_1 hN 44 rfl rfl
theorem kfn_X2_59 {U : State} (hN : kN U) : va_Nw (Cond.fieldLinkNest RX2 59 "ClockPool$Frame" "row" "[I" "ClockPool") U := kN_1 hN 45 rfl rfl
theorem kf_X0_15 : Cond.fieldLink RX0 15 "ClockPool$Frame" "page" "I" ∈ kT := kT_1 46 rfl rfl
theorem kfn_X2_23 {U : State} (hN : kN U) : va_Nw (Cond.fieldLinkNest RX2 23 "ClockPool$Frame" "page" "I" "ClockPool") U := kN_1 hN 47 rfl rfl
theorem kfn_X3_155 {U : State} (hN : kN U) : va_Nw (Cond.fieldLinkNest RX3 155 "ClockPool$Frame" "page" "I" "ClockPool") U := kN_1 hN 48 rfl rfl
theorem kfn_X3_56 {U : State} (hN : kN U) : va_Nw (Cond.fieldLinkNest RX3 56 "ClockPool$Frame" "pins" "I" "ClockPool") U := kN_1 hN 49 rfl rfl
theorem kf_X0_23 : Cond.fieldLink RX0 23 "ClockPool$Frame" "pins" "I" ∈ kT := kT_1 50 rfl rfl
theorem kf_X0_19 : Cond.fieldLink RX0 19 "ClockPool$Frame" "dirty" "Z" ∈ kT := kT_1 51 rfl rfl
theorem kfn_X2_52 {U : State} (hN : kN U) : va_Nw (Cond.fieldLinkNest RX2 52 "ClockPool$Frame" "dirty" "Z" "ClockPool") U := kN_1 hN 52 rfl rfl
theorem kfn_X3_119 {U : State} (hN : kN U) : va_Nw (Cond.fieldLinkNest RX3 119 "ClockPool$Frame" "dirty" "Z" "ClockPool") U := kN_1 hN 53 rfl rfl
theorem kfn_X2_38 {U : State} (hN : kN U) : va_Nw (Cond.fieldLinkNest RX2 38 "ClockPool$Frame" "marked" "Z" "ClockPool") U := kN_1 hN 54 rfl rfl
theorem kf_X0_32 : Cond.fieldLink RX0 32 "ClockPool$Frame" "marked" "Z" ∈ kT := kT_1 55 rfl rfl
theorem kfn_X3_158 {U : State} (hN : kN U) : va_Nw (Cond.fieldLinkNest RX3 158 "ClockPool$Frame" "marked" "Z" "ClockPool") U := kN_1 hN 56 rfl rfl
theorem kac_int : Cond.arrayClass .int ∈ kT := kT_1 68 rfl rfl
theorem kf_X2_11 : Cond.fieldLink RX2 11 "ClockPool$Pool" "disk" "[[I" ∈ kT := kT_1 69 rfl rfl
theorem kfn_X3_151 {U : State} (hN : kN U) : va_Nw (Cond.fieldLinkNest RX3 151 "ClockPool$Pool" "disk" "[[I" "ClockPool") U := kN_1 hN 70 rfl rfl
theorem kf_X2_18 : Cond.fieldLink RX2 18 "ClockPool$Pool" "frames" "[LClockPool$Frame;" ∈ kT := kT_1 71 rfl rfl
theorem kfn_X3_52 {U : State} (hN : kN U) : va_Nw (Cond.fieldLinkNest RX3 52 "ClockPool$Pool" "frames" "[LClockPool$Frame;" "ClockPool") U := kN_1 hN 72 rfl rfl
theorem kf_X2_45 : Cond.fieldLink RX2 45 "ClockPool$Pool" "hand" "I" ∈ kT := kT_1 73 rfl rfl
theorem kfn_X3_161 {U : State} (hN : kN U) : va_Nw (Cond.fieldLinkNest RX3 161 "ClockPool$Pool" "hand" "I" "ClockPool") U := kN_1 hN 74 rfl rfl
theorem kf_X2_72 : Cond.fieldLink RX2 72 "ClockPool$Pool" "written" "I" ∈ kT := kT_1 75 rfl rfl
theorem kfn_X3_164 {U : State} (hN : kN U) : va_Nw (Cond.fieldLinkNest RX3 164 "ClockPool$Pool" "written" "I" "ClockPool") U := kN_1 hN 76 rfl rfl
theorem kf_X2_69 : Cond.fieldLink RX2 69 "ClockPool$Pool" "come" "I" ∈ kT := kT_1 77 rfl rfl
theorem kfn_X3_167 {U : State} (hN : kN U) : va_Nw (Cond.fieldLinkNest RX3 167 "ClockPool$Pool" "come" "I" "ClockPool") U := kN_1 hN 78 rfl rfl
theorem kcl_X3_27 : Cond.classLink RX3 27 RX1 ∈ kT := kT_1 90 rfl rfl
theorem kis_X1 : Cond.instantiable RX1 7 ∈ kT := kT_1 91 rfl rfl
theorem kmn_X3_29 {U : State} (hN : kN U) : va_Nw (Cond.methodLinkNest RX3 29 yX1_init "ClockPool") U := kN_1 hN 92 rfl rfl
theorem kim_X1_init : Cond.instanceMethod yX1_init ∈ kT := kT_1 93 rfl rfl
theorem kcd_X1_init : Cond.code yX1_init cX1_init 1 none ∈ kT := kT_1 94 rfl rfl
theorem km_X1_3 : Cond.methodLink RX1 3 objectInit ∈ kT := kT_1 95 rfl rfl
theorem kf_X1_9 : Cond.fieldLink RX1 9 "ClockPool$Log" "cells" "[I" ∈ kT := kT_1 96 rfl rfl
theorem kf_X1_15 : Cond.fieldLink RX1 15 "ClockPool$Log" "undone" "[Z" ∈ kT := kT_1 97 rfl rfl
theorem kf_X1_19 : Cond.fieldLink RX1 19 "ClockPool$Log" "lastUpdate" "[I" ∈ kT := kT_1 98 rfl rfl
theorem kf_X1_22 : Cond.fieldLink RX1 22 "ClockPool$Log" "lastOver" "[I" ∈ kT := kT_1 99 rfl rfl
theorem kf_X1_25 : Cond.fieldLink RX1 25 "ClockPool$Log" "openUpdates" "[I" ∈ kT := kT_1 100 rfl rfl
theorem kf_X1_32 : Cond.fieldLink RX1 32 "ClockPool$Log" "size" "I" ∈ kT := kT_1 101 rfl rfl
theorem kfn_X3_100 {U : State} (hN : kN U) : va_Nw (Cond.fieldLinkNest RX3 100 "ClockPool$Log" "size" "I" "ClockPool") U := kN_1 hN 102 rfl rfl
theorem kfn_X3_45 {U : State} (hN : kN U) : va_Nw (Cond.fieldLinkNest RX3 45 "ClockPool$Log" "flushed" "I" "ClockPool") U := kN_1 hN 103 rfl rfl
theorem kf_X1_44 : Cond.fieldLink RX1 44 "ClockPool$Log" "flushed" "I" ∈ kT := kT_1 104 rfl rfl
theorem kac_boolean : Cond.arrayClass .boolean ∈ kT := kT_1 120 rfl rfl
theorem kf_X3_23 : Cond.fieldLink RX3 23 "ClockPool" "pool" "LClockPool$Pool;" ∈ kT := kT_1 121 rfl rfl
theorem kf_X3_30 : Cond.fieldLink RX3 30 "ClockPool" "records" "LClockPool$Log;" ∈ kT := kT_1 122 rfl rfl
theorem kf_X3_34 : Cond.fieldLink RX3 34 "ClockPool" "active" "[Z" ∈ kT := kT_1 123 rfl rfl
theorem kf_X3_38 : Cond.fieldLink RX3 38 "ClockPool" "abortBegun" "[Z" ∈ kT := kT_1 124 rfl rfl
theorem kf_X3_148 : Cond.fieldLink RX3 148 "ClockPool" "crashes" "I" ∈ kT := kT_1 125 rfl rfl
theorem kf_X3_142 : Cond.fieldLink RX3 142 "ClockPool" "undoneByCrash" "I" ∈ kT := kT_1 126 rfl rfl
theorem km_L_80 : Cond.methodLink RL 80 yX3_begin ∈ kT := kT_1 140 rfl rfl
theorem kim_X3_begin : Cond.instanceMethod yX3_begin ∈ kT := kT_1 141 rfl rfl
theorem ksl_X3_begin : Cond.selects RX3 yX3_begin yX3_begin ∈ kT := kT_1 142 rfl rfl
theorem kcd_X3_begin : Cond.code yX3_begin cX3_begin 2 (some .int) ∈ kT := kT_1 143 rfl rfl
theorem km_X3_69 : Cond.methodLink RX3 69 yX3_leastInactive ∈ kT := kT_1 144 rfl rfl
theorem kim_X3_leastInactive : Cond.instanceMethod yX3_leastInactive ∈ kT := kT_1 146 rfl rfl
theorem kcd_X3_leastInactive : Cond.code yX3_leastInactive cX3_leastInactive 2 (some .int) ∈ kT := kT_1 147 rfl rfl
theorem km_X3_73 : Cond.methodLink RX3 73 yX3_activeOnes ∈ kT := kT_1 148 rfl rfl
theorem kim_X3_activeOnes : Cond.instanceMethod yX3_activeOnes ∈ kT := kT_1 150 rfl rfl
theorem kcd_X3_activeOnes : Cond.code yX3_activeOnes cX3_activeOnes 3 (some .int) ∈ kT := kT_1 151 rfl rfl
theorem kmn_X3_76 {U : State} (hN : kN U) : va_Nw (Cond.methodLinkNest RX3 76 yX1_hasRoomFor "ClockPool") U := kN_1 hN 152 rfl rfl
theorem kim_X1_hasRoomFor : Cond.instanceMethod yX1_hasRoomFor ∈ kT := kT_1 154 rfl rfl
theorem kcd_X1_hasRoomFor : Cond.code yX1_hasRoomFor cX1_hasRoomFor 4 (some .boolean) ∈ kT := kT_1 155 rfl rfl
theorem km_L_100 : Cond.methodLink RL 100 yX3_crash ∈ kT := kT_1 156 rfl rfl
theorem kim_X3_crash : Cond.instanceMethod yX3_crash ∈ kT := kT_1 157 rfl rfl
theorem ksl_X3_crash : Cond.selects RX3 yX3_crash yX3_crash ∈ kT := kT_1 158 rfl rfl
theorem kcd_X3_crash : Cond.code yX3_crash cX3_crash 2 (some .int) ∈ kT := kT_1 159 rfl rfl
theorem kmn_X3_127 {U : State} (hN : kN U) : va_Nw (Cond.methodLinkNest RX3 127 yX1_dropUnflushed "ClockPool") U := kN_1 hN 160 rfl rfl
theorem kim_X1_dropUnflushed : Cond.instanceMethod yX1_dropUnflushed ∈ kT := kT_1 162 rfl rfl
theorem kcd_X1_dropUnflushed : Cond.code yX1_dropUnflushed cX1_dropUnflushed 3 (some .int) ∈ kT := kT_1 163 rfl rfl
theorem km_X1_55 : Cond.methodLink RX1 55 yJ7_fill_53178 ∈ kT := kT_1 164 rfl rfl
theorem kst_J7_fill_53178 : Cond.static yJ7_fill_53178 ∈ kT := kT_1 165 rfl rfl
theorem kcd_J7_fill_53178 : Cond.code yJ7_fill_53178 cJ7_fill_53178 4 none ∈ kT := kT_1 166 rfl rfl
theorem km_X1_40 : Cond.methodLink RX1 40 yX1_follow ∈ kT := kT_1 167 rfl rfl
theorem kim_X1_follow : Cond.instanceMethod yX1_follow ∈ kT := kT_1 169 rfl rfl
theorem kcd_X1_follow : Cond.code yX1_follow cX1_follow 4 none ∈ kT := kT_1 170 rfl rfl
theorem km_X1_28 : Cond.methodLink RX1 28 yX1_value ∈ kT := kT_1 171 rfl rfl
theorem kim_X1_value : Cond.instanceMethod yX1_value ∈ kT := kT_1 173 rfl rfl
theorem kcd_X1_value : Cond.code yX1_value cX1_value 3 (some .int) ∈ kT := kT_1 174 rfl rfl
theorem kmn_X3_130 {U : State} (hN : kN U) : va_Nw (Cond.methodLinkNest RX3 130 yX2_clear "ClockPool") U := kN_1 hN 175 rfl rfl
theorem kim_X2_clear : Cond.instanceMethod yX2_clear ∈ kT := kT_1 177 rfl rfl
theorem kcd_X2_clear : Cond.code yX2_clear cX2_clear 2 none ∈ kT := kT_1 178 rfl rfl
theorem kmn_X2_75 {U : State} (hN : kN U) : va_Nw (Cond.methodLinkNest RX2 75 yX0_makeEmpty "ClockPool") U := kN_1 hN 179 rfl rfl
theorem kim_X0_makeEmpty : Cond.instanceMethod yX0_makeEmpty ∈ kT := kT_1 181 rfl rfl
theorem kcd_X0_makeEmpty : Cond.code yX0_makeEmpty cX0_makeEmpty 1 none ∈ kT := kT_1 182 rfl rfl
theorem km_X0_26 : Cond.methodLink RX0 26 yJ7_fill_53178 ∈ kT := kT_1 183 rfl rfl
theorem km_X3_133 : Cond.methodLink RX3 133 yX3_forgetActiveOnes ∈ kT := kT_1 184 rfl rfl
theorem kim_X3_forgetActiveOnes : Cond.instanceMethod yX3_forgetActiveOnes ∈ kT := kT_1 186 rfl rfl
theorem kcd_X3_forgetActiveOnes : Cond.code yX3_forgetActiveOnes cX3_forgetActiveOnes 2 none ∈ kT := kT_1 187 rfl rfl
theorem km_X3_136 : Cond.methodLink RX3 136 yX3_redoOnDisk ∈ kT := kT_1 188 rfl rfl
theorem kim_X3_redoOnDisk : Cond.instanceMethod yX3_redoOnDisk ∈ kT := kT_1 190 rfl rfl
theorem kcd_X3_redoOnDisk : Cond.code yX3_redoOnDisk cX3_redoOnDisk 2 none ∈ kT := kT_1 191 rfl rfl
theorem kmn_X3_176 {U : State} (hN : kN U) : va_Nw (Cond.methodLinkNest RX3 176 yX1_changesPage "ClockPool") U := kN_1 hN 192 rfl rfl
theorem kim_X1_changesPage : Cond.instanceMethod yX1_changesPage ∈ kT := kT_1 194 rfl rfl
theorem kcd_X1_changesPage : Cond.code yX1_changesPage cX1_changesPage 3 (some .boolean) ∈ kT := kT_1 195 rfl rfl
theorem kmn_X3_106 {U : State} (hN : kN U) : va_Nw (Cond.methodLinkNest RX3 106 yX1_value "ClockPool") U := kN_1 hN 196 rfl rfl
theorem km_X3_179 : Cond.methodLink RX3 179 yX3_putOnDisk ∈ kT := kT_1 197 rfl rfl
theorem kim_X3_putOnDisk : Cond.instanceMethod yX3_putOnDisk ∈ kT := kT_1 199 rfl rfl
theorem kcd_X3_putOnDisk : Cond.code yX3_putOnDisk cX3_putOnDisk 3 none ∈ kT := kT_1 200 rfl rfl
theorem km_X3_139 : Cond.methodLink RX3 139 yX3_undoOnDisk ∈ kT := kT_1 201 rfl rfl
theorem kim_X3_undoOnDisk : Cond.instanceMethod yX3_undoOnDisk ∈ kT := kT_1 203 rfl rfl
theorem kcd_X3_undoOnDisk : Cond.code yX3_undoOnDisk cX3_undoOnDisk 4 (some .int) ∈ kT := kT_1 204 rfl rfl
theorem kmn_X3_103 {U : State} (hN : kN U) : va_Nw (Cond.methodLinkNest RX3 103 yX1_isOpen "ClockPool") U := kN_1 hN 205 rfl rfl
theorem kim_X1_isOpen : Cond.instanceMethod yX1_isOpen ∈ kT := kT_1 207 rfl rfl
theorem kcd_X1_isOpen : Cond.code yX1_isOpen cX1_isOpen 2 (some .boolean) ∈ kT := kT_1 208 rfl rfl
theorem kmn_X3_173 {U : State} (hN : kN U) : va_Nw (Cond.methodLinkNest RX3 173 yX1_appendUndo "ClockPool") U := kN_1 hN 209 rfl rfl
theorem kim_X1_appendUndo : Cond.instanceMethod yX1_appendUndo ∈ kT := kT_1 211 rfl rfl
theorem kcd_X1_appendUndo : Cond.code yX1_appendUndo cX1_appendUndo 3 (some .int) ∈ kT := kT_1 212 rfl rfl
theorem km_X1_36 : Cond.methodLink RX1 36 yX1_append ∈ kT := kT_1 213 rfl rfl
theorem kim_X1_append : Cond.instanceMethod yX1_append ∈ kT := kT_1 215 rfl rfl
theorem kcd_X1_append : Cond.code yX1_append cX1_append 9 (some .int) ∈ kT := kT_1 216 rfl rfl
theorem km_X3_145 : Cond.methodLink RX3 145 yX3_endUnended ∈ kT := kT_1 217 rfl rfl
theorem kim_X3_endUnended : Cond.instanceMethod yX3_endUnended ∈ kT := kT_1 219 rfl rfl
theorem kcd_X3_endUnended : Cond.code yX3_endUnended cX3_endUnended 2 none ∈ kT := kT_1 220 rfl rfl
theorem kmn_X3_182 {U : State} (hN : kN U) : va_Nw (Cond.methodLinkNest RX3 182 yX1_isUnended "ClockPool") U := kN_1 hN 221 rfl rfl
theorem kim_X1_isUnended : Cond.instanceMethod yX1_isUnended ∈ kT := kT_1 223 rfl rfl
theorem kcd_X1_isUnended : Cond.code yX1_isUnended cX1_isUnended 2 (some .boolean) ∈ kT := kT_1 224 rfl rfl
theorem kmn_X3_91 {U : State} (hN : kN U) : va_Nw (Cond.methodLinkNest RX3 91 yX1_appendLast "ClockPool") U := kN_1 hN 225 rfl rfl
theorem kim_X1_appendLast : Cond.instanceMethod yX1_appendLast ∈ kT := kT_1 227 rfl rfl
theorem kcd_X1_appendLast : Cond.code yX1_appendLast cX1_appendLast 3 (some .int) ∈ kT := kT_1 228 rfl rfl
theorem kmn_X3_94 {U : State} (hN : kN U) : va_Nw (Cond.methodLinkNest RX3 94 yX1_flushTo "ClockPool") U := kN_1 hN 229 rfl rfl
theorem kim_X1_flushTo : Cond.instanceMethod yX1_flushTo ∈ kT := kT_1 231 rfl rfl
theorem kcd_X1_flushTo : Cond.code yX1_flushTo cX1_flushTo 2 none ∈ kT := kT_1 232 rfl rfl
theorem km_X1_47 : Cond.methodLink RX1 47 Lib.Math.min.name ∈ kT := kT_1 233 rfl rfl
theorem km_X1_52 : Cond.methodLink RX1 52 Lib.Math.max.name ∈ kT := kT_1 234 rfl rfl
theorem km_L_53 : Cond.methodLink RL 53 yL_cell ∈ kT := kT_1 235 rfl rfl
theorem kst_L_cell : Cond.static yL_cell ∈ kT := kT_1 236 rfl rfl
theorem kcd_L_cell : Cond.code yL_cell cL_cell 2 (some .int) ∈ kT := kT_1 237 rfl rfl
theorem km_L_65 : Cond.methodLink RL 65 yL_fetch ∈ kT := kT_1 238 rfl rfl
theorem kst_L_fetch : Cond.static yL_fetch ∈ kT := kT_1 239 rfl rfl
theorem kcd_L_fetch : Cond.codeWith yL_fetch cL_fetch 4 (some .int) [(0, 9, 12, 13)] ∈ kT := kT_2 0 rfl rfl
theorem kcl_L_13 : Cond.classLink RL 13 "java/lang/IllegalArgumentException" ∈ kT := kT_2 1 rfl rfl
theorem km_L_7 : Cond.methodLink RL 7 yX3_fetch ∈ kT := kT_2 2 rfl rfl
theorem kim_X3_fetch : Cond.instanceMethod yX3_fetch ∈ kT := kT_2 3 rfl rfl
theorem ksl_X3_fetch : Cond.selects RX3 yX3_fetch yX3_fetch ∈ kT := kT_2 4 rfl rfl
theorem kcd_X3_fetch : Cond.code yX3_fetch cX3_fetch 3 (some .int) ∈ kT := kT_2 5 rfl rfl
theorem km_X3_41 : Cond.methodLink RX3 41 yX3_checkBelow ∈ kT := kT_2 6 rfl rfl
theorem kst_X3_checkBelow : Cond.static yX3_checkBelow ∈ kT := kT_2 7 rfl rfl
theorem kcd_X3_checkBelow : Cond.code yX3_checkBelow cX3_checkBelow 2 none ∈ kT := kT_2 8 rfl rfl
theorem kcl_X3_112 : Cond.classLink RX3 112 "java/lang/IllegalArgumentException" ∈ kT := kT_2 9 rfl rfl
theorem kis_IllegalArgumentException : Cond.instantiable "java/lang/IllegalArgumentException" 6 ∈ kT := kT_2 10 rfl rfl
theorem kf_Throwable_198 : Cond.fieldLink "java/lang/Throwable" 198 "java/lang/Throwable" "backtrace" "Ljava/lang/Object;" ∈ kT := kT_2 30 rfl rfl
theorem km_Throwable_1 : Cond.methodLink "java/lang/Throwable" 1 objectInit ∈ kT := kT_2 34 rfl rfl
theorem kf_Throwable_13 : Cond.fieldLink "java/lang/Throwable" 13 "java/lang/Throwable" "UNASSIGNED_STACK" "[Ljava/lang/StackTraceElement;" ∈ kT := kT_2 35 rfl rfl
theorem kf_Throwable_20 : Cond.fieldLink "java/lang/Throwable" 20 "java/lang/Throwable" "SUPPRESSED_SENTINEL" "Ljava/util/List;" ∈ kT := kT_2 37 rfl rfl
theorem kis_Throwable : Cond.instantiable "java/lang/Throwable" 6 ∈ kT := kT_2 47 rfl rfl
theorem kf_Throwable_7 : Cond.fieldLink "java/lang/Throwable" 7 "java/lang/Throwable" "cause" "Ljava/lang/Throwable;" ∈ kT := kT_2 60 rfl rfl
theorem kf_Throwable_17 : Cond.fieldLink "java/lang/Throwable" 17 "java/lang/Throwable" "stackTrace" "[Ljava/lang/StackTraceElement;" ∈ kT := kT_2 61 rfl rfl
theorem kf_Throwable_24 : Cond.fieldLink "java/lang/Throwable" 24 "java/lang/Throwable" "suppressedExceptions" "Ljava/util/List;" ∈ kT := kT_2 62 rfl rfl
theorem kmn_X3_49 {U : State} (hN : kN U) : va_Nw (Cond.methodLinkNest RX3 49 yX2_bring "ClockPool") U := kN_2 hN 71 rfl rfl
theorem kim_X2_bring : Cond.instanceMethod yX2_bring ∈ kT := kT_2 73 rfl rfl
theorem kcd_X2_bring : Cond.code yX2_bring cX2_bring 4 (some .int) ∈ kT := kT_2 74 rfl rfl
theorem km_X2_27 : Cond.methodLink RX2 27 yX2_find ∈ kT := kT_2 75 rfl rfl
theorem kim_X2_find : Cond.instanceMethod yX2_find ∈ kT := kT_2 77 rfl rfl
theorem kcd_X2_find : Cond.code yX2_find cX2_find 3 (some .int) ∈ kT := kT_2 78 rfl rfl
theorem km_X2_31 : Cond.methodLink RX2 31 yX2_roomFor ∈ kT := kT_2 79 rfl rfl
theorem kim_X2_roomFor : Cond.instanceMethod yX2_roomFor ∈ kT := kT_2 81 rfl rfl
theorem kcd_X2_roomFor : Cond.code yX2_roomFor cX2_roomFor 3 (some .int) ∈ kT := kT_2 82 rfl rfl
theorem km_X2_42 : Cond.methodLink RX2 42 yX2_turnHand ∈ kT := kT_2 83 rfl rfl
theorem kim_X2_turnHand : Cond.instanceMethod yX2_turnHand ∈ kT := kT_2 85 rfl rfl
theorem kcd_X2_turnHand : Cond.code yX2_turnHand cX2_turnHand 4 (some .int) ∈ kT := kT_2 86 rfl rfl
theorem kmn_X2_48 {U : State} (hN : kN U) : va_Nw (Cond.methodLinkNest RX2 48 yX0_mayBeTaken "ClockPool") U := kN_2 hN 87 rfl rfl
theorem kim_X0_mayBeTaken : Cond.instanceMethod yX0_mayBeTaken ∈ kT := kT_2 89 rfl rfl
theorem kcd_X0_mayBeTaken : Cond.code yX0_mayBeTaken cX0_mayBeTaken 2 (some .boolean) ∈ kT := kT_2 90 rfl rfl
theorem km_X2_34 : Cond.methodLink RX2 34 yX2_load ∈ kT := kT_2 91 rfl rfl
theorem kim_X2_load : Cond.instanceMethod yX2_load ∈ kT := kT_2 93 rfl rfl
theorem kcd_X2_load : Cond.code yX2_load cX2_load 3 none ∈ kT := kT_2 94 rfl rfl
theorem km_X2_55 : Cond.methodLink RX2 55 yX2_writeBack ∈ kT := kT_2 95 rfl rfl
theorem kim_X2_writeBack : Cond.instanceMethod yX2_writeBack ∈ kT := kT_2 97 rfl rfl
theorem kcd_X2_writeBack : Cond.code yX2_writeBack cX2_writeBack 2 none ∈ kT := kT_2 98 rfl rfl
theorem km_X2_63 : Cond.methodLink RX2 63 arraycopyName ∈ kT := kT_2 99 rfl rfl
theorem kst_arraycopyName : Cond.static arraycopyName ∈ kT := kT_2 100 rfl rfl
theorem knt_arraycopyName : Cond.native arraycopyName ∈ kT := kT_2 101 rfl rfl
theorem km_L_73 : Cond.methodLink RL 73 yL_release ∈ kT := kT_2 102 rfl rfl
theorem kst_L_release : Cond.static yL_release ∈ kT := kT_2 103 rfl rfl
theorem kcd_L_release : Cond.codeWith yL_release cL_release 4 (some .int) [(0, 9, 12, 13), (0, 9, 15, 18)] ∈ kT := kT_2 104 rfl rfl
theorem kcl_L_18 : Cond.classLink RL 18 "java/lang/IllegalStateException" ∈ kT := kT_2 105 rfl rfl
theorem km_L_15 : Cond.methodLink RL 15 yX3_release ∈ kT := kT_2 106 rfl rfl
theorem kim_X3_release : Cond.instanceMethod yX3_release ∈ kT := kT_2 107 rfl rfl
theorem ksl_X3_release : Cond.selects RX3 yX3_release yX3_release ∈ kT := kT_2 108 rfl rfl
theorem kcd_X3_release : Cond.code yX3_release cX3_release 3 (some .int) ∈ kT := kT_2 109 rfl rfl
theorem km_X3_61 : Cond.methodLink RX3 61 yX3_pinnedFrame ∈ kT := kT_2 110 rfl rfl
theorem kim_X3_pinnedFrame : Cond.instanceMethod yX3_pinnedFrame ∈ kT := kT_2 112 rfl rfl
theorem kcd_X3_pinnedFrame : Cond.code yX3_pinnedFrame cX3_pinnedFrame 3 (some (.object "ClockPool$Frame")) ∈ kT := kT_2 113 rfl rfl
theorem kmn_X3_115 {U : State} (hN : kN U) : va_Nw (Cond.methodLinkNest RX3 115 yX2_find "ClockPool") U := kN_2 hN 114 rfl rfl
theorem kcl_X3_170 : Cond.classLink RX3 170 "java/lang/IllegalStateException" ∈ kT := kT_2 115 rfl rfl
theorem kis_IllegalStateException : Cond.instantiable "java/lang/IllegalStateException" 6 ∈ kT := kT_2 116 rfl rfl
theorem km_L_76 : Cond.methodLink RL 76 yL_get ∈ kT := kT_2 130 rfl rfl
theorem kst_L_get : Cond.static yL_get ∈ kT := kT_2 131 rfl rfl
theorem kcd_L_get : Cond.codeWith yL_get cL_get 5 (some .int) [(0, 10, 13, 13), (0, 10, 17, 18)] ∈ kT := kT_2 132 rfl rfl
theorem km_L_20 : Cond.methodLink RL 20 yX3_get ∈ kT := kT_2 133 rfl rfl
theorem kim_X3_get : Cond.instanceMethod yX3_get ∈ kT := kT_2 134 rfl rfl
theorem ksl_X3_get : Cond.selects RX3 yX3_get yX3_get ∈ kT := kT_2 135 rfl rfl
theorem kcd_X3_get : Cond.code yX3_get cX3_get 3 (some .int) ∈ kT := kT_2 136 rfl rfl
theorem km_L_84 : Cond.methodLink RL 84 yL_set ∈ kT := kT_2 137 rfl rfl
theorem kst_L_set : Cond.static yL_set ∈ kT := kT_2 138 rfl rfl
theorem kcd_L_set : Cond.codeWith yL_set cL_set 7 (some .int) [(0, 14, 17, 13), (0, 14, 21, 18)] ∈ kT := kT_2 139 rfl rfl
theorem km_L_24 : Cond.methodLink RL 24 yX3_set ∈ kT := kT_2 140 rfl rfl
theorem kim_X3_set : Cond.instanceMethod yX3_set ∈ kT := kT_2 141 rfl rfl
theorem ksl_X3_set : Cond.selects RX3 yX3_set yX3_set ∈ kT := kT_2 142 rfl rfl
theorem kcd_X3_set : Cond.code yX3_set cX3_set 7 (some .int) ∈ kT := kT_2 143 rfl rfl
theorem km_X3_80 : Cond.methodLink RX3 80 yX3_checkGoesOn ∈ kT := kT_2 144 rfl rfl
theorem kim_X3_checkGoesOn : Cond.instanceMethod yX3_checkGoesOn ∈ kT := kT_2 146 rfl rfl
theorem kcd_X3_checkGoesOn : Cond.code yX3_checkGoesOn cX3_checkGoesOn 2 none ∈ kT := kT_2 147 rfl rfl
theorem km_X3_97 : Cond.methodLink RX3 97 yX3_checkActive ∈ kT := kT_2 148 rfl rfl
theorem kim_X3_checkActive : Cond.instanceMethod yX3_checkActive ∈ kT := kT_2 150 rfl rfl
theorem kcd_X3_checkActive : Cond.code yX3_checkActive cX3_checkActive 2 none ∈ kT := kT_2 151 rfl rfl
theorem kmn_X3_83 {U : State} (hN : kN U) : va_Nw (Cond.methodLinkNest RX3 83 yX1_append "ClockPool") U := kN_2 hN 152 rfl rfl
theorem kmn_X3_87 {U : State} (hN : kN U) : va_Nw (Cond.methodLinkNest RX3 87 yX0_change "ClockPool") U := kN_2 hN 153 rfl rfl
theorem kim_X0_change : Cond.instanceMethod yX0_change ∈ kT := kT_2 155 rfl rfl
theorem kcd_X0_change : Cond.code yX0_change cX0_change 4 none ∈ kT := kT_2 156 rfl rfl
theorem km_L_88 : Cond.methodLink RL 88 yL_commit ∈ kT := kT_2 157 rfl rfl
theorem kst_L_commit : Cond.static yL_commit ∈ kT := kT_2 158 rfl rfl
theorem kcd_L_commit : Cond.codeWith yL_commit cL_commit 4 (some .int) [(0, 9, 12, 13), (0, 9, 15, 18)] ∈ kT := kT_2 159 rfl rfl
theorem km_L_28 : Cond.methodLink RL 28 yX3_commit ∈ kT := kT_2 160 rfl rfl
theorem kim_X3_commit : Cond.instanceMethod yX3_commit ∈ kT := kT_2 161 rfl rfl
theorem ksl_X3_commit : Cond.selects RX3 yX3_commit yX3_commit ∈ kT := kT_2 162 rfl rfl
theorem kcd_X3_commit : Cond.code yX3_commit cX3_commit 3 (some .int) ∈ kT := kT_2 163 rfl rfl
theorem km_L_91 : Cond.methodLink RL 91 yL_abort ∈ kT := kT_2 164 rfl rfl
theorem kst_L_abort : Cond.static yL_abort ∈ kT := kT_2 165 rfl rfl
theorem kcd_L_abort : Cond.codeWith yL_abort cL_abort 4 (some .int) [(0, 9, 12, 13), (0, 9, 15, 18)] ∈ kT := kT_2 166 rfl rfl
theorem km_L_31 : Cond.methodLink RL 31 yX3_abort ∈ kT := kT_2 167 rfl rfl
theorem kim_X3_abort : Cond.instanceMethod yX3_abort ∈ kT := kT_2 168 rfl rfl
theorem ksl_X3_abort : Cond.selects RX3 yX3_abort yX3_abort ∈ kT := kT_2 169 rfl rfl
theorem kcd_X3_abort : Cond.code yX3_abort cX3_abort 4 (some .int) ∈ kT := kT_2 170 rfl rfl
theorem km_X3_109 : Cond.methodLink RX3 109 yX3_undoInPool ∈ kT := kT_2 171 rfl rfl
theorem kim_X3_undoInPool : Cond.instanceMethod yX3_undoInPool ∈ kT := kT_2 173 rfl rfl
theorem kcd_X3_undoInPool : Cond.code yX3_undoInPool cX3_undoInPool 6 (some .boolean) ∈ kT := kT_2 174 rfl rfl
theorem km_L_94 : Cond.methodLink RL 94 yL_flush ∈ kT := kT_2 175 rfl rfl
theorem kst_L_flush : Cond.static yL_flush ∈ kT := kT_2 176 rfl rfl
theorem kcd_L_flush : Cond.codeWith yL_flush cL_flush 4 (some .int) [(0, 9, 12, 13)] ∈ kT := kT_2 177 rfl rfl
theorem km_L_34 : Cond.methodLink RL 34 yX3_flush ∈ kT := kT_2 178 rfl rfl
theorem kim_X3_flush : Cond.instanceMethod yX3_flush ∈ kT := kT_2 179 rfl rfl
theorem ksl_X3_flush : Cond.selects RX3 yX3_flush yX3_flush ∈ kT := kT_2 180 rfl rfl
theorem kcd_X3_flush : Cond.code yX3_flush cX3_flush 2 (some .int) ∈ kT := kT_2 181 rfl rfl
theorem km_L_97 : Cond.methodLink RL 97 yL_clean ∈ kT := kT_2 182 rfl rfl
theorem kst_L_clean : Cond.static yL_clean ∈ kT := kT_2 183 rfl rfl
theorem kcd_L_clean : Cond.codeWith yL_clean cL_clean 4 (some .int) [(0, 16, 19, 13)] ∈ kT := kT_2 184 rfl rfl
theorem km_L_37 : Cond.methodLink RL 37 yX3_clean ∈ kT := kT_2 185 rfl rfl
theorem kim_X3_clean : Cond.instanceMethod yX3_clean ∈ kT := kT_2 186 rfl rfl
theorem ksl_X3_clean : Cond.selects RX3 yX3_clean yX3_clean ∈ kT := kT_2 187 rfl rfl
theorem kcd_X3_clean : Cond.code yX3_clean cX3_clean 4 (some .boolean) ∈ kT := kT_2 188 rfl rfl
theorem kmn_X3_123 {U : State} (hN : kN U) : va_Nw (Cond.methodLinkNest RX3 123 yX2_writeBack "ClockPool") U := kN_2 hN 189 rfl rfl
theorem km_L_104 : Cond.methodLink RL 104 yL_disk ∈ kT := kT_2 190 rfl rfl
theorem kst_L_disk : Cond.static yL_disk ∈ kT := kT_2 191 rfl rfl
theorem kcd_L_disk : Cond.codeWith yL_disk cL_disk 5 (some .int) [(0, 10, 13, 13)] ∈ kT := kT_2 192 rfl rfl
theorem km_L_41 : Cond.methodLink RL 41 yX3_disk ∈ kT := kT_2 193 rfl rfl
theorem kim_X3_disk : Cond.instanceMethod yX3_disk ∈ kT := kT_2 194 rfl rfl
theorem ksl_X3_disk : Cond.selects RX3 yX3_disk yX3_disk ∈ kT := kT_2 195 rfl rfl
theorem kcd_X3_disk : Cond.code yX3_disk cX3_disk 3 (some .int) ∈ kT := kT_2 196 rfl rfl
theorem km_L_107 : Cond.methodLink RL 107 yL_frame ∈ kT := kT_2 197 rfl rfl
theorem kst_L_frame : Cond.static yL_frame ∈ kT := kT_2 198 rfl rfl
theorem kcd_L_frame : Cond.codeWith yL_frame cL_frame 5 (some .int) [(0, 10, 13, 13)] ∈ kT := kT_2 199 rfl rfl
theorem km_L_44 : Cond.methodLink RL 44 yX3_frame ∈ kT := kT_2 200 rfl rfl
theorem kim_X3_frame : Cond.instanceMethod yX3_frame ∈ kT := kT_2 201 rfl rfl
theorem ksl_X3_frame : Cond.selects RX3 yX3_frame yX3_frame ∈ kT := kT_2 202 rfl rfl
theorem kcd_X3_frame : Cond.code yX3_frame cX3_frame 4 (some .int) ∈ kT := kT_2 203 rfl rfl
theorem km_L_110 : Cond.methodLink RL 110 yL_log ∈ kT := kT_2 204 rfl rfl
theorem kst_L_log : Cond.static yL_log ∈ kT := kT_2 205 rfl rfl
theorem kcd_L_log : Cond.codeWith yL_log cL_log 5 (some .int) [(0, 10, 13, 13)] ∈ kT := kT_2 206 rfl rfl
theorem km_L_47 : Cond.methodLink RL 47 yX3_log ∈ kT := kT_2 207 rfl rfl
theorem kim_X3_log : Cond.instanceMethod yX3_log ∈ kT := kT_2 208 rfl rfl
theorem ksl_X3_log : Cond.selects RX3 yX3_log yX3_log ∈ kT := kT_2 209 rfl rfl
theorem kcd_X3_log : Cond.code yX3_log cX3_log 3 (some .int) ∈ kT := kT_2 210 rfl rfl
theorem km_L_113 : Cond.methodLink RL 113 yL_count ∈ kT := kT_2 211 rfl rfl
theorem kst_L_count : Cond.static yL_count ∈ kT := kT_2 212 rfl rfl
theorem kcd_L_count : Cond.codeWith yL_count cL_count 4 (some .int) [(0, 9, 12, 13)] ∈ kT := kT_2 213 rfl rfl
theorem km_L_50 : Cond.methodLink RL 50 yX3_count ∈ kT := kT_2 214 rfl rfl
theorem kim_X3_count : Cond.instanceMethod yX3_count ∈ kT := kT_2 215 rfl rfl
theorem ksl_X3_count : Cond.selects RX3 yX3_count yX3_count ∈ kT := kT_2 216 rfl rfl
theorem kcd_X3_count : Cond.code yX3_count cX3_count 2 (some .int) ∈ kT := kT_2 217 rfl rfl
theorem kcl_L_62 : Cond.classLink RL 62 RX4 ∈ kT := kT_2 218 rfl rfl
theorem kis_X4 : Cond.instantiable RX4 27 ∈ kT := kT_2 219 rfl rfl
theorem km_L_64 : Cond.methodLink RL 64 yX4_init ∈ kT := kT_2 220 rfl rfl
theorem kim_X4_init : Cond.instanceMethod yX4_init ∈ kT := kT_2 221 rfl rfl
theorem kcd_X4_init : Cond.code yX4_init cX4_init 3 none ∈ kT := kT_2 222 rfl rfl
theorem km_X4_1 : Cond.methodLink RX4 1 objectInit ∈ kT := kT_2 223 rfl rfl
theorem kf_X4_69 : Cond.fieldLink RX4 69 "ClockPoolModel" "refusal" "I" ∈ kT := kT_2 224 rfl rfl
theorem kf_X4_65 : Cond.fieldLink RX4 65 "ClockPoolModel" "frames" "I" ∈ kT := kT_2 225 rfl rfl
theorem kf_X4_7 : Cond.fieldLink RX4 7 "ClockPoolModel" "disk" "[I" ∈ kT := kT_2 226 rfl rfl
theorem kf_X4_13 : Cond.fieldLink RX4 13 "ClockPoolModel" "diskLsn" "[I" ∈ kT := kT_2 227 rfl rfl
theorem kf_X4_16 : Cond.fieldLink RX4 16 "ClockPoolModel" "held" "[I" ∈ kT := kT_2 228 rfl rfl
theorem kf_X4_19 : Cond.fieldLink RX4 19 "ClockPoolModel" "number" "[I" ∈ kT := kT_2 229 rfl rfl
theorem kf_X4_22 : Cond.fieldLink RX4 22 "ClockPoolModel" "frameLsn" "[I" ∈ kT := kT_2 230 rfl rfl
theorem kf_X4_25 : Cond.fieldLink RX4 25 "ClockPoolModel" "pins" "[I" ∈ kT := kT_2 231 rfl rfl
theorem kf_X4_28 : Cond.fieldLink RX4 28 "ClockPoolModel" "isDirty" "[Z" ∈ kT := kT_2 232 rfl rfl
theorem kf_X4_32 : Cond.fieldLink RX4 32 "ClockPoolModel" "isMarked" "[Z" ∈ kT := kT_2 233 rfl rfl
theorem kf_X4_82 : Cond.fieldLink RX4 82 "ClockPoolModel" "hand" "I" ∈ kT := kT_2 234 rfl rfl
theorem kf_X4_113 : Cond.fieldLink RX4 113 "ClockPoolModel" "records" "I" ∈ kT := kT_2 235 rfl rfl
theorem kf_X4_72 : Cond.fieldLink RX4 72 "ClockPoolModel" "flushed" "I" ∈ kT := kT_2 236 rfl rfl
theorem kf_X4_35 : Cond.fieldLink RX4 35 "ClockPoolModel" "kind" "[I" ∈ kT := kT_2 237 rfl rfl
theorem kf_X4_38 : Cond.fieldLink RX4 38 "ClockPoolModel" "of" "[I" ∈ kT := kT_2 238 rfl rfl
theorem kf_X4_41 : Cond.fieldLink RX4 41 "ClockPoolModel" "page" "[I" ∈ kT := kT_2 239 rfl rfl
theorem kf_X4_44 : Cond.fieldLink RX4 44 "ClockPoolModel" "which" "[I" ∈ kT := kT_3 0 rfl rfl
theorem kf_X4_47 : Cond.fieldLink RX4 47 "ClockPoolModel" "was" "[I" ∈ kT := kT_3 1 rfl rfl
theorem kf_X4_50 : Cond.fieldLink RX4 50 "ClockPoolModel" "becomes" "[I" ∈ kT := kT_3 2 rfl rfl
theorem kf_X4_53 : Cond.fieldLink RX4 53 "ClockPoolModel" "undoes" "[I" ∈ kT := kT_3 3 rfl rfl
theorem kf_X4_56 : Cond.fieldLink RX4 56 "ClockPoolModel" "isUndone" "[Z" ∈ kT := kT_3 4 rfl rfl
theorem kf_X4_59 : Cond.fieldLink RX4 59 "ClockPoolModel" "isActive" "[Z" ∈ kT := kT_3 5 rfl rfl
theorem kf_X4_62 : Cond.fieldLink RX4 62 "ClockPoolModel" "isLeaving" "[Z" ∈ kT := kT_3 6 rfl rfl
theorem kf_X4_75 : Cond.fieldLink RX4 75 "ClockPoolModel" "written" "I" ∈ kT := kT_3 7 rfl rfl
theorem kf_X4_97 : Cond.fieldLink RX4 97 "ClockPoolModel" "come" "I" ∈ kT := kT_3 8 rfl rfl
theorem kf_X4_147 : Cond.fieldLink RX4 147 "ClockPoolModel" "crashes" "I" ∈ kT := kT_3 9 rfl rfl
theorem kf_X4_138 : Cond.fieldLink RX4 138 "ClockPoolModel" "undone" "I" ∈ kT := kT_3 10 rfl rfl
theorem km_L_69 : Cond.methodLink RL 69 yX4_thrown ∈ kT := kT_3 66 rfl rfl
theorem kim_X4_thrown : Cond.instanceMethod yX4_thrown ∈ kT := kT_3 67 rfl rfl
theorem ksl_X4_thrown : Cond.selects RX4 yX4_thrown yX4_thrown ∈ kT := kT_3 68 rfl rfl
theorem kcd_X4_thrown : Cond.code yX4_thrown cX4_thrown 1 (some .int) ∈ kT := kT_3 69 rfl rfl
theorem km_L_68 : Cond.methodLink RL 68 yX4_fetch ∈ kT := kT_3 70 rfl rfl
theorem kim_X4_fetch : Cond.instanceMethod yX4_fetch ∈ kT := kT_3 71 rfl rfl
theorem ksl_X4_fetch : Cond.selects RX4 yX4_fetch yX4_fetch ∈ kT := kT_3 72 rfl rfl
theorem kcd_X4_fetch : Cond.code yX4_fetch cX4_fetch 3 (some .int) ∈ kT := kT_3 73 rfl rfl
theorem km_X4_100 : Cond.methodLink RX4 100 yX4_isIn ∈ kT := kT_3 74 rfl rfl
theorem kst_X4_isIn : Cond.static yX4_isIn ∈ kT := kT_3 75 rfl rfl
theorem kcd_X4_isIn : Cond.code yX4_isIn cX4_isIn 3 (some .boolean) ∈ kT := kT_3 76 rfl rfl
theorem km_X4_104 : Cond.methodLink RX4 104 yX4_refused ∈ kT := kT_3 77 rfl rfl
theorem kim_X4_refused : Cond.instanceMethod yX4_refused ∈ kT := kT_3 79 rfl rfl
theorem kcd_X4_refused : Cond.code yX4_refused cX4_refused 2 (some .boolean) ∈ kT := kT_3 80 rfl rfl
theorem km_X4_107 : Cond.methodLink RX4 107 yX4_bring ∈ kT := kT_3 81 rfl rfl
theorem kim_X4_bring : Cond.instanceMethod yX4_bring ∈ kT := kT_3 83 rfl rfl
theorem kcd_X4_bring : Cond.code yX4_bring cX4_bring 4 (some .int) ∈ kT := kT_3 84 rfl rfl
theorem km_X4_89 : Cond.methodLink RX4 89 yX4_frameOf ∈ kT := kT_3 85 rfl rfl
theorem kim_X4_frameOf : Cond.instanceMethod yX4_frameOf ∈ kT := kT_3 87 rfl rfl
theorem kcd_X4_frameOf : Cond.code yX4_frameOf cX4_frameOf 3 (some .int) ∈ kT := kT_3 88 rfl rfl
theorem km_X4_93 : Cond.methodLink RX4 93 yX4_room ∈ kT := kT_3 89 rfl rfl
theorem kim_X4_room : Cond.instanceMethod yX4_room ∈ kT := kT_3 91 rfl rfl
theorem kcd_X4_room : Cond.code yX4_room cX4_room 3 (some .int) ∈ kT := kT_3 92 rfl rfl
theorem km_X4_78 : Cond.methodLink RX4 78 yX4_mayGo ∈ kT := kT_3 93 rfl rfl
theorem kim_X4_mayGo : Cond.instanceMethod yX4_mayGo ∈ kT := kT_3 95 rfl rfl
theorem kcd_X4_mayGo : Cond.code yX4_mayGo cX4_mayGo 2 (some .boolean) ∈ kT := kT_3 96 rfl rfl
theorem km_X4_85 : Cond.methodLink RX4 85 yX4_write ∈ kT := kT_3 97 rfl rfl
theorem kim_X4_write : Cond.instanceMethod yX4_write ∈ kT := kT_3 99 rfl rfl
theorem kcd_X4_write : Cond.code yX4_write cX4_write 3 none ∈ kT := kT_3 100 rfl rfl
theorem km_L_75 : Cond.methodLink RL 75 yX4_release ∈ kT := kT_3 101 rfl rfl
theorem kim_X4_release : Cond.instanceMethod yX4_release ∈ kT := kT_3 102 rfl rfl
theorem ksl_X4_release : Cond.selects RX4 yX4_release yX4_release ∈ kT := kT_3 103 rfl rfl
theorem kcd_X4_release : Cond.code yX4_release cX4_release 3 (some .int) ∈ kT := kT_3 104 rfl rfl
theorem km_X4_110 : Cond.methodLink RX4 110 yX4_isPinned ∈ kT := kT_3 105 rfl rfl
theorem kim_X4_isPinned : Cond.instanceMethod yX4_isPinned ∈ kT := kT_3 107 rfl rfl
theorem kcd_X4_isPinned : Cond.code yX4_isPinned cX4_isPinned 3 (some .boolean) ∈ kT := kT_3 108 rfl rfl
theorem km_L_79 : Cond.methodLink RL 79 yX4_get ∈ kT := kT_3 109 rfl rfl
theorem kim_X4_get : Cond.instanceMethod yX4_get ∈ kT := kT_3 110 rfl rfl
theorem ksl_X4_get : Cond.selects RX4 yX4_get yX4_get ∈ kT := kT_3 111 rfl rfl
theorem kcd_X4_get : Cond.code yX4_get cX4_get 4 (some .int) ∈ kT := kT_3 112 rfl rfl
theorem km_L_83 : Cond.methodLink RL 83 yX4_begin ∈ kT := kT_3 113 rfl rfl
theorem kim_X4_begin : Cond.instanceMethod yX4_begin ∈ kT := kT_3 114 rfl rfl
theorem ksl_X4_begin : Cond.selects RX4 yX4_begin yX4_begin ∈ kT := kT_3 115 rfl rfl
theorem kcd_X4_begin : Cond.code yX4_begin cX4_begin 2 (some .int) ∈ kT := kT_3 116 rfl rfl
theorem km_X4_119 : Cond.methodLink RX4 119 yX4_needed ∈ kT := kT_3 117 rfl rfl
theorem kim_X4_needed : Cond.instanceMethod yX4_needed ∈ kT := kT_3 119 rfl rfl
theorem kcd_X4_needed : Cond.code yX4_needed cX4_needed 3 (some .int) ∈ kT := kT_3 120 rfl rfl
theorem km_X4_116 : Cond.methodLink RX4 116 yX4_undosOf ∈ kT := kT_3 121 rfl rfl
theorem kim_X4_undosOf : Cond.instanceMethod yX4_undosOf ∈ kT := kT_3 123 rfl rfl
theorem kcd_X4_undosOf : Cond.code yX4_undosOf cX4_undosOf 4 (some .int) ∈ kT := kT_3 124 rfl rfl
theorem km_L_87 : Cond.methodLink RL 87 yX4_set ∈ kT := kT_3 125 rfl rfl
theorem kim_X4_set : Cond.instanceMethod yX4_set ∈ kT := kT_3 126 rfl rfl
theorem ksl_X4_set : Cond.selects RX4 yX4_set yX4_set ∈ kT := kT_3 127 rfl rfl
theorem kcd_X4_set : Cond.code yX4_set cX4_set 8 (some .int) ∈ kT := kT_3 128 rfl rfl
theorem km_X4_122 : Cond.methodLink RX4 122 yX4_record ∈ kT := kT_3 129 rfl rfl
theorem kim_X4_record : Cond.instanceMethod yX4_record ∈ kT := kT_3 131 rfl rfl
theorem kcd_X4_record : Cond.code yX4_record cX4_record 3 (some .int) ∈ kT := kT_3 132 rfl rfl
theorem km_L_90 : Cond.methodLink RL 90 yX4_commit ∈ kT := kT_3 133 rfl rfl
theorem kim_X4_commit : Cond.instanceMethod yX4_commit ∈ kT := kT_3 134 rfl rfl
theorem ksl_X4_commit : Cond.selects RX4 yX4_commit yX4_commit ∈ kT := kT_3 135 rfl rfl
theorem kcd_X4_commit : Cond.code yX4_commit cX4_commit 2 (some .int) ∈ kT := kT_3 136 rfl rfl
theorem km_L_93 : Cond.methodLink RL 93 yX4_abort ∈ kT := kT_3 137 rfl rfl
theorem kim_X4_abort : Cond.instanceMethod yX4_abort ∈ kT := kT_3 138 rfl rfl
theorem ksl_X4_abort : Cond.selects RX4 yX4_abort yX4_abort ∈ kT := kT_3 139 rfl rfl
theorem kcd_X4_abort : Cond.code yX4_abort cX4_abort 6 (some .int) ∈ kT := kT_3 140 rfl rfl
theorem km_X4_126 : Cond.methodLink RX4 126 yX4_lastOf ∈ kT := kT_3 141 rfl rfl
theorem kim_X4_lastOf : Cond.instanceMethod yX4_lastOf ∈ kT := kT_3 143 rfl rfl
theorem kcd_X4_lastOf : Cond.code yX4_lastOf cX4_lastOf 3 (some .int) ∈ kT := kT_3 144 rfl rfl
theorem km_X4_129 : Cond.methodLink RX4 129 yX4_tellUndo ∈ kT := kT_3 145 rfl rfl
theorem kim_X4_tellUndo : Cond.instanceMethod yX4_tellUndo ∈ kT := kT_3 147 rfl rfl
theorem kcd_X4_tellUndo : Cond.code yX4_tellUndo cX4_tellUndo 4 (some .int) ∈ kT := kT_3 148 rfl rfl
theorem km_L_96 : Cond.methodLink RL 96 yX4_flush ∈ kT := kT_3 149 rfl rfl
theorem kim_X4_flush : Cond.instanceMethod yX4_flush ∈ kT := kT_3 150 rfl rfl
theorem ksl_X4_flush : Cond.selects RX4 yX4_flush yX4_flush ∈ kT := kT_3 151 rfl rfl
theorem kcd_X4_flush : Cond.code yX4_flush cX4_flush 3 (some .int) ∈ kT := kT_3 152 rfl rfl
theorem km_L_99 : Cond.methodLink RL 99 yX4_clean ∈ kT := kT_3 153 rfl rfl
theorem kim_X4_clean : Cond.instanceMethod yX4_clean ∈ kT := kT_3 154 rfl rfl
theorem ksl_X4_clean : Cond.selects RX4 yX4_clean yX4_clean ∈ kT := kT_3 155 rfl rfl
theorem kcd_X4_clean : Cond.code yX4_clean cX4_clean 3 (some .boolean) ∈ kT := kT_3 156 rfl rfl
theorem km_L_103 : Cond.methodLink RL 103 yX4_crash ∈ kT := kT_3 157 rfl rfl
theorem kim_X4_crash : Cond.instanceMethod yX4_crash ∈ kT := kT_3 158 rfl rfl
theorem ksl_X4_crash : Cond.selects RX4 yX4_crash yX4_crash ∈ kT := kT_3 159 rfl rfl
theorem kcd_X4_crash : Cond.code yX4_crash cX4_crash 5 (some .int) ∈ kT := kT_3 160 rfl rfl
theorem km_X4_132 : Cond.methodLink RX4 132 yX4_loseRecords ∈ kT := kT_3 161 rfl rfl
theorem kim_X4_loseRecords : Cond.instanceMethod yX4_loseRecords ∈ kT := kT_3 163 rfl rfl
theorem kcd_X4_loseRecords : Cond.code yX4_loseRecords cX4_loseRecords 2 none ∈ kT := kT_3 164 rfl rfl
theorem km_X4_135 : Cond.methodLink RX4 135 yX4_redo ∈ kT := kT_3 165 rfl rfl
theorem kim_X4_redo : Cond.instanceMethod yX4_redo ∈ kT := kT_3 167 rfl rfl
theorem kcd_X4_redo : Cond.code yX4_redo cX4_redo 2 none ∈ kT := kT_3 168 rfl rfl
theorem km_X4_141 : Cond.methodLink RX4 141 yX4_isOpen ∈ kT := kT_3 169 rfl rfl
theorem kim_X4_isOpen : Cond.instanceMethod yX4_isOpen ∈ kT := kT_3 171 rfl rfl
theorem kcd_X4_isOpen : Cond.code yX4_isOpen cX4_isOpen 4 (some .boolean) ∈ kT := kT_3 172 rfl rfl
theorem km_X4_144 : Cond.methodLink RX4 144 yX4_isLatest ∈ kT := kT_3 173 rfl rfl
theorem kim_X4_isLatest : Cond.instanceMethod yX4_isLatest ∈ kT := kT_3 175 rfl rfl
theorem kcd_X4_isLatest : Cond.code yX4_isLatest cX4_isLatest 4 (some .boolean) ∈ kT := kT_3 176 rfl rfl
theorem km_L_106 : Cond.methodLink RL 106 yX4_disk ∈ kT := kT_3 177 rfl rfl
theorem kim_X4_disk : Cond.instanceMethod yX4_disk ∈ kT := kT_3 178 rfl rfl
theorem ksl_X4_disk : Cond.selects RX4 yX4_disk yX4_disk ∈ kT := kT_3 179 rfl rfl
theorem kcd_X4_disk : Cond.code yX4_disk cX4_disk 3 (some .int) ∈ kT := kT_3 180 rfl rfl
theorem km_L_109 : Cond.methodLink RL 109 yX4_frame ∈ kT := kT_3 181 rfl rfl
theorem kim_X4_frame : Cond.instanceMethod yX4_frame ∈ kT := kT_3 182 rfl rfl
theorem ksl_X4_frame : Cond.selects RX4 yX4_frame yX4_frame ∈ kT := kT_3 183 rfl rfl
theorem kcd_X4_frame : Cond.code yX4_frame cX4_frame 4 (some .int) ∈ kT := kT_3 184 rfl rfl
theorem km_L_112 : Cond.methodLink RL 112 yX4_log ∈ kT := kT_3 185 rfl rfl
theorem kim_X4_log : Cond.instanceMethod yX4_log ∈ kT := kT_3 186 rfl rfl
theorem ksl_X4_log : Cond.selects RX4 yX4_log yX4_log ∈ kT := kT_3 187 rfl rfl
theorem kcd_X4_log : Cond.code yX4_log cX4_log 3 (some .int) ∈ kT := kT_3 188 rfl rfl
theorem km_L_115 : Cond.methodLink RL 115 yX4_count ∈ kT := kT_3 189 rfl rfl
theorem kim_X4_count : Cond.instanceMethod yX4_count ∈ kT := kT_3 190 rfl rfl
theorem ksl_X4_count : Cond.selects RX4 yX4_count yX4_count ∈ kT := kT_3 191 rfl rfl
theorem kcd_X4_count : Cond.code yX4_count cX4_count 4 (some .int) ∈ kT := kT_3 192 rfl rfl
theorem kac_long : Cond.arrayClass .long ∈ kT := kT_3 193 rfl rfl
theorem ksl_X3_leastInactive : Cond.selects RX3 yX3_leastInactive yX3_leastInactive ∈ kT := kT_s (q := (yX3_leastInactive, 6)) (List.mem_append_left _ (List.mem_of_getElem? (i := 0) rfl)) rfl
theorem ksl_X3_activeOnes : Cond.selects RX3 yX3_activeOnes yX3_activeOnes ∈ kT := kT_s (q := (yX3_activeOnes, 6)) (List.mem_append_left _ (List.mem_of_getElem? (i := 1) rfl)) rfl
theorem ksl_X1_hasRoomFor : Cond.selects RX1 yX1_hasRoomFor yX1_hasRoomFor ∈ kT := kT_s (q := (yX1_hasRoomFor, 7)) (List.mem_append_left _ (List.mem_of_getElem? (i := 2) rfl)) rfl
theorem ksl_X1_dropUnflushed : Cond.selects RX1 yX1_dropUnflushed yX1_dropUnflushed ∈ kT := kT_s (q := (yX1_dropUnflushed, 7)) (List.mem_append_left _ (List.mem_of_getElem? (i := 3) rfl)) rfl
theorem ksl_X1_follow : Cond.selects RX1 yX1_follow yX1_follow ∈ kT := kT_s (q := (yX1_follow, 7)) (List.mem_append_left _ (List.mem_of_getElem? (i := 4) rfl)) rfl
theorem ksl_X1_value : Cond.selects RX1 yX1_value yX1_value ∈ kT := kT_s (q := (yX1_value, 7)) (List.mem_append_left _ (List.mem_of_getElem? (i := 5) rfl)) rfl
theorem ksl_X2_clear : Cond.selects RX2 yX2_clear yX2_clear ∈ kT := kT_s (q := (yX2_clear, 5)) (List.mem_append_left _ (List.mem_of_getElem? (i := 6) rfl)) rfl
theorem ksl_X0_makeEmpty : Cond.selects RX0 yX0_makeEmpty yX0_makeEmpty ∈ kT := kT_s (q := (yX0_makeEmpty, 5)) (List.mem_append_left _ (List.mem_of_getElem? (i := 7) rfl)) rfl
theorem ksl_X3_forgetActiveOnes : Cond.selects RX3 yX3_forgetActiveOnes yX3_forgetActiveOnes ∈ kT := kT_s (q := (yX3_forgetActiveOnes, 6)) (List.mem_append_left _ (List.mem_of_getElem? (i := 8) rfl)) rfl
theorem ksl_X3_redoOnDisk : Cond.selects RX3 yX3_redoOnDisk yX3_redoOnDisk ∈ kT := kT_s (q := (yX3_redoOnDisk, 6)) (List.mem_append_left _ (List.mem_of_getElem? (i := 9) rfl)) rfl
theorem ksl_X1_changesPage : Cond.selects RX1 yX1_changesPage yX1_changesPage ∈ kT := kT_s (q := (yX1_changesPage, 7)) (List.mem_append_left _ (List.mem_of_getElem? (i := 10) rfl)) rfl
theorem ksl_X3_putOnDisk : Cond.selects RX3 yX3_putOnDisk yX3_putOnDisk ∈ kT := kT_s (q := (yX3_putOnDisk, 6)) (List.mem_append_left _ (List.mem_of_getElem? (i := 11) rfl)) rfl
theorem ksl_X3_undoOnDisk : Cond.selects RX3 yX3_undoOnDisk yX3_undoOnDisk ∈ kT := kT_s (q := (yX3_undoOnDisk, 6)) (List.mem_append_left _ (List.mem_of_getElem? (i := 12) rfl)) rfl
theorem ksl_X1_isOpen : Cond.selects RX1 yX1_isOpen yX1_isOpen ∈ kT := kT_s (q := (yX1_isOpen, 7)) (List.mem_append_left _ (List.mem_of_getElem? (i := 13) rfl)) rfl
theorem ksl_X1_appendUndo : Cond.selects RX1 yX1_appendUndo yX1_appendUndo ∈ kT := kT_s (q := (yX1_appendUndo, 7)) (List.mem_append_left _ (List.mem_of_getElem? (i := 14) rfl)) rfl
theorem ksl_X1_append : Cond.selects RX1 yX1_append yX1_append ∈ kT := kT_s (q := (yX1_append, 7)) (List.mem_append_left _ (List.mem_of_getElem? (i := 15) rfl)) rfl
theorem ksl_X3_endUnended : Cond.selects RX3 yX3_endUnended yX3_endUnended ∈ kT := kT_s (q := (yX3_endUnended, 6)) (List.mem_append_right _ (List.mem_append_left _ (List.mem_of_getElem? (i := 0) rfl))) rfl
theorem ksl_X1_isUnended : Cond.selects RX1 yX1_isUnended yX1_isUnended ∈ kT := kT_s (q := (yX1_isUnended, 7)) (List.mem_append_right _ (List.mem_append_left _ (List.mem_of_getElem? (i := 1) rfl))) rfl
theorem ksl_X1_appendLast : Cond.selects RX1 yX1_appendLast yX1_appendLast ∈ kT := kT_s (q := (yX1_appendLast, 7)) (List.mem_append_right _ (List.mem_append_left _ (List.mem_of_getElem? (i := 2) rfl))) rfl
theorem ksl_X1_flushTo : Cond.selects RX1 yX1_flushTo yX1_flushTo ∈ kT := kT_s (q := (yX1_flushTo, 7)) (List.mem_append_right _ (List.mem_append_left _ (List.mem_of_getElem? (i := 3) rfl))) rfl
theorem ksl_X2_bring : Cond.selects RX2 yX2_bring yX2_bring ∈ kT := kT_s (q := (yX2_bring, 5)) (List.mem_append_right _ (List.mem_append_left _ (List.mem_of_getElem? (i := 5) rfl))) rfl
theorem ksl_X2_find : Cond.selects RX2 yX2_find yX2_find ∈ kT := kT_s (q := (yX2_find, 5)) (List.mem_append_right _ (List.mem_append_left _ (List.mem_of_getElem? (i := 6) rfl))) rfl
theorem ksl_X2_roomFor : Cond.selects RX2 yX2_roomFor yX2_roomFor ∈ kT := kT_s (q := (yX2_roomFor, 5)) (List.mem_append_right _ (List.mem_append_left _ (List.mem_of_getElem? (i := 7) rfl))) rfl
theorem ksl_X2_turnHand : Cond.selects RX2 yX2_turnHand yX2_turnHand ∈ kT := kT_s (q := (yX2_turnHand, 5)) (List.mem_append_right _ (List.mem_append_left _ (List.mem_of_getElem? (i := 8) rfl))) rfl
theorem ksl_X0_mayBeTaken : Cond.selects RX0 yX0_mayBeTaken yX0_mayBeTaken ∈ kT := kT_s (q := (yX0_mayBeTaken, 5)) (List.mem_append_right _ (List.mem_append_left _ (List.mem_of_getElem? (i := 9) rfl))) rfl
theorem ksl_X2_load : Cond.selects RX2 yX2_load yX2_load ∈ kT := kT_s (q := (yX2_load, 5)) (List.mem_append_right _ (List.mem_append_left _ (List.mem_of_getElem? (i := 10) rfl))) rfl
theorem ksl_X2_writeBack : Cond.selects RX2 yX2_writeBack yX2_writeBack ∈ kT := kT_s (q := (yX2_writeBack, 5)) (List.mem_append_right _ (List.mem_append_left _ (List.mem_of_getElem? (i := 11) rfl))) rfl
theorem ksl_X3_pinnedFrame : Cond.selects RX3 yX3_pinnedFrame yX3_pinnedFrame ∈ kT := kT_s (q := (yX3_pinnedFrame, 6)) (List.mem_append_right _ (List.mem_append_left _ (List.mem_of_getElem? (i := 12) rfl))) rfl
theorem ksl_X3_checkGoesOn : Cond.selects RX3 yX3_checkGoesOn yX3_checkGoesOn ∈ kT := kT_s (q := (yX3_checkGoesOn, 6)) (List.mem_append_right _ (List.mem_append_left _ (List.mem_of_getElem? (i := 13) rfl))) rfl
theorem ksl_X3_checkActive : Cond.selects RX3 yX3_checkActive yX3_checkActive ∈ kT := kT_s (q := (yX3_checkActive, 6)) (List.mem_append_right _ (List.mem_append_left _ (List.mem_of_getElem? (i := 14) rfl))) rfl
theorem ksl_X0_change : Cond.selects RX0 yX0_change yX0_change ∈ kT := kT_s (q := (yX0_change, 5)) (List.mem_append_right _ (List.mem_append_left _ (List.mem_of_getElem? (i := 15) rfl))) rfl
theorem ksl_X3_undoInPool : Cond.selects RX3 yX3_undoInPool yX3_undoInPool ∈ kT := kT_s (q := (yX3_undoInPool, 6)) (List.mem_append_right _ (List.mem_append_right _ (List.mem_append_left _ (List.mem_of_getElem? (i := 0) rfl)))) rfl
theorem ksl_X4_refused : Cond.selects RX4 yX4_refused yX4_refused ∈ kT := kT_s (q := (yX4_refused, 27)) (List.mem_append_right _ (List.mem_append_right _ (List.mem_append_left _ (List.mem_of_getElem? (i := 1) rfl)))) rfl
theorem ksl_X4_bring : Cond.selects RX4 yX4_bring yX4_bring ∈ kT := kT_s (q := (yX4_bring, 27)) (List.mem_append_right _ (List.mem_append_right _ (List.mem_append_left _ (List.mem_of_getElem? (i := 2) rfl)))) rfl
theorem ksl_X4_frameOf : Cond.selects RX4 yX4_frameOf yX4_frameOf ∈ kT := kT_s (q := (yX4_frameOf, 27)) (List.mem_append_right _ (List.mem_append_right _ (List.mem_append_left _ (List.mem_of_getElem? (i := 3) rfl)))) rfl
theorem ksl_X4_room : Cond.selects RX4 yX4_room yX4_room ∈ kT := kT_s (q := (yX4_room, 27)) (List.mem_append_right _ (List.mem_append_right _ (List.mem_append_left _ (List.mem_of_getElem? (i := 4) rfl)))) rfl
theorem ksl_X4_mayGo : Cond.selects RX4 yX4_mayGo yX4_mayGo ∈ kT := kT_s (q := (yX4_mayGo, 27)) (List.mem_append_right _ (List.mem_append_right _ (List.mem_append_left _ (List.mem_of_getElem? (i := 5) rfl)))) rfl
theorem ksl_X4_write : Cond.selects RX4 yX4_write yX4_write ∈ kT := kT_s (q := (yX4_write, 27)) (List.mem_append_right _ (List.mem_append_right _ (List.mem_append_left _ (List.mem_of_getElem? (i := 6) rfl)))) rfl
theorem ksl_X4_isPinned : Cond.selects RX4 yX4_isPinned yX4_isPinned ∈ kT := kT_s (q := (yX4_isPinned, 27)) (List.mem_append_right _ (List.mem_append_right _ (List.mem_append_left _ (List.mem_of_getElem? (i := 7) rfl)))) rfl
theorem ksl_X4_needed : Cond.selects RX4 yX4_needed yX4_needed ∈ kT := kT_s (q := (yX4_needed, 27)) (List.mem_append_right _ (List.mem_append_right _ (List.mem_append_left _ (List.mem_of_getElem? (i := 8) rfl)))) rfl
theorem ksl_X4_undosOf : Cond.selects RX4 yX4_undosOf yX4_undosOf ∈ kT := kT_s (q := (yX4_undosOf, 27)) (List.mem_append_right _ (List.mem_append_right _ (List.mem_append_left _ (List.mem_of_getElem? (i := 9) rfl)))) rfl
theorem ksl_X4_record : Cond.selects RX4 yX4_record yX4_record ∈ kT := kT_s (q := (yX4_record, 27)) (List.mem_append_right _ (List.mem_append_right _ (List.mem_append_left _ (List.mem_of_getElem? (i := 10) rfl)))) rfl
theorem ksl_X4_lastOf : Cond.selects RX4 yX4_lastOf yX4_lastOf ∈ kT := kT_s (q := (yX4_lastOf, 27)) (List.mem_append_right _ (List.mem_append_right _ (List.mem_append_left _ (List.mem_of_getElem? (i := 11) rfl)))) rfl
theorem ksl_X4_tellUndo : Cond.selects RX4 yX4_tellUndo yX4_tellUndo ∈ kT := kT_s (q := (yX4_tellUndo, 27)) (List.mem_append_right _ (List.mem_append_right _ (List.mem_append_left _ (List.mem_of_getElem? (i := 12) rfl)))) rfl
theorem ksl_X4_loseRecords : Cond.selects RX4 yX4_loseRecords yX4_loseRecords ∈ kT := kT_s (q := (yX4_loseRecords, 27)) (List.mem_append_right _ (List.mem_append_right _ (List.mem_append_left _ (List.mem_of_getElem? (i := 13) rfl)))) rfl
theorem ksl_X4_redo : Cond.selects RX4 yX4_redo yX4_redo ∈ kT := kT_s (q := (yX4_redo, 27)) (List.mem_append_right _ (List.mem_append_right _ (List.mem_append_left _ (List.mem_of_getElem? (i := 14) rfl)))) rfl
theorem ksl_X4_isOpen : Cond.selects RX4 yX4_isOpen yX4_isOpen ∈ kT := kT_s (q := (yX4_isOpen, 27)) (List.mem_append_right _ (List.mem_append_right _ (List.mem_append_left _ (List.mem_of_getElem? (i := 15) rfl)))) rfl
theorem ksl_X4_isLatest : Cond.selects RX4 yX4_isLatest yX4_isLatest ∈ kT := kT_s (q := (yX4_isLatest, 27)) (List.mem_append_right _ (List.mem_append_right _ (List.mem_append_right _ ((List.mem_of_getElem? (i := 0) rfl))))) rfl
theorem kfs_X0 : ∀ w ∈ wsX00, w ∈ kT := by decide +kernel
theorem kfs_X1 : ∀ w ∈ wsX10, w ∈ kT := by decide +kernel
theorem kfs_X2 : ∀ w ∈ wsX20, w ∈ kT := by decide +kernel
theorem kfs_X3 : ∀ w ∈ wsX30, w ∈ kT := by decide +kernel
theorem kfs_X4 : ∀ w ∈ wsX40, w ∈ kT := by decide +kernel
end
section
section KG
/-- the locals by their numbers, none where nothing is known -/
def kg_h (ls : Array Slot) (nL : Nat) (lo : List (Option Value)) : Prop := ∃ lv, lv_has ls nL lv ∧ ∀ (i : Nat) (v : Value), lo[i]? = some (some v) → (i, v) ∈ lv ∧ v.category = 1
theorem kg_h.size {ls : Array Slot} {nL : Nat} {lo : List (Option Value)} (h : kg_h ls nL lo) : ls.size = nL := by
  obtain ⟨lv, h1, -⟩ := h
  exact h1.1
theorem kg_h.at {ls : Array Slot} {nL : Nat} {lo : List (Option Value)} (h : kg_h ls nL lo) {i : Nat} {v : Value} (hi : lo[i]? = some (some v)) : ls[i]? = some (.val v) := by
  obtain ⟨lv, h1, h2⟩ := h
  exact h1.2.2 (i, v) (h2 i v hi).1
theorem kg_h.put {ls : Array Slot} {nL i : Nat} {lo : List (Option Value)} {v : Value} {lv : List (Nat × Value)} (h2 : ∀ (i : Nat) (v : Value), lo[i]? = some (some v) → (i, v) ∈ lv ∧ v.category = 1) (hc : v.category = 1) (h1 : lv_has ls nL ((i, v) :: lv.filter (fun q => !(q.1 == i) && !(q.1 + 1 == i && q.2.category == 2)))) : kg_h ls nL (lo.set i (some v)) := by
  refine ⟨_, h1, fun j w hj => ?_⟩
  by_cases e : j = i
  · subst e
    rw [List.getElem?_set] at hj
    simp only [if_true] at hj
    split at hj
    · cases hj
      exact ⟨List.mem_cons_self, hc⟩
    · cases hj
  · rw [List.getElem?_set_ne (Ne.symm e)] at hj
    obtain ⟨g1, g2⟩ := h2 j w hj
    refine ⟨List.mem_cons_of_mem _ (List.mem_filter.mpr ⟨g1, ?_⟩), g2⟩
    simp [e, g2]
theorem kg_h.weak {ls : Array Slot} {nL : Nat} {lo lo' : List (Option Value)} (h : kg_h ls nL lo) (hw : ∀ (i : Nat) (v : Value), lo'[i]? = some (some v) → lo[i]? = some (some v)) : kg_h ls nL lo' := by
  obtain ⟨lv, h1, h2⟩ := h
  exact ⟨lv, h1, fun i v hi => h2 i v (hw i v hi)⟩
/-- what a method's walk stands on, the same from its first instruction to its last -/
def kg_c (p : Program) (s : State) (m : MethodId) (args : Array Value) (meth : Method) (c : Code) (cc : ByteArray) (nL : Nat) (own : String) (D : va_G) (tys : List (ClassId × FieldType)) (A : Nat → Prop) : Prop :=
  p.tables.exec = Jvm.exec ∧ c.code = cc ∧ c.maxLocals = nL ∧ s.vm.findClass own = some m.cls ∧ (∀ w ∈ kT, w.before args s = true) ∧ va_K D vwCl tys s ∧ (∀ q : Nat, s.heap.size ≤ q → A q) ∧ meth.locks = false ∧ kN s
/-- the machine at pc, over any heap that holds the world ws, comes to a state with Q -/
def kg (p : Program) (l : Launch) (e : Env) (R : Room) (s : State) (m : MethodId) (args : Array Value) (below : List Frame) (meth : Method) (c : Code) (nL : Nat) (D : va_G) (A : Nat → Prop) (Q : State → Prop) (cells slots : Nat) (ws : va_W) (pc : Nat) (lo : List (Option Value)) (st : List Value) : Prop :=
  ∀ (H : Heap) (locs : List Loc) (ls : Array Slot), va_P D vwCl ws H → va_D A ws → va_S A s.heap H locs → kg_h ls nL lo → W p l e R s m args below meth c H locs cells slots Q (F0 m pc ls st)
variable {p : Program} {l : Launch} {e : Env} {R : Room} {s : State} {m : MethodId} {args : Array Value} {below : List Frame} {meth : Method} {c : Code} {cells slots : Nat} {Q : State → Prop}
variable {cc : ByteArray} {nL : Nat} {own : String} {D : va_G} {tys : List (ClassId × FieldType)} {A : Nat → Prop} {ws : va_W} {pc : Nat} {lo : List (Option Value)} {st : List Value}
theorem kg_iconst (cx : kg_c p s m args meth c cc nL own D tys A) {n : Int} {v : Int32} (hd : decode cc pc = .ok (.iconst n, 1)) (hv : Int32.ofInt n = v) (kk : kg p l e R s m args below meth c nL D A Q cells slots ws (pc + 1) lo (.int v :: st)) : kg p l e R s m args below meth c nL D A Q cells slots ws pc lo st := fun H locs ls hP hD hS hl => lv_iconst cx.1 cx.2.1 hd hv (kk H locs ls hP hD hS hl)
theorem kg_bipush (cx : kg_c p s m args meth c cc nL own D tys A) {n : Int} {v : Int32} (hd : decode cc pc = .ok (.bipush n, 2)) (hv : (Int8.ofInt n).toInt32 = v) (kk : kg p l e R s m args below meth c nL D A Q cells slots ws (pc + 2) lo (.int v :: st)) : kg p l e R s m args below meth c nL D A Q cells slots ws pc lo st := fun H locs ls hP hD hS hl => lv_bipush cx.1 cx.2.1 hd hv (kk H locs ls hP hD hS hl)
theorem kg_sipush (cx : kg_c p s m args meth c cc nL own D tys A) {n : Int} {v : Int32} (hd : decode cc pc = .ok (.sipush n, 3)) (hv : (Int16.ofInt n).toInt32 = v) (kk : kg p l e R s m args below meth c nL D A Q cells slots ws (pc + 3) lo (.int v :: st)) : kg p l e R s m args below meth c nL D A Q cells slots ws pc lo st := fun H locs ls hP hD hS hl => lv_sipush cx.1 cx.2.1 hd hv (kk H locs ls hP hD hS hl)
theorem kg_lconst (cx : kg_c p s m args meth c cc nL own D tys A) {n : Fin 2} {v : Int64} (hd : decode cc pc = .ok (.lconst n, 1)) (hv : Int64.ofNat (n : Nat) = v) (kk : kg p l e R s m args below meth c nL D A Q cells slots ws (pc + 1) lo (.long v :: st)) : kg p l e R s m args below meth c nL D A Q cells slots ws pc lo st := fun H locs ls hP hD hS hl => lv_lconst cx.1 cx.2.1 hd hv (kk H locs ls hP hD hS hl)
theorem kg_iload_n (cx : kg_c p s m args meth c cc nL own D tys A) {k : Fin 4} {x : Int32} (hd : decode cc pc = .ok (.iload_n k, 1)) (hv : lo[(k : Nat)]? = some (some (.int x))) (kk : kg p l e R s m args below meth c nL D A Q cells slots ws (pc + 1) lo (.int x :: st)) : kg p l e R s m args below meth c nL D A Q cells slots ws pc lo st := fun H locs ls hP hD hS hl => lv_iload_n cx.1 cx.2.1 hd rfl (hl.at hv) (kk H locs ls hP hD hS hl)
theorem kg_iload (cx : kg_c p s m args meth c cc nL own D tys A) {i : Nat} {x : Int32} (hd : decode cc pc = .ok (.iload i, 2)) (hv : lo[i]? = some (some (.int x))) (kk : kg p l e R s m args below meth c nL D A Q cells slots ws (pc + 2) lo (.int x :: st)) : kg p l e R s m args below meth c nL D A Q cells slots ws pc lo st := fun H locs ls hP hD hS hl => lv_iload cx.1 cx.2.1 hd (hl.at hv) (kk H locs ls hP hD hS hl)
theorem kg_aload_n (cx : kg_c p s m args meth c cc nL own D tys A) {k : Fin 4} {x : Nat} (hd : decode cc pc = .ok (.aload_n k, 1)) (hv : lo[(k : Nat)]? = some (some (.ref x))) (kk : kg p l e R s m args below meth c nL D A Q cells slots ws (pc + 1) lo (.ref x :: st)) : kg p l e R s m args below meth c nL D A Q cells slots ws pc lo st := fun H locs ls hP hD hS hl => lv_aload_n cx.1 cx.2.1 hd rfl (hl.at hv) (kk H locs ls hP hD hS hl)
theorem kg_aload (cx : kg_c p s m args meth c cc nL own D tys A) {i : Nat} {x : Nat} (hd : decode cc pc = .ok (.aload i, 2)) (hv : lo[i]? = some (some (.ref x))) (kk : kg p l e R s m args below meth c nL D A Q cells slots ws (pc + 2) lo (.ref x :: st)) : kg p l e R s m args below meth c nL D A Q cells slots ws pc lo st := fun H locs ls hP hD hS hl => lv_aload cx.1 cx.2.1 hd (hl.at hv) (kk H locs ls hP hD hS hl)
theorem kg_istore_n (cx : kg_c p s m args meth c cc nL own D tys A) {k : Fin 4} {x : Int32} (hd : decode cc pc = .ok (.istore_n k, 1)) (hn : (k : Nat) < nL) (kk : kg p l e R s m args below meth c nL D A Q cells slots ws (pc + 1) (lo.set (k : Nat) (some (.int x))) st) : kg p l e R s m args below meth c nL D A Q cells slots ws pc lo (.int x :: st) := by
  intro H locs ls hP hD hS hl
  obtain ⟨lv, h1, h2⟩ := hl
  exact lv_istore_n cx.1 cx.2.1 hd rfl h1 hn rfl (fun ls9 h9 => kk H locs ls9 hP hD hS (kg_h.put h2 rfl h9))
theorem kg_istore (cx : kg_c p s m args meth c cc nL own D tys A) {i : Nat} {x : Int32} (hd : decode cc pc = .ok (.istore i, 2)) (hn : i < nL) (kk : kg p l e R s m args below meth c nL D A Q cells slots ws (pc + 2) (lo.set i (some (.int x))) st) : kg p l e R s m args below meth c nL D A Q cells slots ws pc lo (.int x :: st) := by
  intro H locs ls hP hD hS hl
  obtain ⟨lv, h1, h2⟩ := hl
  exact lv_istore cx.1 cx.2.1 hd h1 hn rfl (fun ls9 h9 => kk H locs ls9 hP hD hS (kg_h.put h2 rfl h9))
theorem kg_astore_n (cx : kg_c p s m args meth c cc nL own D tys A) {k : Fin 4} {x : Nat} (hd : decode cc pc = .ok (.astore_n k, 1)) (hn : (k : Nat) < nL) (kk : kg p l e R s m args below meth c nL D A Q cells slots ws (pc + 1) (lo.set (k : Nat) (some (.ref x))) st) : kg p l e R s m args below meth c nL D A Q cells slots ws pc lo (.ref x :: st) := by
  intro H locs ls hP hD hS hl
  obtain ⟨lv, h1, h2⟩ := hl
  exact lv_astore_n cx.1 cx.2.1 hd rfl h1 hn rfl (fun ls9 h9 => kk H locs ls9 hP hD hS (kg_h.put h2 rfl h9))
theorem kg_astore (cx : kg_c p s m args meth c cc nL own D tys A) {i : Nat} {x : Nat} (hd : decode cc pc = .ok (.astore i, 2)) (hn : i < nL) (kk : kg p l e R s m args below meth c nL D A Q cells slots ws (pc + 2) (lo.set i (some (.ref x))) st) : kg p l e R s m args below meth c nL D A Q cells slots ws pc lo (.ref x :: st) := by
  intro H locs ls hP hD hS hl
  obtain ⟨lv, h1, h2⟩ := hl
  exact lv_astore cx.1 cx.2.1 hd h1 hn rfl (fun ls9 h9 => kk H locs ls9 hP hD hS (kg_h.put h2 rfl h9))
theorem kg_iinc (cx : kg_c p s m args meth c cc nL own D tys A) {i : Nat} {n : Int} {x v : Int32} (hd : decode cc pc = .ok (.iinc i n, 3)) (hx : lo[i]? = some (some (.int x))) (hv : x + Int32.ofInt n = v) (hn : i < nL) (kk : kg p l e R s m args below meth c nL D A Q cells slots ws (pc + 3) (lo.set i (some (.int v))) st) : kg p l e R s m args below meth c nL D A Q cells slots ws pc lo st := by
  intro H locs ls hP hD hS hl
  obtain ⟨lv, h1, h2⟩ := hl
  obtain ⟨k, hk⟩ := List.getElem?_of_mem (h2 i _ hx).1
  exact lv_iinc cx.1 cx.2.1 hd h1 hk hv hn rfl (fun ls9 h9 => kk H locs ls9 hP hD hS (kg_h.put h2 rfl h9))
theorem kg_iadd (cx : kg_c p s m args meth c cc nL own D tys A) {x y : Int32} (hd : decode cc pc = .ok (.iadd, 1)) (kk : kg p l e R s m args below meth c nL D A Q cells slots ws (pc + 1) lo (.int (x + y) :: st)) : kg p l e R s m args below meth c nL D A Q cells slots ws pc lo (.int y :: .int x :: st) := fun H locs ls hP hD hS hl => lv_iadd cx.1 cx.2.1 hd (kk H locs ls hP hD hS hl)
theorem kg_isub (cx : kg_c p s m args meth c cc nL own D tys A) {x y : Int32} (hd : decode cc pc = .ok (.isub, 1)) (kk : kg p l e R s m args below meth c nL D A Q cells slots ws (pc + 1) lo (.int (x - y) :: st)) : kg p l e R s m args below meth c nL D A Q cells slots ws pc lo (.int y :: .int x :: st) := fun H locs ls hP hD hS hl => lv_isub cx.1 cx.2.1 hd (kk H locs ls hP hD hS hl)
theorem kg_imul (cx : kg_c p s m args meth c cc nL own D tys A) {x y : Int32} (hd : decode cc pc = .ok (.imul, 1)) (kk : kg p l e R s m args below meth c nL D A Q cells slots ws (pc + 1) lo (.int (x * y) :: st)) : kg p l e R s m args below meth c nL D A Q cells slots ws pc lo (.int y :: .int x :: st) := fun H locs ls hP hD hS hl => lv_imul cx.1 cx.2.1 hd (kk H locs ls hP hD hS hl)
theorem kg_iand (cx : kg_c p s m args meth c cc nL own D tys A) {x y : Int32} (hd : decode cc pc = .ok (.iand, 1)) (kk : kg p l e R s m args below meth c nL D A Q cells slots ws (pc + 1) lo (.int (x &&& y) :: st)) : kg p l e R s m args below meth c nL D A Q cells slots ws pc lo (.int y :: .int x :: st) := fun H locs ls hP hD hS hl => lv_iand cx.1 cx.2.1 hd (kk H locs ls hP hD hS hl)
theorem kg_irem (cx : kg_c p s m args meth c cc nL own D tys A) {x y : Int32} (hd : decode cc pc = .ok (.irem, 1)) (hne : ¬ y = 0) (kk : kg p l e R s m args below meth c nL D A Q cells slots ws (pc + 1) lo (.int (x - x / y * y) :: st)) : kg p l e R s m args below meth c nL D A Q cells slots ws pc lo (.int y :: .int x :: st) := fun H locs ls hP hD hS hl => lv_irem cx.1 cx.2.1 hd hne (kk H locs ls hP hD hS hl)
theorem kg_i2l (cx : kg_c p s m args meth c cc nL own D tys A) {x : Int32} (hd : decode cc pc = .ok (.i2l, 1)) (kk : kg p l e R s m args below meth c nL D A Q cells slots ws (pc + 1) lo (.long x.toInt64 :: st)) : kg p l e R s m args below meth c nL D A Q cells slots ws pc lo (.int x :: st) := fun H locs ls hP hD hS hl => lv_i2l cx.1 cx.2.1 hd rfl (kk H locs ls hP hD hS hl)
theorem kg_dup (cx : kg_c p s m args meth c cc nL own D tys A) {va : Value} (hd : decode cc pc = .ok (.dup, 1)) (hc : va.category = 1) (kk : kg p l e R s m args below meth c nL D A Q cells slots ws (pc + 1) lo (va :: va :: st)) : kg p l e R s m args below meth c nL D A Q cells slots ws pc lo (va :: st) := fun H locs ls hP hD hS hl => lv_dup cx.1 cx.2.1 hd hc (kk H locs ls hP hD hS hl)
theorem kg_pop (cx : kg_c p s m args meth c cc nL own D tys A) {va : Value} (hd : decode cc pc = .ok (.pop, 1)) (hc : va.category = 1) (kk : kg p l e R s m args below meth c nL D A Q cells slots ws (pc + 1) lo st) : kg p l e R s m args below meth c nL D A Q cells slots ws pc lo (va :: st) := fun H locs ls hP hD hS hl => lv_pop cx.1 cx.2.1 hd hc (kk H locs ls hP hD hS hl)
theorem kg_dup2 (cx : kg_c p s m args meth c cc nL own D tys A) {va vb : Value} (hd : decode cc pc = .ok (.dup2, 1)) (hc : va.category = 1) (hc2 : vb.category = 1) (kk : kg p l e R s m args below meth c nL D A Q cells slots ws (pc + 1) lo (va :: vb :: va :: vb :: st)) : kg p l e R s m args below meth c nL D A Q cells slots ws pc lo (va :: vb :: st) := fun H locs ls hP hD hS hl => lv_dup2_11 cx.1 cx.2.1 hd hc hc2 (kk H locs ls hP hD hS hl)
theorem kg_goto (cx : kg_c p s m args meth c cc nL own D tys A) {off : Int} (tgt : Nat) (hd : decode cc pc = .ok (.goto off, 3)) (ht : (pc : Int) + off = (tgt : Int)) (kk : kg p l e R s m args below meth c nL D A Q cells slots ws tgt lo st) : kg p l e R s m args below meth c nL D A Q cells slots ws pc lo st := fun H locs ls hP hD hS hl => lv_goto cx.1 cx.2.1 hd ht (kk H locs ls hP hD hS hl)
theorem kg_if_eq (cx : kg_c p s m args meth c cc nL own D tys A) {x : Int32} {off : Int} (tgt : Nat) (hd : decode cc pc = .ok (.ifCond .eq off, 3)) (ht : (pc : Int) + off = (tgt : Int)) (kt : (x = 0) → kg p l e R s m args below meth c nL D A Q cells slots ws tgt lo st) (kf : (¬ x = 0) → kg p l e R s m args below meth c nL D A Q cells slots ws (pc + 3) lo st) : kg p l e R s m args below meth c nL D A Q cells slots ws pc lo (.int x :: st) := fun H locs ls hP hD hS hl => lv_if_eq cx.1 cx.2.1 hd ht (fun h9 => kt h9 H locs ls hP hD hS hl) (fun h9 => kf h9 H locs ls hP hD hS hl)
theorem kg_icmp_eq (cx : kg_c p s m args meth c cc nL own D tys A) {x y : Int32} {off : Int} (tgt : Nat) (hd : decode cc pc = .ok (.if_icmp .eq off, 3)) (ht : (pc : Int) + off = (tgt : Int)) (kt : (x = y) → kg p l e R s m args below meth c nL D A Q cells slots ws tgt lo st) (kf : (¬ x = y) → kg p l e R s m args below meth c nL D A Q cells slots ws (pc + 3) lo st) : kg p l e R s m args below meth c nL D A Q cells slots ws pc lo (.int y :: .int x :: st) := fun H locs ls hP hD hS hl => lv_icmp_eq cx.1 cx.2.1 hd ht (fun h9 => kt h9 H locs ls hP hD hS hl) (fun h9 => kf h9 H locs ls hP hD hS hl)
theorem kg_if_ne (cx : kg_c p s m args meth c cc nL own D tys A) {x : Int32} {off : Int} (tgt : Nat) (hd : decode cc pc = .ok (.ifCond .ne off, 3)) (ht : (pc : Int) + off = (tgt : Int)) (kt : (¬ x = 0) → kg p l e R s m args below meth c nL D A Q cells slots ws tgt lo st) (kf : (x = 0) → kg p l e R s m args below meth c nL D A Q cells slots ws (pc + 3) lo st) : kg p l e R s m args below meth c nL D A Q cells slots ws pc lo (.int x :: st) := fun H locs ls hP hD hS hl => lv_if_ne cx.1 cx.2.1 hd ht (fun h9 => kt h9 H locs ls hP hD hS hl) (fun h9 => kf h9 H locs ls hP hD hS hl)
theorem kg_icmp_ne (cx : kg_c p s m args meth c cc nL own D tys A) {x y : Int32} {off : Int} (tgt : Nat) (hd : decode cc pc = .ok (.if_icmp .ne off, 3)) (ht : (pc : Int) + off = (tgt : Int)) (kt : (¬ x = y) → kg p l e R s m args below meth c nL D A Q cells slots ws tgt lo st) (kf : (x = y) → kg p l e R s m args below meth c nL D A Q cells slots ws (pc + 3) lo st) : kg p l e R s m args below meth c nL D A Q cells slots ws pc lo (.int y :: .int x :: st) := fun H locs ls hP hD hS hl => lv_icmp_ne cx.1 cx.2.1 hd ht (fun h9 => kt h9 H locs ls hP hD hS hl) (fun h9 => kf h9 H locs ls hP hD hS hl)
theorem kg_if_lt (cx : kg_c p s m args meth c cc nL own D tys A) {x : Int32} {off : Int} (tgt : Nat) (hd : decode cc pc = .ok (.ifCond .lt off, 3)) (ht : (pc : Int) + off = (tgt : Int)) (kt : (x < 0) → kg p l e R s m args below meth c nL D A Q cells slots ws tgt lo st) (kf : (¬ x < 0) → kg p l e R s m args below meth c nL D A Q cells slots ws (pc + 3) lo st) : kg p l e R s m args below meth c nL D A Q cells slots ws pc lo (.int x :: st) := fun H locs ls hP hD hS hl => lv_if_lt cx.1 cx.2.1 hd ht (fun h9 => kt h9 H locs ls hP hD hS hl) (fun h9 => kf h9 H locs ls hP hD hS hl)
theorem kg_icmp_lt (cx : kg_c p s m args meth c cc nL own D tys A) {x y : Int32} {off : Int} (tgt : Nat) (hd : decode cc pc = .ok (.if_icmp .lt off, 3)) (ht : (pc : Int) + off = (tgt : Int)) (kt : (x < y) → kg p l e R s m args below meth c nL D A Q cells slots ws tgt lo st) (kf : (¬ x < y) → kg p l e R s m args below meth c nL D A Q cells slots ws (pc + 3) lo st) : kg p l e R s m args below meth c nL D A Q cells slots ws pc lo (.int y :: .int x :: st) := fun H locs ls hP hD hS hl => lv_icmp_lt cx.1 cx.2.1 hd ht (fun h9 => kt h9 H locs ls hP hD hS hl) (fun h9 => kf h9 H locs ls hP hD hS hl)
theorem kg_if_ge (cx : kg_c p s m args meth c cc nL own D tys A) {x : Int32} {off : Int} (tgt : Nat) (hd : decode cc pc = .ok (.ifCond .ge off, 3)) (ht : (pc : Int) + off = (tgt : Int)) (kt : (0 ≤ x) → kg p l e R s m args below meth c nL D A Q cells slots ws tgt lo st) (kf : (¬ 0 ≤ x) → kg p l e R s m args below meth c nL D A Q cells slots ws (pc + 3) lo st) : kg p l e R s m args below meth c nL D A Q cells slots ws pc lo (.int x :: st) := fun H locs ls hP hD hS hl => lv_if_ge cx.1 cx.2.1 hd ht (fun h9 => kt h9 H locs ls hP hD hS hl) (fun h9 => kf h9 H locs ls hP hD hS hl)
theorem kg_icmp_ge (cx : kg_c p s m args meth c cc nL own D tys A) {x y : Int32} {off : Int} (tgt : Nat) (hd : decode cc pc = .ok (.if_icmp .ge off, 3)) (ht : (pc : Int) + off = (tgt : Int)) (kt : (y ≤ x) → kg p l e R s m args below meth c nL D A Q cells slots ws tgt lo st) (kf : (¬ y ≤ x) → kg p l e R s m args below meth c nL D A Q cells slots ws (pc + 3) lo st) : kg p l e R s m args below meth c nL D A Q cells slots ws pc lo (.int y :: .int x :: st) := fun H locs ls hP hD hS hl => lv_icmp_ge cx.1 cx.2.1 hd ht (fun h9 => kt h9 H locs ls hP hD hS hl) (fun h9 => kf h9 H locs ls hP hD hS hl)
theorem kg_if_gt (cx : kg_c p s m args meth c cc nL own D tys A) {x : Int32} {off : Int} (tgt : Nat) (hd : decode cc pc = .ok (.ifCond .gt off, 3)) (ht : (pc : Int) + off = (tgt : Int)) (kt : (0 < x) → kg p l e R s m args below meth c nL D A Q cells slots ws tgt lo st) (kf : (¬ 0 < x) → kg p l e R s m args below meth c nL D A Q cells slots ws (pc + 3) lo st) : kg p l e R s m args below meth c nL D A Q cells slots ws pc lo (.int x :: st) := fun H locs ls hP hD hS hl => lv_if_gt cx.1 cx.2.1 hd ht (fun h9 => kt h9 H locs ls hP hD hS hl) (fun h9 => kf h9 H locs ls hP hD hS hl)
theorem kg_icmp_gt (cx : kg_c p s m args meth c cc nL own D tys A) {x y : Int32} {off : Int} (tgt : Nat) (hd : decode cc pc = .ok (.if_icmp .gt off, 3)) (ht : (pc : Int) + off = (tgt : Int)) (kt : (y < x) → kg p l e R s m args below meth c nL D A Q cells slots ws tgt lo st) (kf : (¬ y < x) → kg p l e R s m args below meth c nL D A Q cells slots ws (pc + 3) lo st) : kg p l e R s m args below meth c nL D A Q cells slots ws pc lo (.int y :: .int x :: st) := fun H locs ls hP hD hS hl => lv_icmp_gt cx.1 cx.2.1 hd ht (fun h9 => kt h9 H locs ls hP hD hS hl) (fun h9 => kf h9 H locs ls hP hD hS hl)
theorem kg_if_le (cx : kg_c p s m args meth c cc nL own D tys A) {x : Int32} {off : Int} (tgt : Nat) (hd : decode cc pc = .ok (.ifCond .le off, 3)) (ht : (pc : Int) + off = (tgt : Int)) (kt : (x ≤ 0) → kg p l e R s m args below meth c nL D A Q cells slots ws tgt lo st) (kf : (¬ x ≤ 0) → kg p l e R s m args below meth c nL D A Q cells slots ws (pc + 3) lo st) : kg p l e R s m args below meth c nL D A Q cells slots ws pc lo (.int x :: st) := fun H locs ls hP hD hS hl => lv_if_le cx.1 cx.2.1 hd ht (fun h9 => kt h9 H locs ls hP hD hS hl) (fun h9 => kf h9 H locs ls hP hD hS hl)
theorem kg_icmp_le (cx : kg_c p s m args meth c cc nL own D tys A) {x y : Int32} {off : Int} (tgt : Nat) (hd : decode cc pc = .ok (.if_icmp .le off, 3)) (ht : (pc : Int) + off = (tgt : Int)) (kt : (x ≤ y) → kg p l e R s m args below meth c nL D A Q cells slots ws tgt lo st) (kf : (¬ x ≤ y) → kg p l e R s m args below meth c nL D A Q cells slots ws (pc + 3) lo st) : kg p l e R s m args below meth c nL D A Q cells slots ws pc lo (.int y :: .int x :: st) := fun H locs ls hP hD hS hl => lv_icmp_le cx.1 cx.2.1 hd ht (fun h9 => kt h9 H locs ls hP hD hS hl) (fun h9 => kf h9 H locs ls hP hD hS hl)
theorem kg_tableOut (cx : kg_c p s m args meth c cc nL own D tys A) {dflt lo9 hi : Int} {offs : Array Int} {len : Nat} {x : Int32} (tgt : Nat) (hd : decode cc pc = .ok (.tableswitch dflt lo9 hi offs, len)) (h : x.toInt < lo9 ∨ hi < x.toInt) (ht : (pc : Int) + dflt = (tgt : Int)) (kk : kg p l e R s m args below meth c nL D A Q cells slots ws tgt lo st) : kg p l e R s m args below meth c nL D A Q cells slots ws pc lo (.int x :: st) := fun H locs ls hP hD hS hl => lv_tableOut cx.1 cx.2.1 hd h ht (kk H locs ls hP hD hS hl)
theorem kg_tableIn (cx : kg_c p s m args meth c cc nL own D tys A) {dflt lo9 hi : Int} {offs : Array Int} {len : Nat} {x : Int32} {off : Int} (tgt : Nat) (hd : decode cc pc = .ok (.tableswitch dflt lo9 hi offs, len)) (h1 : ¬ x.toInt < lo9) (h2 : ¬ hi < x.toInt) (ho : offs[(x.toInt - lo9).toNat]? = some off) (ht : (pc : Int) + off = (tgt : Int)) (kk : kg p l e R s m args below meth c nL D A Q cells slots ws tgt lo st) : kg p l e R s m args below meth c nL D A Q cells slots ws pc lo (.int x :: st) := fun H locs ls hP hD hS hl => lv_tableIn cx.1 cx.2.1 hd h1 h2 ho ht (kk H locs ls hP hD hS hl)
theorem kg_get (cx : kg_c p s m args meth c cc nL own D tys A) {C : String} {T : u_T} {N ci index : Nat} {fs : List Value} {a : Nat} (q0 k : Nat) {v : Value} (hin : ∀ w ∈ u_ws C T N, w ∈ kT) (hc : vwCl[ci]? = some (C, T, N)) (hk : k < N) (he : ws[q0]? = some (a, .inr (ci, fs))) (hv : fs[k]? = some v) (hlk : Cond.fieldLink own index (T k).1 (T k).2.1 (T k).2.2.1 ∈ kT) (hd : decode cc pc = .ok (.getfield index, 3)) (kk : kg p l e R s m args below meth c nL D A Q cells slots ws (pc + 3) lo (v :: st)) : kg p l e R s m args below meth c nL D A Q cells slots ws pc lo (.ref a :: st) := fun H locs ls hP hD hS hl => va_get cx.1 cx.2.1 cx.2.2.2.2.1 hin cx.2.2.2.1 cx.2.2.2.2.2.1 hP q0 he hc k hk (cx.2.2.2.2.1 _ hlk) (fun _ h => h) hv hd (kk H locs ls hP hD hS hl)
theorem kg_getN (cx : kg_c p s m args meth c cc nL own D tys A) {C : String} {T : u_T} {N ci index : Nat} {fs : List Value} {a : Nat} (q0 k : Nat) {v : Value} (hin : ∀ w ∈ u_ws C T N, w ∈ kT) (hc : vwCl[ci]? = some (C, T, N)) (hk : k < N) (he : ws[q0]? = some (a, .inr (ci, fs))) (hv : fs[k]? = some v) {host : String} (hlk : va_Nw (Cond.fieldLinkNest own index (T k).1 (T k).2.1 (T k).2.2.1 host) s) (hd : decode cc pc = .ok (.getfield index, 3)) (kk : kg p l e R s m args below meth c nL D A Q cells slots ws (pc + 3) lo (v :: st)) : kg p l e R s m args below meth c nL D A Q cells slots ws pc lo (.ref a :: st) := fun H locs ls hP hD hS hl => va_getN cx.1 cx.2.1 cx.2.2.2.2.1 hin cx.2.2.2.1 cx.2.2.2.2.2.1 hP q0 he hc k hk (va_Nw.use rfl hlk) (fun _ h => h) hv hd (kk H locs ls hP hD hS hl)
theorem kg_put (cx : kg_c p s m args meth c cc nL own D tys A) {C : String} {T : u_T} {N ci index : Nat} {fs : List Value} {a : Nat} {ws9 : va_W} (q0 k : Nat) {v : Value} {ty : FieldType} (hin : ∀ w ∈ u_ws C T N, w ∈ kT) (ty0 : Nat → FieldType) (hty : ∀ k, k < N → parseFieldDescriptor (T k).2.2.1 = some (ty0 k)) (hnm : ∀ a, a < N → ∀ b, b < N → a ≠ b → (T a).2.1 ≠ (T b).2.1) (hc : vwCl[ci]? = some (C, T, N)) (hk : k < N) (he : ws[q0]? = some (a, .inr (ci, fs))) (hl9 : k < fs.length) (hlk : Cond.fieldLink own index (T k).1 (T k).2.1 (T k).2.2.1 ∈ kT) (hfin : (T k).2.2.2 = false) (hd0 : parseFieldDescriptor (T k).2.2.1 = some ty) (hn : narrow ty v = v) (hfit : fits ty v = true) (hset : ws.set q0 (a, .inr (ci, fs.set k v)) = ws9) (hd : decode cc pc = .ok (.putfield index, 3)) (kk : kg p l e R s m args below meth c nL D A Q cells slots ws9 (pc + 3) lo st) : kg p l e R s m args below meth c nL D A Q cells slots ws pc lo (v :: .ref a :: st) := fun H locs ls hP hD hS hl => va_put cx.1 cx.2.1 cx.2.2.2.2.1 hin ty0 hty hnm cx.2.2.2.1 cx.2.2.2.2.2.1 hP hD hS q0 he hc k hk (cx.2.2.2.2.1 _ hlk) (fun _ h => h) hfin hd0 hn hfit hl9 hd (fun H1 locs1 hP1 hD1 hS1 => kk H1 locs1 ls (hset ▸ hP1) (hset ▸ hD1) hS1 hl)
theorem kg_putN (cx : kg_c p s m args meth c cc nL own D tys A) {C : String} {T : u_T} {N ci index : Nat} {fs : List Value} {a : Nat} {ws9 : va_W} (q0 k : Nat) {v : Value} {ty : FieldType} (hin : ∀ w ∈ u_ws C T N, w ∈ kT) (ty0 : Nat → FieldType) (hty : ∀ k, k < N → parseFieldDescriptor (T k).2.2.1 = some (ty0 k)) (hnm : ∀ a, a < N → ∀ b, b < N → a ≠ b → (T a).2.1 ≠ (T b).2.1) (hc : vwCl[ci]? = some (C, T, N)) (hk : k < N) (he : ws[q0]? = some (a, .inr (ci, fs))) (hl9 : k < fs.length) {host : String} (hlk : va_Nw (Cond.fieldLinkNest own index (T k).1 (T k).2.1 (T k).2.2.1 host) s) (hfin : (T k).2.2.2 = false) (hd0 : parseFieldDescriptor (T k).2.2.1 = some ty) (hn : narrow ty v = v) (hfit : fits ty v = true) (hset : ws.set q0 (a, .inr (ci, fs.set k v)) = ws9) (hd : decode cc pc = .ok (.putfield index, 3)) (kk : kg p l e R s m args below meth c nL D A Q cells slots ws9 (pc + 3) lo st) : kg p l e R s m args below meth c nL D A Q cells slots ws pc lo (v :: .ref a :: st) := fun H locs ls hP hD hS hl => va_putN cx.1 cx.2.1 cx.2.2.2.2.1 hin ty0 hty hnm cx.2.2.2.1 cx.2.2.2.2.2.1 hP hD hS q0 he hc k hk (va_Nw.use rfl hlk) (fun _ h => h) hfin hd0 hn hfit hl9 hd (fun H1 locs1 hP1 hD1 hS1 => kk H1 locs1 ls (hset ▸ hP1) (hset ▸ hD1) hS1 hl)
theorem kg_putF (cx : kg_c p s m args meth c cc nL own D tys A) {C : String} {T : u_T} {N ci index : Nat} {fs : List Value} {a : Nat} {ws9 : va_W} (q0 k : Nat) {v : Value} {ty : FieldType} (hin : ∀ w ∈ u_ws C T N, w ∈ kT) (ty0 : Nat → FieldType) (hty : ∀ k, k < N → parseFieldDescriptor (T k).2.2.1 = some (ty0 k)) (hnm : ∀ a, a < N → ∀ b, b < N → a ≠ b → (T a).2.1 ≠ (T b).2.1) (hc : vwCl[ci]? = some (C, T, N)) (hk : k < N) (he : ws[q0]? = some (a, .inr (ci, fs))) (hl9 : k < fs.length) (hlk : Cond.fieldLink own index (T k).1 (T k).2.1 (T k).2.2.1 ∈ kT) (hfin : (T k).2.2.2 = true) (hin2 : meth.name = "<init>") (hdecl : (T k).1 = own) (hd0 : parseFieldDescriptor (T k).2.2.1 = some ty) (hn : narrow ty v = v) (hfit : fits ty v = true) (hset : ws.set q0 (a, .inr (ci, fs.set k v)) = ws9) (hd : decode cc pc = .ok (.putfield index, 3)) (kk : kg p l e R s m args below meth c nL D A Q cells slots ws9 (pc + 3) lo st) : kg p l e R s m args below meth c nL D A Q cells slots ws pc lo (v :: .ref a :: st) := fun H locs ls hP hD hS hl => va_putF cx.1 cx.2.1 cx.2.2.2.2.1 hin ty0 hty hnm cx.2.2.2.1 cx.2.2.2.2.2.1 hP hD hS q0 he hc k hk (cx.2.2.2.2.1 _ hlk) (fun _ h => h) hfin hin2 hdecl hd0 hn hfit hl9 hd (fun H1 locs1 hP1 hD1 hS1 => kk H1 locs1 ls (hset ▸ hP1) (hset ▸ hD1) hS1 hl)
theorem kg_iald (cx : kg_c p s m args meth c cc nL own D tys A) (q0 t0 : Nat) {a : Nat} {cA : ClassId} {n : Nat} {f : Nat → Int32} {i : Int32} (ht : tys[t0]? = some (cA, .int)) (ha : ws[q0]? = some (a, .inl (cA, n, .inl f))) (hin : vp_in i n) (hd : decode cc pc = .ok (.iaload, 1)) (kk : kg p l e R s m args below meth c nL D A Q cells slots ws (pc + 1) lo (.int (f i.toNatClampNeg) :: st)) : kg p l e R s m args below meth c nL D A Q cells slots ws pc lo (.int i :: .ref a :: st) := fun H locs ls hP hD hS hl => va_iald cx.1 cx.2.1 cx.2.2.2.2.2.1 hP q0 t0 ha ht hin hd (kk H locs ls hP hD hS hl)
theorem kg_zald (cx : kg_c p s m args meth c cc nL own D tys A) (q0 t0 : Nat) {a : Nat} {cA : ClassId} {n : Nat} {f : Nat → Int32} {i : Int32} (ht : tys[t0]? = some (cA, .boolean)) (ha : ws[q0]? = some (a, .inl (cA, n, .inl f))) (hin : vp_in i n) (hd : decode cc pc = .ok (.baload, 1)) (kk : kg p l e R s m args below meth c nL D A Q cells slots ws (pc + 1) lo (.int (f i.toNatClampNeg) :: st)) : kg p l e R s m args below meth c nL D A Q cells slots ws pc lo (.int i :: .ref a :: st) := fun H locs ls hP hD hS hl => va_zald cx.1 cx.2.1 cx.2.2.2.2.2.1 hP q0 t0 ha ht hin hd (kk H locs ls hP hD hS hl)
theorem kg_lald (cx : kg_c p s m args meth c cc nL own D tys A) (q0 t0 : Nat) {a : Nat} {cA : ClassId} {n : Nat} {f : Nat → Int64} {i : Int32} (ht : tys[t0]? = some (cA, .long)) (ha : ws[q0]? = some (a, .inl (cA, n, .inr (.inl f)))) (hin : vp_in i n) (hd : decode cc pc = .ok (.laload, 1)) (kk : kg p l e R s m args below meth c nL D A Q cells slots ws (pc + 1) lo (.long (f i.toNatClampNeg) :: st)) : kg p l e R s m args below meth c nL D A Q cells slots ws pc lo (.int i :: .ref a :: st) := fun H locs ls hP hD hS hl => va_lald cx.1 cx.2.1 cx.2.2.2.2.2.1 hP q0 t0 ha ht hin hd (kk H locs ls hP hD hS hl)
theorem kg_aald (cx : kg_c p s m args meth c cc nL own D tys A) (q0 t0 : Nat) {a : Nat} {cA : ClassId} {C : String} {n : Nat} {f : Nat → Option Nat} {i : Int32} {v : Value} (ht : tys[t0]? = some (cA, .object C)) (ha : ws[q0]? = some (a, .inl (cA, n, .inr (.inr (.inr (.inr f)))))) (hin : vp_in i n) (hv : va_rf (f i.toNatClampNeg) = v) (hd : decode cc pc = .ok (.aaload, 1)) (kk : kg p l e R s m args below meth c nL D A Q cells slots ws (pc + 1) lo (v :: st)) : kg p l e R s m args below meth c nL D A Q cells slots ws pc lo (.int i :: .ref a :: st) := fun H locs ls hP hD hS hl => va_aldq cx.1 cx.2.1 cx.2.2.2.2.2.1 hP q0 t0 ha ht hin hd (hv ▸ kk H locs ls hP hD hS hl)
theorem kg_iast (cx : kg_c p s m args meth c cc nL own D tys A) (q0 t0 : Nat) {a : Nat} {cA : ClassId} {n : Nat} {f : Nat → Int32} {i : Int32} {x : Int32} {ws9 : va_W} (ht : tys[t0]? = some (cA, .int)) (ha : ws[q0]? = some (a, .inl (cA, n, .inl f))) (hin : vp_in i n) (hset : ws.set q0 (a, .inl (cA, n, .inl (upd f i.toNatClampNeg x))) = ws9) (hd : decode cc pc = .ok (.iastore, 1)) (kk : kg p l e R s m args below meth c nL D A Q cells slots ws9 (pc + 1) lo st) : kg p l e R s m args below meth c nL D A Q cells slots ws pc lo (.int x :: .int i :: .ref a :: st) := fun H locs ls hP hD hS hl => va_iast cx.1 cx.2.1 cx.2.2.2.2.2.1 hP hD hS q0 t0 ha ht hin hd (fun H1 locs1 hP1 hD1 hS1 => kk H1 locs1 ls (hset ▸ hP1) (hset ▸ hD1) hS1 hl)
theorem kg_zast (cx : kg_c p s m args meth c cc nL own D tys A) (q0 t0 : Nat) {a : Nat} {cA : ClassId} {n : Nat} {f : Nat → Int32} {i : Int32} {x : Int32} {ws9 : va_W} (ht : tys[t0]? = some (cA, .boolean)) (ha : ws[q0]? = some (a, .inl (cA, n, .inl f))) (hin : vp_in i n) (hset : ws.set q0 (a, .inl (cA, n, .inl (upd f i.toNatClampNeg (vp_nar .boolean x)))) = ws9) (hd : decode cc pc = .ok (.bastore, 1)) (kk : kg p l e R s m args below meth c nL D A Q cells slots ws9 (pc + 1) lo st) : kg p l e R s m args below meth c nL D A Q cells slots ws pc lo (.int x :: .int i :: .ref a :: st) := fun H locs ls hP hD hS hl => va_zast cx.1 cx.2.1 cx.2.2.2.2.2.1 hP hD hS q0 t0 ha ht hin hd (fun H1 locs1 hP1 hD1 hS1 => kk H1 locs1 ls (hset ▸ hP1) (hset ▸ hD1) hS1 hl)
theorem kg_last (cx : kg_c p s m args meth c cc nL own D tys A) (q0 t0 : Nat) {a : Nat} {cA : ClassId} {n : Nat} {f : Nat → Int64} {i : Int32} {x : Int64} {ws9 : va_W} (ht : tys[t0]? = some (cA, .long)) (ha : ws[q0]? = some (a, .inl (cA, n, .inr (.inl f)))) (hin : vp_in i n) (hset : ws.set q0 (a, .inl (cA, n, .inr (.inl (vp_updL f i.toNatClampNeg x)))) = ws9) (hd : decode cc pc = .ok (.lastore, 1)) (kk : kg p l e R s m args below meth c nL D A Q cells slots ws9 (pc + 1) lo st) : kg p l e R s m args below meth c nL D A Q cells slots ws pc lo (.long x :: .int i :: .ref a :: st) := fun H locs ls hP hD hS hl => va_last cx.1 cx.2.1 cx.2.2.2.2.2.1 hP hD hS q0 t0 ha ht hin hd (fun H1 locs1 hP1 hD1 hS1 => kk H1 locs1 ls (hset ▸ hP1) (hset ▸ hD1) hS1 hl)
theorem kg_alen (cx : kg_c p s m args meth c cc nL own D tys A) (q0 t0 : Nat) {a : Nat} {cA : ClassId} {x : vp_A} {ty : FieldType} {v : Int32} (ht : tys[t0]? = some (cA, ty)) (ha : ws[q0]? = some (a, .inl (cA, x))) (hv : Int32.ofNat x.1 = v) (hd : decode cc pc = .ok (.arraylength, 1)) (kk : kg p l e R s m args below meth c nL D A Q cells slots ws (pc + 1) lo (.int v :: st)) : kg p l e R s m args below meth c nL D A Q cells slots ws pc lo (.ref a :: st) := fun H locs ls hP hD hS hl => va_alen cx.1 cx.2.1 cx.2.2.2.2.2.1 hP q0 t0 ha ht hv hd (kk H locs ls hP hD hS hl)
theorem kg_eq {ws9 : va_W} {lo9 : List (Option Value)} {st9 : List Value} {pc9 : Nat} (h1 : ws = ws9) (h2 : pc = pc9) (h3 : lo = lo9) (h4 : st = st9) (kk : kg p l e R s m args below meth c nL D A Q cells slots ws9 pc9 lo9 st9) : kg p l e R s m args below meth c nL D A Q cells slots ws pc lo st := by
  subst h1; subst h2; subst h3; subst h4
  exact kk
theorem kg_lo {lo9 : List (Option Value)} (h : ∀ (i : Nat) (v : Value), lo9[i]? = some (some v) → lo[i]? = some (some v)) (kk : kg p l e R s m args below meth c nL D A Q cells slots ws pc lo9 st) : kg p l e R s m args below meth c nL D A Q cells slots ws pc lo st := fun H locs ls hP hD hS hl => kk H locs ls hP hD hS (hl.weak h)
theorem kg_widen {k n : Nat} (h1 : cells ≤ k) (h2 : slots ≤ n) (kk : kg p l e R s m args below meth c nL D A Q k n ws pc lo st) : kg p l e R s m args below meth c nL D A Q cells slots ws pc lo st := fun H locs ls hP hD hS hl => W.widen h1 h2 (kk H locs ls hP hD hS hl)
end KG
end
section
section KC
/-- where a method starts: its arguments, its world, the tables -/
def kc_P (D : va_G) (tys : List (ClassId × FieldType)) (w : va_W) (sz : Nat) (av : List Value) : Array Value → State → Prop := va_Pc av (fun U => U.heap.size = sz ∧ va_P D vwCl w U.heap ∧ va_K D vwCl tys U ∧ va_D (fun _ => True) w ∧ kN U)
theorem kc_P.blind {D : va_G} {tys : List (ClassId × FieldType)} {w : va_W} {sz : Nat} {av : List Value} : FrameBlind (kc_P D tys w sz av) := by
  intro a U g mk q
  obtain ⟨q0, q1, qP, qK, qD, qN⟩ := q
  exact ⟨q0, q1, qP, va_K.moved (u := U) (U := U.calling g mk a) (Vm.Alike.refl U.vm) qK, qD, kN_same (s := U) (U := U.calling g mk a) rfl qN⟩
/-- where it ends: the answer and the new world by 'post', nothing but its cells changed -/
def kc_Q {S : Type} (wo : S → va_W) (D : va_G) (post : Option Value → S → Prop) (A : Nat → Prop) : Array Value → State → Outcome → State → Prop := fun _ st oc t => (∃ (v : Option Value) (u : S), oc = .returned v ∧ post v u ∧ va_P D vwCl (wo u) t.heap) ∧ va_F A st t
abbrev kc_rm (fr lc : Nat) : Room := { frames := fr, cells := 0, slots := 0, locals := lc }
/-- a method's contract: from any heap that holds the world w it returns, and makes nothing -/
def kc (l : Launch) (y : MethodName) (cd : Cond) (fr lc : Nat) (D : va_G) (tys : List (ClassId × FieldType)) (w : va_W) (av : List Value) {S : Type} (wo : S → va_W) (post : Option Value → S → Prop) : Prop :=
  ∀ sz : Nat, Met l y (cd :: kT) (kc_rm fr lc) (kc_P D tys w sz av) (kc_Q wo D post (va_A w sz)) 0 0 (va_A w sz)
/-- the locals at a method's start -/
def kg_in (av : List Value) (nL : Nat) : List (Option Value) := av.map some ++ List.replicate (nL - av.length) none
theorem lg_len1 : ∀ (av : List Value), (∀ v ∈ av, v.category = 1) → (lg_sl av).length = av.length
  | [], _ => rfl
  | v :: t, h => by
    have h1 := h v List.mem_cons_self
    have h2 := lg_len1 t (fun w hw => h w (List.mem_cons_of_mem _ hw))
    simp only [lg_sl, List.flatMap_cons, List.length_append] at h2 ⊢
    rw [h2]
    simp [h1]
    omega
theorem lv_args1 : ∀ (av : List Value) (k : Nat), (∀ v ∈ av, v.category = 1) → ∀ (i : Nat) (v : Value), av[i]? = some v → (k + i, v) ∈ lv_args k av
  | [], k, _, i, v, hi => by simp at hi
  | w :: t, k, h, i, v, hi => by
    have h1 := h w List.mem_cons_self
    cases i with
    | zero =>
      rw [List.getElem?_cons_zero] at hi
      cases hi
      exact List.mem_cons_self
    | succ j =>
      rw [List.getElem?_cons_succ] at hi
      have h2 := lv_args1 t (k + 1) (fun w hw => h w (List.mem_cons_of_mem _ hw)) j v hi
      have e : k + (j + 1) = k + 1 + j := by omega
      rw [e]
      unfold lv_args
      rw [if_neg (by omega)]
      exact List.mem_cons_of_mem _ h2
theorem kg_in_h {av : List Value} {nL : Nat} (hav : ∀ v ∈ av, v.category = 1) (hlen : av.length ≤ nL) : kg_h ((lg_sl av ++ List.replicate (nL - (lg_sl av).length) Slot.unset).toArray) nL (kg_in av nL) := by
  refine ⟨lv_args 0 av, lv_entry av (by rw [lg_len1 av hav]; exact hlen), fun i v hi => ?_⟩
  have h1 : av[i]? = some v := by
    unfold kg_in at hi
    by_cases hl : i < av.length
    · rw [List.getElem?_append_left (by simpa using hl)] at hi
      rw [List.getElem?_map] at hi
      cases hx : av[i]? with
      | none => rw [hx] at hi; cases hi
      | some x => rw [hx] at hi; cases hi; rfl
    · rw [List.getElem?_append_right (by simpa using Nat.not_lt.mp hl)] at hi
      rw [List.getElem?_replicate] at hi
      split at hi <;> cases hi
  have h2 := lv_args1 av 0 hav i v h1
  rw [Nat.zero_add] at h2
  exact ⟨h2, hav v (List.mem_of_getElem? h1)⟩
theorem kc.mk {l : Launch} {y : MethodName} {cc : ByteArray} {nL fr lc : Nat} {ret : Option FieldType} {D : va_G} {tys : List (ClassId × FieldType)} {w : va_W} {av : List Value} {S : Type} {wo : S → va_W} {post : Option Value → S → Prop}
    (hy : plainName y.cls = true) (hav : ∀ v ∈ av, v.category = 1) (hlen : av.length ≤ nL)
    (body : ∀ (p : Program) (e : Env) (s : State) (m : MethodId) (args : Array Value) (below : List Frame) (meth : Method) (c : Code), kg_c p s m args meth c cc nL y.cls D tys (va_A w s.heap.size) → meth.sig.returnType = ret →
      kg p l e (kc_rm fr lc) s m args below meth c nL D (va_A w s.heap.size) (MQ below (kc_Q wo D post (va_A w s.heap.size)) args s 0 0 (va_A w s.heap.size)) 0 0 w 0 (kg_in av nL) []) :
    kc l y (Cond.code y cc nL ret) fr lc D tys w av wo post := by
  intro sz
  refine Met.ofW (cc := cc) (maxL := nL) (ret := ret) hy rfl ?_
  intro p e s m args below meth c s₁ B hml hv
  obtain ⟨rfl, hsz, hP, hK, hD0, hN⟩ := hv
  subst hsz
  have hts := atoms_spec (ws := Cond.code y cc nL ret :: kT) B.pre
  rw [lg_entry_eq]
  exact body p e s m _ below meth c ⟨B.exec, B.bytes, hml, findClass_of_methodNamed B.named, fun w9 h9 => hts w9 (List.mem_cons_of_mem _ h9), hK, fun q h => Or.inr h, B.notSynchronized, hN⟩ B.returns s.heap [] _ hP hD0.self va_S.rf (kg_in_h hav hlen)
theorem va_D_adr {A : Nat → Prop} {w w9 : va_W} (h : w9.map Prod.fst = w.map Prod.fst) (hD : va_D A w) : va_D A w9 := by
  have key : ∀ (k : Nat) (q : Nat × va_E), w9[k]? = some q → ∃ q0, w[k]? = some q0 ∧ q0.1 = q.1 := by
    intro k q hk
    have h1 : (w9.map Prod.fst)[k]? = some q.1 := by rw [List.getElem?_map, hk]; rfl
    rw [h, List.getElem?_map] at h1
    cases hx : w[k]? with
    | none => rw [hx] at h1; cases h1
    | some x => rw [hx] at h1; exact ⟨x, rfl, Option.some.inj h1⟩
  refine ⟨fun i j x y hi hj hxy => ?_, fun k q hk => ?_⟩
  · obtain ⟨x0, a1, a2⟩ := key i x hi
    obtain ⟨y0, b1, b2⟩ := key j y hj
    exact hD.1 i j x0 y0 a1 b1 (a2.trans (hxy.trans b2.symm))
  · obtain ⟨q0, a1, a2⟩ := key k q hk
    rw [← a2]
    exact hD.2 k q0 a1
variable {p : Program} {l : Launch} {e : Env} {R : Room} {s : State} {m : MethodId} {args : Array Value} {below : List Frame} {meth : Method} {c : Code} {cells slots : Nat} {Q : State → Prop}
variable {cc : ByteArray} {nL : Nat} {own : String} {D : va_G} {tys : List (ClassId × FieldType)} {A : Nat → Prop} {ws : va_W} {pc : Nat} {lo : List (Option Value)} {st : List Value}
theorem va_A_in {A : Nat → Prop} {ws : va_W} {H0 H : Heap} {locs : List Loc} (hD : va_D A ws) (hS : va_S A H0 H locs) (hA : ∀ q : Nat, H0.size ≤ q → A q) : ∀ q, va_A ws H.size q → A q := by
  intro q h
  rcases h with ⟨k, e9, h⟩ | h
  · exact hD.2 k (q, e9) h
  · exact hA q (Nat.le_trans hS.1 h)
/-- behind a call that had the whole world -/
theorem kg_run {S : Type} {wo : S → va_W} {post : Option Value → S → Prop} {rest : List Value} {a : Array Value} (cx : kg_c p s m args meth c cc nL own D tys A)
    (hrun : ∀ (H : Heap) (locs : List Loc) (ls : Array Slot), va_P D vwCl ws H → va_D A ws → va_S A s.heap H locs → kg_h ls nL lo → va_Run p l e R s m args below meth c H locs cells slots 0 0 (F0 m pc ls st) rest (kc_Q wo D post (va_A ws H.size) a) (va_A ws H.size))
    (hadr : ∀ u, (wo u).map Prod.fst = ws.map Prod.fst)
    (kk : ∀ (v : Option Value) (u : S), post v u → kg p l e R s m args below meth c nL D A Q cells slots (wo u) (pc + 3) lo (v.toList ++ rest)) : kg p l e R s m args below meth c nL D A Q cells slots ws pc lo st := by
  intro H locs ls hP hD hS hl T hT X
  obtain ⟨v, st₀, t, T', L, h0, X', hL, e1, e2, ⟨⟨v', u, hv, hp, hb⟩, hF⟩, st9⟩ := hrun H locs ls hP hD hS hl T hT X
  cases hv
  have hf := va_A_in hD hS cx.2.2.2.2.2.2.1
  obtain ⟨k1, k2, k3⟩ := vx_keep h0 e1 hS (fun q _ h => hf q h) hf hL hF
  obtain ⟨t2, a1, b1⟩ := kk v u hp T'.heap (locs ++ L) ls (by rw [e1]; exact hb) (va_D_adr (hadr u) hD) k3 hl T' rfl X'
  exact ⟨t2, st9 t2 a1, b1⟩
theorem kc_pre (cx : kg_c p s m args meth c cc nL own D tys A) {H : Heap} {av : List Value} (hP : va_P D vwCl ws H) (hD : va_D A ws) : ∀ U : State, U.heap = H → s.WarmedH U.vm → kc_P D tys ws H.size av av.toArray U := by
  intro U hU hW
  exact ⟨rfl, by rw [hU], by rw [hU]; exact hP, va_K.moved hW.alike cx.2.2.2.2.2.1, hD.weaken (fun _ _ _ _ => trivial), kN_moved hW cx.2.2.2.2.2.2.2.2⟩
theorem kc_room {k : Nat} {rest : List Value} {ls : Array Slot} (h : (rest.map fun v => v.category).sum ≤ 8) : 2 * (F0 m pc ls st).monitorRoom + (rest.map fun v => v.category).sum ≤ 8 := lv_room (rest := st) h
theorem kg_callV (cx : kg_c p s m args meth c cc nL own D tys A) {S : Type} {wo : S → va_W} {post : Option Value → S → Prop} {y : MethodName} {bytes : ByteArray} {maxL fr lc index ci N b na : Nat} {ret : Option FieldType} {C : String} {T : u_T} {fs As rest : List Value}
    (hM : kc l y (Cond.code y bytes maxL ret) fr lc D tys ws (.ref b :: As) wo post) (q0 : Nat) (hc : vwCl[ci]? = some (C, T, N)) (he : ws[q0]? = some (b, .inr (ci, fs)))
    (hcd : Cond.code y bytes maxL ret ∈ kT) (hlk : Cond.methodLink own index y ∈ kT) (hini : Cond.initialized y.cls ∈ kT) (him : Cond.instanceMethod y ∈ kT) (hsl : Cond.selects C y y ∈ kT)
    (hd9 : y.cls ≠ "java/lang/invoke/MethodHandle" ∧ y.cls ≠ "java/lang/invoke/VarHandle" ∧ (parseMethodDescriptor y.desc).map (fun d => d.parameters.length) = some na) (hna : As.length = na)
    (hR : fr + 1 ≤ R.frames ∧ 8 + (maxL + 11) + lc ≤ R.locals) (hf : cells ≤ R.cells ∧ slots ≤ R.slots) (hst : st = As.reverse ++ .ref b :: rest) (hw : (rest.map fun v => v.category).sum ≤ 8) (hd : decode cc pc = .ok (.invokevirtual index, 3))
    (hadr : ∀ u, (wo u).map Prod.fst = ws.map Prod.fst)
    (kk : ∀ (v : Option Value) (u : S), post v u → kg p l e R s m args below meth c nL D A Q cells slots (wo u) (pc + 3) lo (v.toList ++ rest)) : kg p l e R s m args below meth c nL D A Q cells slots ws pc lo st := by
  refine kg_run (a := (Value.ref b :: As).toArray) cx (fun H locs ls hP hD hS hl => ?_) hadr kk
  have ht := cx.2.2.2.2.1
  exact va_runV (Ts := kT) (C := C) (b := b) (As := As) (rest := rest) ⟨cx.1, cx.2.1, cx.2.2.1, cx.2.2.2.1, ht⟩ (hM H.size) ⟨callB_of (ws' := kT) na ht (kT_good hcd (List.mem_filter.mp hcd).2 (fun _ h => h)) rfl rfl rfl (ht _ hini) (ht _ hlk) hd9 hR, ht _ him, ht _ hsl⟩ ⟨kc_P.blind, va_recv cx.2.2.2.2.2.1 hP hc he, kc_pre cx hP hD⟩ rfl hna hl.size hst (lv_room (rest := st) hw) hd hf
theorem kg_callVN (cx : kg_c p s m args meth c cc nL own D tys A) {S : Type} {wo : S → va_W} {post : Option Value → S → Prop} {y : MethodName} {bytes : ByteArray} {maxL fr lc index ci N b na : Nat} {ret : Option FieldType} {C host : String} {T : u_T} {fs As rest : List Value}
    (hM : kc l y (Cond.code y bytes maxL ret) fr lc D tys ws (.ref b :: As) wo post) (q0 : Nat) (hc : vwCl[ci]? = some (C, T, N)) (he : ws[q0]? = some (b, .inr (ci, fs)))
    (hcd : Cond.code y bytes maxL ret ∈ kT) (hlk : va_Nw (Cond.methodLinkNest own index y host) s) (hini : Cond.initialized y.cls ∈ kT) (him : Cond.instanceMethod y ∈ kT) (hsl : Cond.selects C y y ∈ kT)
    (hd9 : y.cls ≠ "java/lang/invoke/MethodHandle" ∧ y.cls ≠ "java/lang/invoke/VarHandle" ∧ (parseMethodDescriptor y.desc).map (fun d => d.parameters.length) = some na) (hna : As.length = na)
    (hR : fr + 1 ≤ R.frames ∧ 8 + (maxL + 11) + lc ≤ R.locals) (hf : cells ≤ R.cells ∧ slots ≤ R.slots) (hst : st = As.reverse ++ .ref b :: rest) (hw : (rest.map fun v => v.category).sum ≤ 8) (hd : decode cc pc = .ok (.invokevirtual index, 3))
    (hadr : ∀ u, (wo u).map Prod.fst = ws.map Prod.fst)
    (kk : ∀ (v : Option Value) (u : S), post v u → kg p l e R s m args below meth c nL D A Q cells slots (wo u) (pc + 3) lo (v.toList ++ rest)) : kg p l e R s m args below meth c nL D A Q cells slots ws pc lo st := by
  refine kg_run (a := (Value.ref b :: As).toArray) cx (fun H locs ls hP hD hS hl => ?_) hadr kk
  have ht := cx.2.2.2.2.1
  exact va_runVN (Ts := kT) (C := C) (b := b) (As := As) (rest := rest) ⟨cx.1, cx.2.1, cx.2.2.1, cx.2.2.2.1, ht⟩ (hM H.size) ⟨va_cnB (ws' := kT) na ht (kT_good hcd (List.mem_filter.mp hcd).2 (fun _ h => h)) rfl rfl rfl hlk (ht _ hini) hd9 hR, ht _ him, ht _ hsl⟩ ⟨kc_P.blind, va_recv cx.2.2.2.2.2.1 hP hc he, kc_pre cx hP hD⟩ rfl hna hl.size hst (lv_room (rest := st) hw) hd hf
theorem kg_callS (cx : kg_c p s m args meth c cc nL own D tys A) {S : Type} {wo : S → va_W} {post : Option Value → S → Prop} {y : MethodName} {bytes : ByteArray} {maxL fr lc index na : Nat} {ret : Option FieldType} {As rest : List Value}
    (hM : kc l y (Cond.code y bytes maxL ret) fr lc D tys ws As wo post)
    (hcd : Cond.code y bytes maxL ret ∈ kT) (hlk : Cond.methodLink own index y ∈ kT) (hini : Cond.initialized y.cls ∈ kT) (hstt : Cond.static y ∈ kT)
    (hd9 : y.cls ≠ "java/lang/invoke/MethodHandle" ∧ y.cls ≠ "java/lang/invoke/VarHandle" ∧ (parseMethodDescriptor y.desc).map (fun d => d.parameters.length) = some na) (hna : As.length = na)
    (hR : fr + 1 ≤ R.frames ∧ 8 + (maxL + 11) + lc ≤ R.locals) (hf : cells ≤ R.cells ∧ slots ≤ R.slots) (hst : st = As.reverse ++ rest) (hw : (rest.map fun v => v.category).sum ≤ 8) (hd : decode cc pc = .ok (.invokestatic index, 3))
    (hadr : ∀ u, (wo u).map Prod.fst = ws.map Prod.fst)
    (kk : ∀ (v : Option Value) (u : S), post v u → kg p l e R s m args below meth c nL D A Q cells slots (wo u) (pc + 3) lo (v.toList ++ rest)) : kg p l e R s m args below meth c nL D A Q cells slots ws pc lo st := by
  refine kg_run (a := As.toArray) cx (fun H locs ls hP hD hS hl => ?_) hadr kk
  have ht := cx.2.2.2.2.1
  exact va_runS (Ts := kT) (As := As) (rest := rest) ⟨cx.1, cx.2.1, cx.2.2.1, cx.2.2.2.1, ht⟩ (hM H.size) ⟨callB_of (ws' := kT) na ht (kT_good hcd (List.mem_filter.mp hcd).2 (fun _ h => h)) rfl rfl rfl (ht _ hini) (ht _ hlk) hd9 hR, ht _ hstt⟩ ⟨kc_P.blind, kc_pre cx hP hD⟩ rfl hna hl.size hst (lv_room (rest := st) hw) hd hf
theorem kg_ireturn (cx : kg_c p s m args meth c cc nL own D tys A) {S : Type} {wo : S → va_W} {post : Option Value → S → Prop} {ty : FieldType} {v : Int32} (hr : meth.sig.returnType = some ty) (hn : narrow ty (.int v) = .int v) (u : S) (hu : ws = wo u) (hp : post (some (.int v)) u) (hd : decode cc pc = .ok (.ireturn, 1)) : kg p l e R s m args below meth c nL D A (MQ below (kc_Q wo D post A) args s cells slots A) cells slots ws pc lo [.int v] := by
  subst hu
  intro H locs ls hP hD hS hl
  exact W.zret cx.1 cx.2.1 hr hn (fun t ht hW => ⟨⟨_, u, rfl, hp, by rw [ht]; exact hP⟩, hS.F ht⟩) hS.2.2 hd cx.2.2.2.2.2.2.2.1
theorem kg_return (cx : kg_c p s m args meth c cc nL own D tys A) {S : Type} {wo : S → va_W} {post : Option Value → S → Prop} (hr : meth.sig.returnType = none) (u : S) (hu : ws = wo u) (hp : post none u) (hd : decode cc pc = .ok (.return_, 1)) : kg p l e R s m args below meth c nL D A (MQ below (kc_Q wo D post A) args s cells slots A) cells slots ws pc lo [] := by
  subst hu
  intro H locs ls hP hD hS hl
  exact W.vret cx.1 cx.2.1 hr (fun t ht hW => ⟨⟨_, u, rfl, hp, by rw [ht]; exact hP⟩, hS.F ht⟩) hS.2.2 hd cx.2.2.2.2.2.2.2.1
end KC
end
section
section KM
variable {p : Program} {l : Launch} {e : Env} {R : Room} {s : State} {m : MethodId} {args : Array Value} {below : List Frame} {meth : Method} {c : Code} {cells slots : Nat} {Q : State → Prop}
variable {cc : ByteArray} {nL : Nat} {own : String} {D : va_G} {tys : List (ClassId × FieldType)} {A : Nat → Prop} {ws : va_W} {pc : Nat} {lo : List (Option Value)} {st : List Value}
theorem kg_aaldA (cx : kg_c p s m args meth c cc nL own D tys A) (q0 t0 : Nat) {a : Nat} {cA : ClassId} {t : FieldType} {n : Nat} {f : Nat → Option Nat} {i : Int32} {v : Value} (ht : tys[t0]? = some (cA, .array t)) (ha : ws[q0]? = some (a, .inl (cA, n, .inr (.inr (.inr (.inr f)))))) (hin : vp_in i n) (hv : va_rf (f i.toNatClampNeg) = v) (hd : decode cc pc = .ok (.aaload, 1)) (kk : kg p l e R s m args below meth c nL D A Q cells slots ws (pc + 1) lo (v :: st)) : kg p l e R s m args below meth c nL D A Q cells slots ws pc lo (.int i :: .ref a :: st) := by
  intro H locs ls hP hD hS hl
  have hlt : i.toNatClampNeg < n := Nat.not_le.mp fun q => hin (Or.inr q)
  exact W.aald (v := v) (ty := .array t) cx.1 cx.2.1 (hP q0 _ ha) ((cx.2.2.2.2.2.1.2 t0 _ ht).1 n (fun j => va_rf (f j))) rfl (fun q => by cases q) (by show ¬ (i < 0 ∨ (arrV _ _ _).slots.size ≤ _); rw [arrV_size]; exact hin) (by show (arrV _ _ _).slots[_]? = _; rw [arrV_read _ _ hlt, hv]) rfl rfl hd (kk H locs ls hP hD hS hl)
theorem kg_copyi (cx : kg_c p s m args meth c cc nL own D tys A) {index : Nat} (q0 q1 t0 : Nat) {a a0 : Nat} {c0 : ClassId} {n0 n1 : Nat} {f g : Nat → Int32} {ws9 : va_W} {n : Int32} {N : Nat} (hlk : Cond.methodLink own index arraycopyName ∈ kT) (ht : tys[t0]? = some (c0, .int)) (ha0 : ws[q0]? = some (a0, .inl (c0, n0, .inl f))) (ha1 : ws[q1]? = some (a, .inl (c0, n1, .inl g))) (hn : ¬ n < 0) (hN : n.toNatClampNeg = N) (h4 : N ≤ n0) (h5 : N ≤ n1)
    (hR : 1 ≤ R.frames ∧ (st.map fun v => v.category).sum + (nativeFrameWords "java/lang/System" "arraycopy" 5 + 11) ≤ R.locals) (hset : ws.set q1 (a, .inl (c0, n1, .inl (va_cpy f g 0 0 N))) = ws9) (hd : decode cc pc = .ok (.invokestatic index, 3)) (kk : kg p l e R s m args below meth c nL D A Q cells slots ws9 (pc + 3) lo st) : kg p l e R s m args below meth c nL D A Q cells slots ws pc lo (.int n :: .int 0 :: .ref a :: .int 0 :: .ref a0 :: st) := by
  intro H locs ls hP hD hS hl
  subst hN
  have ht9 := cx.2.2.2.2.1
  have z : (0 : Int32).toNatClampNeg = 0 := rfl
  refine va_copyi (ty := .int) cx.1 cx.2.1 (cx.2.2.1.trans hl.size.symm) cx.2.2.2.1 (ht9 _ hlk) (ht9 _ knt_arraycopyName) (ht9 _ kst_arraycopyName) (ht9 _ kin_J10) cx.2.2.2.2.2.1 hP hD hS q0 q1 t0 t0 ha0 ha1 ht ht rfl (by decide) (by decide) hn (by rw [z, Nat.zero_add]; exact h4) (by rw [z, Nat.zero_add]; exact h5) (fun _ _ => rfl) hR.1 hR.2 hd (fun H1 locs1 hP1 hD1 hS1 => ?_)
  rw [z, hset] at hP1 hD1
  exact kk H1 locs1 ls hP1 hD1 hS1 hl
theorem kg_mmax (cx : kg_c p s m args meth c cc nL own D tys A) {index : Nat} {x y : Int32} (hlk : Cond.methodLink own index Lib.Math.max.name ∈ kT) (hR : 1 ≤ R.frames ∧ (st.map fun v => v.category).sum + 13 ≤ R.locals) (hf : cells ≤ R.cells ∧ slots ≤ R.slots) (hd : decode cc pc = .ok (.invokestatic index, 3)) (kk : kg p l e R s m args below meth c nL D A Q cells slots ws (pc + 3) lo (.int (if x < y then y else x) :: st)) : kg p l e R s m args below meth c nL D A Q cells slots ws pc lo (.int y :: .int x :: st) := fun H locs ls hP hD hS hl =>
  va_mmax cx.1 cx.2.1 (cx.2.2.1.trans hl.size.symm) cx.2.2.2.1 (cx.2.2.2.2.1 _ hlk) (cx.2.2.2.2.1 _ kst_Lib_Math_max_name) (cx.2.2.2.2.1 _ kin_J9) (cx.2.2.2.2.1 _ kcd_Math_max) hR.1 hR.2 hf.1 hf.2 hd (kk H locs ls hP hD hS hl)
theorem kg_mmin (cx : kg_c p s m args meth c cc nL own D tys A) {index : Nat} {x y : Int32} (hlk : Cond.methodLink own index Lib.Math.min.name ∈ kT) (hR : 1 ≤ R.frames ∧ (st.map fun v => v.category).sum + 13 ≤ R.locals) (hf : cells ≤ R.cells ∧ slots ≤ R.slots) (hd : decode cc pc = .ok (.invokestatic index, 3)) (kk : kg p l e R s m args below meth c nL D A Q cells slots ws (pc + 3) lo (.int (if y < x then y else x) :: st)) : kg p l e R s m args below meth c nL D A Q cells slots ws pc lo (.int y :: .int x :: st) := fun H locs ls hP hD hS hl =>
  va_mmin cx.1 cx.2.1 (cx.2.2.1.trans hl.size.symm) cx.2.2.2.1 (cx.2.2.2.2.1 _ hlk) (cx.2.2.2.2.1 _ kst_Lib_Math_min_name) (cx.2.2.2.2.1 _ kin_J9) (cx.2.2.2.2.1 _ kcd_Math_min) hR.1 hR.2 hf.1 hf.2 hd (kk H locs ls hP hD hS hl)
end KM
end
section
section KW
/-- what an object of the system holds: field F, of the thing i, at the place j -/
abbrev kS : Type := Nat → Nat → Nat → Int32
def ku (u : kS) (F i j : Nat) (v : Int32) : kS := fun F' i' j' => if F' = F ∧ i' = i ∧ j' = j then v else u F' i' j'
theorem ku_s (u : kS) (F i j : Nat) (v : Int32) : ku u F i j v F i j = v := by simp [ku]
theorem ku_F {u : kS} {F F' i j i' j' : Nat} {v : Int32} (h : F' ≠ F) : ku u F i j v F' i' j' = u F' i' j' := by simp [ku, h]
theorem ku_i {u : kS} {F F' i j i' j' : Nat} {v : Int32} (h : i' ≠ i) : ku u F i j v F' i' j' = u F' i' j' := by simp [ku, h]
theorem ku_j {u : kS} {F F' i j i' j' : Nat} {v : Int32} (h : j' ≠ j) : ku u F i j v F' i' j' = u F' i' j' := by simp [ku, h]
/-- the row of nine numbers (G, b) is laid over (F, a) -/
def kcp (u : kS) (F a G b : Nat) : kS := fun F' i j => if F' = F ∧ i = a ∧ j < 9 then u G b j else u F' i j
/-- x at the first N places of the column F -/
def kfl (u : kS) (F N : Nat) (x : Int32) : kS := fun F' i j => if F' = F ∧ i < N ∧ j = 0 then x else u F' i j
/-- x at the first N places of the row (F, a) -/
def kfr (u : kS) (F a N : Nat) (x : Int32) : kS := fun F' i j => if F' = F ∧ i = a ∧ j < N then x else u F' i j
/-- the classes of the arrays -/
def kty (c : Nat → ClassId) : List (ClassId × FieldType) := [(c 0, .int), (c 1, .boolean), (c 2, .object RX0), (c 3, .array .int), (c 4, .long)]
/-- ClockPool's cells: ad k i is the address of the i-th of kind k. Fields: 0 disk, 1 page, 2 pins, 3 dirty, 4 marked, 5 row, 6 hand, 7 written, 8 come, 9 cells, 10 undone, 11 lastUpdate, 12 lastOver, 13 openUpdates, 14 size, 15 flushed, 16 active, 17 abortBegun, 18 crashes, 19 undoneByCrash -/
def kw_f (ad : Nat → Nat → Nat) (c : Nat → ClassId) (n : Nat) (u : kS) : va_W := [
  (ad 0 0, .inr (3, [.ref (ad 1 0), .ref (ad 2 0), .ref (ad 5 0), .ref (ad 6 0), .int (u 18 0 0), .int (u 19 0 0)])),
  (ad 1 0, .inr (2, [.ref (ad 3 0), .ref (ad 4 0), .int (u 6 0 0), .int (u 7 0 0), .int (u 8 0 0)])),
  (ad 2 0, .inr (1, [.ref (ad 7 0), .ref (ad 8 0), .ref (ad 9 0), .ref (ad 10 0), .ref (ad 11 0), .int (u 14 0 0), .int (u 15 0 0)])),
  (ad 3 0, .inl (c 3, 32, .inr (.inr (.inr (.inr (fun i => if i < 32 then some (ad 12 i) else none)))))),
  (ad 4 0, .inl (c 2, n, .inr (.inr (.inr (.inr (fun i => if i < n then some (ad 13 i) else none)))))),
  (ad 5 0, .inl (c 1, 8, .inl (fun j => u 16 j 0))),
  (ad 6 0, .inl (c 1, 8, .inl (fun j => u 17 j 0))),
  (ad 7 0, .inl (c 0, 2807, .inl (fun j => u 9 (j / 7) (j % 7)))),
  (ad 8 0, .inl (c 1, 401, .inl (fun j => u 10 j 0))),
  (ad 9 0, .inl (c 0, 8, .inl (fun j => u 11 j 0))),
  (ad 10 0, .inl (c 0, 8, .inl (fun j => u 12 j 0))),
  (ad 11 0, .inl (c 0, 8, .inl (fun j => u 13 j 0)))]
def kw_d (ad : Nat → Nat → Nat) (c : Nat → ClassId) (u : kS) (i : Nat) : Nat × va_E := (ad 12 i, .inl (c 0, 9, .inl (fun k => u 0 i k)))
def kw_o (ad : Nat → Nat → Nat) (u : kS) (i : Nat) : Nat × va_E := (ad 13 i, .inr (0, [.ref (ad 14 i), .int (u 1 i 0), .int (u 2 i 0), .int (u 3 i 0), .int (u 4 i 0)]))
def kw_r (ad : Nat → Nat → Nat) (c : Nat → ClassId) (u : kS) (i : Nat) : Nat × va_E := (ad 14 i, .inl (c 0, 9, .inl (fun k => u 5 i k)))
def kw (ad : Nat → Nat → Nat) (c : Nat → ClassId) (n : Nat) (u : kS) : va_W := kw_f ad c n u ++ ((List.range 32).map (kw_d ad c u) ++ ((List.range n).map (kw_o ad u) ++ (List.range n).map (kw_r ad c u)))
variable {ad : Nat → Nat → Nat} {c : Nat → ClassId} {n : Nat} {u : kS}
theorem kr_at {α : Type} (f : Nat → α) {n i : Nat} (h : i < n) : ((List.range n).map f)[i]? = some (f i) := by
  rw [List.getElem?_map, List.getElem?_range h]
  rfl
theorem kr_set {α : Type} {f g : Nat → α} {n i : Nat} {x : α} (hx : x = g i) (ho : ∀ j, j ≠ i → f j = g j) : ((List.range n).map f).set i x = (List.range n).map g := by
  apply List.ext_getElem?
  intro k
  by_cases e : k = i
  · subst e
    by_cases h : k < n
    · rw [List.getElem?_set_self (by simpa using h), kr_at g h, hx]
    · rw [List.getElem?_eq_none (by simpa using Nat.not_lt.mp h), List.getElem?_eq_none (by simpa using Nat.not_lt.mp h)]
  · rw [List.getElem?_set_ne (Ne.symm e), List.getElem?_map, List.getElem?_map]
    cases hk : (List.range n)[k]? with
    | none => rfl
    | some j =>
      have hj : j = k := by
        have h1 := (List.getElem?_eq_some_iff.mp hk)
        obtain ⟨h2, h3⟩ := h1
        rw [← h3]; simp
      subst hj
      show some (f j) = some (g j)
      rw [ho j e]
theorem kw_adr (u v : kS) : (kw ad c n u).map Prod.fst = (kw ad c n v).map Prod.fst := by
  simp [kw, kw_f, kw_d, kw_o, kw_r, Function.comp_def]
theorem kw_at_d {i : Nat} (h : i < 32) : (kw ad c n u)[12 + i]? = some (kw_d ad c u i) := by
  unfold kw
  rw [List.getElem?_append_right (by simp [kw_f])]
  rw [show 12 + i - (kw_f ad c n u).length = i by simp [kw_f]]
  rw [List.getElem?_append_left (by simpa using h)]
  exact kr_at _ h
theorem kw_at_o {i : Nat} (h : i < n) : (kw ad c n u)[44 + i]? = some (kw_o ad u i) := by
  unfold kw
  rw [List.getElem?_append_right (by simp [kw_f]; omega)]
  rw [show 44 + i - (kw_f ad c n u).length = 32 + i by simp [kw_f]; omega]
  rw [List.getElem?_append_right (by simp)]
  rw [show 32 + i - ((List.range 32).map (kw_d ad c u)).length = i by simp]
  rw [List.getElem?_append_left (by simpa using h)]
  exact kr_at _ h
theorem kw_at_r {i : Nat} (h : i < n) : (kw ad c n u)[44 + n + i]? = some (kw_r ad c u i) := by
  unfold kw
  rw [List.getElem?_append_right (by simp [kw_f]; omega)]
  rw [show 44 + n + i - (kw_f ad c n u).length = 32 + n + i by simp [kw_f]; omega]
  rw [List.getElem?_append_right (by simp; omega)]
  rw [show 32 + n + i - ((List.range 32).map (kw_d ad c u)).length = n + i by simp; omega]
  rw [List.getElem?_append_right (by simp)]
  rw [show n + i - ((List.range n).map (kw_o ad u)).length = i by simp]
  exact kr_at _ h
theorem kw_set_f {i : Nat} {x : Nat × va_E} {v : kS} (hi : i < 12) (h1 : (kw_f ad c n u).set i x = kw_f ad c n v) (h2 : kw_d ad c u = kw_d ad c v) (h3 : kw_o ad u = kw_o ad v) (h4 : kw_r ad c u = kw_r ad c v) : (kw ad c n u).set i x = kw ad c n v := by
  unfold kw
  rw [List.set_append_left _ _ (by simp [kw_f]; omega), h1, h2, h3, h4]
theorem kw_set_d {i : Nat} {x : Nat × va_E} {v : kS} (h1 : kw_f ad c n u = kw_f ad c n v) (h2 : x = kw_d ad c v i) (h2o : ∀ j, j ≠ i → kw_d ad c u j = kw_d ad c v j) (hi : i < 32) (h3 : kw_o ad u = kw_o ad v) (h4 : kw_r ad c u = kw_r ad c v) : (kw ad c n u).set (12 + i) x = kw ad c n v := by
  unfold kw
  rw [List.set_append_right _ _ (by simp [kw_f]), show 12 + i - (kw_f ad c n u).length = i by simp [kw_f], List.set_append_left _ _ (by simpa using hi), kr_set h2 h2o, h1, h3, h4]
theorem kw_set_o {i : Nat} {x : Nat × va_E} {v : kS} (h1 : kw_f ad c n u = kw_f ad c n v) (h2 : kw_d ad c u = kw_d ad c v) (h3 : x = kw_o ad v i) (h3o : ∀ j, j ≠ i → kw_o ad u j = kw_o ad v j) (hi : i < n) (h4 : kw_r ad c u = kw_r ad c v) : (kw ad c n u).set (44 + i) x = kw ad c n v := by
  unfold kw
  rw [List.set_append_right _ _ (by simp [kw_f]; omega), show 44 + i - (kw_f ad c n u).length = 32 + i by simp [kw_f]; omega, List.set_append_right _ _ (by simp), show 32 + i - ((List.range 32).map (kw_d ad c u)).length = i by simp, List.set_append_left _ _ (by simpa using hi), kr_set h3 h3o, h1, h2, h4]
theorem kw_set_r {i : Nat} {x : Nat × va_E} {v : kS} (h1 : kw_f ad c n u = kw_f ad c n v) (h2 : kw_d ad c u = kw_d ad c v) (h3 : kw_o ad u = kw_o ad v) (h4 : x = kw_r ad c v i) (h4o : ∀ j, j ≠ i → kw_r ad c u j = kw_r ad c v j) : (kw ad c n u).set (44 + n + i) x = kw ad c n v := by
  unfold kw
  rw [List.set_append_right _ _ (by simp [kw_f]; omega), show 44 + n + i - (kw_f ad c n u).length = 32 + n + i by simp [kw_f]; omega, List.set_append_right _ _ (by simp; omega), show 32 + n + i - ((List.range 32).map (kw_d ad c u)).length = n + i by simp; omega, List.set_append_right _ _ (by simp), show n + i - ((List.range n).map (kw_o ad u)).length = i by simp, kr_set h4 h4o, h1, h2, h3]
theorem ks_crashes (x : Int32) : (kw ad c n u).set 0 (ad 0 0, .inr (3, [.ref (ad 1 0), .ref (ad 2 0), .ref (ad 5 0), .ref (ad 6 0), .int x, .int (u 19 0 0)])) = kw ad c n (ku u 18 0 0 x) := kw_set_f (by decide) (by simp [kw_f, ku]) (by funext i; simp [kw_d, ku]) (by funext i; simp [kw_o, ku]) (by funext i; simp [kw_r, ku])
theorem ks_undoneByCrash (x : Int32) : (kw ad c n u).set 0 (ad 0 0, .inr (3, [.ref (ad 1 0), .ref (ad 2 0), .ref (ad 5 0), .ref (ad 6 0), .int (u 18 0 0), .int x])) = kw ad c n (ku u 19 0 0 x) := kw_set_f (by decide) (by simp [kw_f, ku]) (by funext i; simp [kw_d, ku]) (by funext i; simp [kw_o, ku]) (by funext i; simp [kw_r, ku])
theorem ks_hand (x : Int32) : (kw ad c n u).set 1 (ad 1 0, .inr (2, [.ref (ad 3 0), .ref (ad 4 0), .int x, .int (u 7 0 0), .int (u 8 0 0)])) = kw ad c n (ku u 6 0 0 x) := kw_set_f (by decide) (by simp [kw_f, ku]) (by funext i; simp [kw_d, ku]) (by funext i; simp [kw_o, ku]) (by funext i; simp [kw_r, ku])
theorem ks_written (x : Int32) : (kw ad c n u).set 1 (ad 1 0, .inr (2, [.ref (ad 3 0), .ref (ad 4 0), .int (u 6 0 0), .int x, .int (u 8 0 0)])) = kw ad c n (ku u 7 0 0 x) := kw_set_f (by decide) (by simp [kw_f, ku]) (by funext i; simp [kw_d, ku]) (by funext i; simp [kw_o, ku]) (by funext i; simp [kw_r, ku])
theorem ks_come (x : Int32) : (kw ad c n u).set 1 (ad 1 0, .inr (2, [.ref (ad 3 0), .ref (ad 4 0), .int (u 6 0 0), .int (u 7 0 0), .int x])) = kw ad c n (ku u 8 0 0 x) := kw_set_f (by decide) (by simp [kw_f, ku]) (by funext i; simp [kw_d, ku]) (by funext i; simp [kw_o, ku]) (by funext i; simp [kw_r, ku])
theorem ks_size (x : Int32) : (kw ad c n u).set 2 (ad 2 0, .inr (1, [.ref (ad 7 0), .ref (ad 8 0), .ref (ad 9 0), .ref (ad 10 0), .ref (ad 11 0), .int x, .int (u 15 0 0)])) = kw ad c n (ku u 14 0 0 x) := kw_set_f (by decide) (by simp [kw_f, ku]) (by funext i; simp [kw_d, ku]) (by funext i; simp [kw_o, ku]) (by funext i; simp [kw_r, ku])
theorem ks_flushed (x : Int32) : (kw ad c n u).set 2 (ad 2 0, .inr (1, [.ref (ad 7 0), .ref (ad 8 0), .ref (ad 9 0), .ref (ad 10 0), .ref (ad 11 0), .int (u 14 0 0), .int x])) = kw ad c n (ku u 15 0 0 x) := kw_set_f (by decide) (by simp [kw_f, ku]) (by funext i; simp [kw_d, ku]) (by funext i; simp [kw_o, ku]) (by funext i; simp [kw_r, ku])
theorem ks_active (i : Nat) (x : Int32) : (kw ad c n u).set 5 (ad 5 0, .inl (c 1, 8, .inl (upd (fun j => u 16 j 0) i x))) = kw ad c n (ku u 16 i 0 x) := kw_set_f (by decide) (by simp [kw_f, ku]; rfl) (by funext i; simp [kw_d, ku]) (by funext i; simp [kw_o, ku]) (by funext i; simp [kw_r, ku])
theorem ks_fill_active (N : Nat) (x : Int32) : (kw ad c n u).set 5 (ad 5 0, .inl (c 1, 8, .inl (fun j => if j < N then x else u 16 j 0))) = kw ad c n (kfl u 16 N x) := kw_set_f (by decide) (by simp [kw_f, kfl]) (by funext i; simp [kw_d, kfl]) (by funext i; simp [kw_o, kfl]) (by funext i; simp [kw_r, kfl])
theorem ks_abortBegun (i : Nat) (x : Int32) : (kw ad c n u).set 6 (ad 6 0, .inl (c 1, 8, .inl (upd (fun j => u 17 j 0) i x))) = kw ad c n (ku u 17 i 0 x) := kw_set_f (by decide) (by simp [kw_f, ku]; rfl) (by funext i; simp [kw_d, ku]) (by funext i; simp [kw_o, ku]) (by funext i; simp [kw_r, ku])
theorem ks_fill_abortBegun (N : Nat) (x : Int32) : (kw ad c n u).set 6 (ad 6 0, .inl (c 1, 8, .inl (fun j => if j < N then x else u 17 j 0))) = kw ad c n (kfl u 17 N x) := kw_set_f (by decide) (by simp [kw_f, kfl]) (by funext i; simp [kw_d, kfl]) (by funext i; simp [kw_o, kfl]) (by funext i; simp [kw_r, kfl])
theorem ks_undone (i : Nat) (x : Int32) : (kw ad c n u).set 8 (ad 8 0, .inl (c 1, 401, .inl (upd (fun j => u 10 j 0) i x))) = kw ad c n (ku u 10 i 0 x) := kw_set_f (by decide) (by simp [kw_f, ku]; rfl) (by funext i; simp [kw_d, ku]) (by funext i; simp [kw_o, ku]) (by funext i; simp [kw_r, ku])
theorem ks_fill_undone (N : Nat) (x : Int32) : (kw ad c n u).set 8 (ad 8 0, .inl (c 1, 401, .inl (fun j => if j < N then x else u 10 j 0))) = kw ad c n (kfl u 10 N x) := kw_set_f (by decide) (by simp [kw_f, kfl]) (by funext i; simp [kw_d, kfl]) (by funext i; simp [kw_o, kfl]) (by funext i; simp [kw_r, kfl])
theorem ks_lastUpdate (i : Nat) (x : Int32) : (kw ad c n u).set 9 (ad 9 0, .inl (c 0, 8, .inl (upd (fun j => u 11 j 0) i x))) = kw ad c n (ku u 11 i 0 x) := kw_set_f (by decide) (by simp [kw_f, ku]; rfl) (by funext i; simp [kw_d, ku]) (by funext i; simp [kw_o, ku]) (by funext i; simp [kw_r, ku])
theorem ks_fill_lastUpdate (N : Nat) (x : Int32) : (kw ad c n u).set 9 (ad 9 0, .inl (c 0, 8, .inl (fun j => if j < N then x else u 11 j 0))) = kw ad c n (kfl u 11 N x) := kw_set_f (by decide) (by simp [kw_f, kfl]) (by funext i; simp [kw_d, kfl]) (by funext i; simp [kw_o, kfl]) (by funext i; simp [kw_r, kfl])
theorem ks_lastOver (i : Nat) (x : Int32) : (kw ad c n u).set 10 (ad 10 0, .inl (c 0, 8, .inl (upd (fun j => u 12 j 0) i x))) = kw ad c n (ku u 12 i 0 x) := kw_set_f (by decide) (by simp [kw_f, ku]; rfl) (by funext i; simp [kw_d, ku]) (by funext i; simp [kw_o, ku]) (by funext i; simp [kw_r, ku])
theorem ks_fill_lastOver (N : Nat) (x : Int32) : (kw ad c n u).set 10 (ad 10 0, .inl (c 0, 8, .inl (fun j => if j < N then x else u 12 j 0))) = kw ad c n (kfl u 12 N x) := kw_set_f (by decide) (by simp [kw_f, kfl]) (by funext i; simp [kw_d, kfl]) (by funext i; simp [kw_o, kfl]) (by funext i; simp [kw_r, kfl])
theorem ks_openUpdates (i : Nat) (x : Int32) : (kw ad c n u).set 11 (ad 11 0, .inl (c 0, 8, .inl (upd (fun j => u 13 j 0) i x))) = kw ad c n (ku u 13 i 0 x) := kw_set_f (by decide) (by simp [kw_f, ku]; rfl) (by funext i; simp [kw_d, ku]) (by funext i; simp [kw_o, ku]) (by funext i; simp [kw_r, ku])
theorem ks_fill_openUpdates (N : Nat) (x : Int32) : (kw ad c n u).set 11 (ad 11 0, .inl (c 0, 8, .inl (fun j => if j < N then x else u 13 j 0))) = kw ad c n (kfl u 13 N x) := kw_set_f (by decide) (by simp [kw_f, kfl]) (by funext i; simp [kw_d, kfl]) (by funext i; simp [kw_o, kfl]) (by funext i; simp [kw_r, kfl])
theorem ks_cells (i k : Nat) (hk : k < 7) (x : Int32) : (kw ad c n u).set 7 (ad 7 0, .inl (c 0, 2807, .inl (upd (fun j => u 9 (j / 7) (j % 7)) (i * 7 + k) x))) = kw ad c n (ku u 9 i k x) := by
  refine kw_set_f (by decide) ?_ (by funext i; simp [kw_d, ku]) (by funext i; simp [kw_o, ku]) (by funext i; simp [kw_r, ku])
  have e : upd (fun j => u 9 (j / 7) (j % 7)) (i * 7 + k) x = fun j => ku u 9 i k x 9 (j / 7) (j % 7) := by
    funext j
    by_cases h : j = i * 7 + k
    · have h1 : j / 7 = i := by omega
      have h2 : j % 7 = k := by omega
      simp [upd, ku, h1, h2, h]
      intro h3
      omega
    · have h1 : ¬ (j / 7 = i ∧ j % 7 = k) := by omega
      simp [upd, ku, h, h1]
  rw [e]
  simp [kw_f, ku]
theorem ks_page {i : Nat} (hi : i < n) (x : Int32) : (kw ad c n u).set (44 + i) (ad 13 i, .inr (0, [.ref (ad 14 i), .int x, .int (u 2 i 0), .int (u 3 i 0), .int (u 4 i 0)])) = kw ad c n (ku u 1 i 0 x) := kw_set_o (by simp [kw_f, ku]) (by funext i; simp [kw_d, ku]) (by simp [kw_o, ku]) (fun j hj => by simp [kw_o, ku, hj]) hi (by funext i; simp [kw_r, ku])
theorem ks_pins {i : Nat} (hi : i < n) (x : Int32) : (kw ad c n u).set (44 + i) (ad 13 i, .inr (0, [.ref (ad 14 i), .int (u 1 i 0), .int x, .int (u 3 i 0), .int (u 4 i 0)])) = kw ad c n (ku u 2 i 0 x) := kw_set_o (by simp [kw_f, ku]) (by funext i; simp [kw_d, ku]) (by simp [kw_o, ku]) (fun j hj => by simp [kw_o, ku, hj]) hi (by funext i; simp [kw_r, ku])
theorem ks_dirty {i : Nat} (hi : i < n) (x : Int32) : (kw ad c n u).set (44 + i) (ad 13 i, .inr (0, [.ref (ad 14 i), .int (u 1 i 0), .int (u 2 i 0), .int x, .int (u 4 i 0)])) = kw ad c n (ku u 3 i 0 x) := kw_set_o (by simp [kw_f, ku]) (by funext i; simp [kw_d, ku]) (by simp [kw_o, ku]) (fun j hj => by simp [kw_o, ku, hj]) hi (by funext i; simp [kw_r, ku])
theorem ks_marked {i : Nat} (hi : i < n) (x : Int32) : (kw ad c n u).set (44 + i) (ad 13 i, .inr (0, [.ref (ad 14 i), .int (u 1 i 0), .int (u 2 i 0), .int (u 3 i 0), .int x])) = kw ad c n (ku u 4 i 0 x) := kw_set_o (by simp [kw_f, ku]) (by funext i; simp [kw_d, ku]) (by simp [kw_o, ku]) (fun j hj => by simp [kw_o, ku, hj]) hi (by funext i; simp [kw_r, ku])
theorem ks_disk {i : Nat} (hi : i < 32) (k : Nat) (x : Int32) : (kw ad c n u).set (12 + i) (ad 12 i, .inl (c 0, 9, .inl (upd (fun k => u 0 i k) k x))) = kw ad c n (ku u 0 i k x) := kw_set_d (by simp [kw_f, ku]) (by simp [kw_d, ku]; funext j; simp [upd]) (fun j hj => by simp [kw_d, ku, hj]) hi (by funext i; simp [kw_o, ku]) (by funext i; simp [kw_r, ku])
theorem ks_row {i : Nat} (k : Nat) (x : Int32) : (kw ad c n u).set (44 + n + i) (ad 14 i, .inl (c 0, 9, .inl (upd (fun k => u 5 i k) k x))) = kw ad c n (ku u 5 i k x) := kw_set_r (by simp [kw_f, ku]) (by funext i; simp [kw_d, ku]) (by funext i; simp [kw_o, ku]) (by simp [kw_r, ku]; funext j; simp [upd]) (fun j hj => by simp [kw_r, ku, hj])
theorem ks_fill_row {i : Nat} (N : Nat) (x : Int32) : (kw ad c n u).set (44 + n + i) (ad 14 i, .inl (c 0, 9, .inl (fun j => if j < N then x else u 5 i j))) = kw ad c n (kfr u 5 i N x) := kw_set_r (by simp [kw_f, kfr]) (by funext i; simp [kw_d, kfr]) (by funext i; simp [kw_o, kfr]) (by simp [kw_r, kfr]) (fun j hj => by simp [kw_r, kfr, hj])
theorem ks_load {i p : Nat} : (kw ad c n u).set (44 + n + i) (ad 14 i, .inl (c 0, 9, .inl (va_cpy (fun k => u 0 p k) (fun k => u 5 i k) 0 0 9))) = kw ad c n (kcp u 5 i 0 p) := kw_set_r (by simp [kw_f, kcp]) (by funext i; simp [kw_d, kcp]) (by funext i; simp [kw_o, kcp]) (by simp [kw_r, kcp]; funext j; simp [va_cpy]) (fun j hj => by simp [kw_r, kcp, hj])
theorem ks_back {i p : Nat} (hp : p < 32) : (kw ad c n u).set (12 + p) (ad 12 p, .inl (c 0, 9, .inl (va_cpy (fun k => u 5 i k) (fun k => u 0 p k) 0 0 9))) = kw ad c n (kcp u 0 p 5 i) := kw_set_d (by simp [kw_f, kcp]) (by simp [kw_d, kcp]; funext j; simp [va_cpy]) (fun j hj => by simp [kw_d, kcp, hj]) hp (by funext i; simp [kw_o, kcp]) (by funext i; simp [kw_r, kcp])
end KW
end
section
section KN
variable {p : Program} {l : Launch} {e : Env} {R : Room} {s : State} {m : MethodId} {args : Array Value} {below : List Frame} {meth : Method} {c : Code} {cells slots : Nat} {Q : State → Prop}
variable {cc : ByteArray} {nL : Nat} {own : String} {D : va_G} {tys : List (ClassId × FieldType)} {A : Nat → Prop} {ws : va_W} {pc : Nat} {lo : List (Option Value)} {st : List Value}
theorem kg_ialdN (cx : kg_c p s m args meth c cc nL own D tys A) (q0 t0 k : Nat) {a : Nat} {cA : ClassId} {n : Nat} {f : Nat → Int32} {i v : Int32} (ht : tys[t0]? = some (cA, .int)) (ha : ws[q0]? = some (a, .inl (cA, n, .inl f))) (hi : i = nI k) (hk : k < n) (hn : n < 2 ^ 31) (hv : f k = v) (hd : decode cc pc = .ok (.iaload, 1)) (kk : kg p l e R s m args below meth c nL D A Q cells slots ws (pc + 1) lo (.int v :: st)) : kg p l e R s m args below meth c nL D A Q cells slots ws pc lo (.int i :: .ref a :: st) := by
  subst hi; subst hv
  exact kg_iald cx q0 t0 ht ha (vp_in_nI hk hn) hd (by rw [nI_clamp (Nat.lt_trans hk hn)]; exact kk)
theorem kg_zaldN (cx : kg_c p s m args meth c cc nL own D tys A) (q0 t0 k : Nat) {a : Nat} {cA : ClassId} {n : Nat} {f : Nat → Int32} {i v : Int32} (ht : tys[t0]? = some (cA, .boolean)) (ha : ws[q0]? = some (a, .inl (cA, n, .inl f))) (hi : i = nI k) (hk : k < n) (hn : n < 2 ^ 31) (hv : f k = v) (hd : decode cc pc = .ok (.baload, 1)) (kk : kg p l e R s m args below meth c nL D A Q cells slots ws (pc + 1) lo (.int v :: st)) : kg p l e R s m args below meth c nL D A Q cells slots ws pc lo (.int i :: .ref a :: st) := by
  subst hi; subst hv
  exact kg_zald cx q0 t0 ht ha (vp_in_nI hk hn) hd (by rw [nI_clamp (Nat.lt_trans hk hn)]; exact kk)
theorem kg_iastN (cx : kg_c p s m args meth c cc nL own D tys A) (q0 t0 k : Nat) {a : Nat} {cA : ClassId} {n : Nat} {f : Nat → Int32} {i x : Int32} {ws9 : va_W} (ht : tys[t0]? = some (cA, .int)) (ha : ws[q0]? = some (a, .inl (cA, n, .inl f))) (hi : i = nI k) (hk : k < n) (hn : n < 2 ^ 31) (hset : ws.set q0 (a, .inl (cA, n, .inl (upd f k x))) = ws9) (hd : decode cc pc = .ok (.iastore, 1)) (kk : kg p l e R s m args below meth c nL D A Q cells slots ws9 (pc + 1) lo st) : kg p l e R s m args below meth c nL D A Q cells slots ws pc lo (.int x :: .int i :: .ref a :: st) := by
  subst hi
  exact kg_iast cx q0 t0 ht ha (vp_in_nI hk hn) (by rw [nI_clamp (Nat.lt_trans hk hn)]; exact hset) hd kk
theorem kg_zastN (cx : kg_c p s m args meth c cc nL own D tys A) (q0 t0 k : Nat) {a : Nat} {cA : ClassId} {n : Nat} {f : Nat → Int32} {i x : Int32} {ws9 : va_W} (ht : tys[t0]? = some (cA, .boolean)) (ha : ws[q0]? = some (a, .inl (cA, n, .inl f))) (hi : i = nI k) (hk : k < n) (hn : n < 2 ^ 31) (hx : vp_nar .boolean x = x) (hset : ws.set q0 (a, .inl (cA, n, .inl (upd f k x))) = ws9) (hd : decode cc pc = .ok (.bastore, 1)) (kk : kg p l e R s m args below meth c nL D A Q cells slots ws9 (pc + 1) lo st) : kg p l e R s m args below meth c nL D A Q cells slots ws pc lo (.int x :: .int i :: .ref a :: st) := by
  subst hi
  exact kg_zast cx q0 t0 ht ha (vp_in_nI hk hn) (by rw [nI_clamp (Nat.lt_trans hk hn), hx]; exact hset) hd kk
theorem kg_aaldN (cx : kg_c p s m args meth c cc nL own D tys A) (q0 t0 k : Nat) {a b : Nat} {cA : ClassId} {C : String} {n : Nat} {f : Nat → Option Nat} {i : Int32} (ht : tys[t0]? = some (cA, .object C)) (ha : ws[q0]? = some (a, .inl (cA, n, .inr (.inr (.inr (.inr f)))))) (hi : i = nI k) (hk : k < n) (hn : n < 2 ^ 31) (hv : f k = some b) (hd : decode cc pc = .ok (.aaload, 1)) (kk : kg p l e R s m args below meth c nL D A Q cells slots ws (pc + 1) lo (.ref b :: st)) : kg p l e R s m args below meth c nL D A Q cells slots ws pc lo (.int i :: .ref a :: st) := by
  subst hi
  exact kg_aald cx q0 t0 ht ha (vp_in_nI hk hn) (by rw [nI_clamp (Nat.lt_trans hk hn), hv]; rfl) hd kk
theorem kg_aaldAN (cx : kg_c p s m args meth c cc nL own D tys A) (q0 t0 k : Nat) {a b : Nat} {cA : ClassId} {t : FieldType} {n : Nat} {f : Nat → Option Nat} {i : Int32} (ht : tys[t0]? = some (cA, .array t)) (ha : ws[q0]? = some (a, .inl (cA, n, .inr (.inr (.inr (.inr f)))))) (hi : i = nI k) (hk : k < n) (hn : n < 2 ^ 31) (hv : f k = some b) (hd : decode cc pc = .ok (.aaload, 1)) (kk : kg p l e R s m args below meth c nL D A Q cells slots ws (pc + 1) lo (.ref b :: st)) : kg p l e R s m args below meth c nL D A Q cells slots ws pc lo (.int i :: .ref a :: st) := by
  subst hi
  exact kg_aaldA cx q0 t0 ht ha (vp_in_nI hk hn) (by rw [nI_clamp (Nat.lt_trans hk hn), hv]; rfl) hd kk
end KN
/-- a contract over ClockPool's cells -/
abbrev kC (l : Launch) (D : va_G) (c : Nat → ClassId) (ad : Nat → Nat → Nat) (n : Nat) (y : MethodName) (cd : Cond) (fr lc : Nat) (u : kS) (av : List Value) (post : Option Value → kS → Prop) : Prop := kc l y cd fr lc D (kty c) (kw ad c n u) av (kw ad c n) post
theorem k_if {α : Type} {i n : Nat} (h : i < n) (x : α) : (if i < n then some x else none) = some x := if_pos h
/-- an int that is compared with 0 or 1 -/
theorem k01 {x : Int32} (h : x = 0 ∨ x = 1) : vp_nar .boolean x = x := by rcases h with rfl | rfl <;> decide
theorem kg_top {p : Program} {l : Launch} {e : Env} {R : Room} {s : State} {m : MethodId} {args : Array Value} {below : List Frame} {meth : Method} {c : Code} {cells slots : Nat} {Q : State → Prop} {nL : Nat} {D : va_G} {A : Nat → Prop} {ws : va_W} {pc : Nat} {lo : List (Option Value)} {st : List Value} {x : Int32} (y : Int32) (h : x = y) (kk : kg p l e R s m args below meth c nL D A Q cells slots ws pc lo (.int y :: st)) : kg p l e R s m args below meth c nL D A Q cells slots ws pc lo (.int x :: st) := h ▸ kk
/-- the walk of a method over ClockPool's cells: it began with u0, the cells now hold u -/
abbrev kgC (p : Program) (l : Launch) (e : Env) (fr lc : Nat) (s : State) (m : MethodId) (args : Array Value) (below : List Frame) (meth : Method) (c9 : Code) (nL : Nat) (D : va_G) (c : Nat → ClassId) (ad : Nat → Nat → Nat) (n : Nat) (u0 : kS) (post : Option Value → kS → Prop) (u : kS) (pc : Nat) (lo : List (Option Value)) (st : List Value) : Prop :=
  kg p l e (kc_rm fr lc) s m args below meth c9 nL D (va_A (kw ad c n u0) s.heap.size) (MQ below (kc_Q (kw ad c n) D post (va_A (kw ad c n u0) s.heap.size)) args s 0 0 (va_A (kw ad c n u0) s.heap.size)) 0 0 (kw ad c n u) pc lo st
abbrev kgc (p : Program) (s : State) (m : MethodId) (args : Array Value) (meth : Method) (c9 : Code) (cc : ByteArray) (nL : Nat) (own : String) (D : va_G) (c : Nat → ClassId) (ad : Nat → Nat → Nat) (n : Nat) (u0 : kS) : Prop := kg_c p s m args meth c9 cc nL own D (kty c) (va_A (kw ad c n u0) s.heap.size)
theorem kC.mk {l : Launch} {D : va_G} {c : Nat → ClassId} {ad : Nat → Nat → Nat} {n : Nat} {y : MethodName} {cc : ByteArray} {nL fr lc : Nat} {ret : Option FieldType} {u : kS} {av : List Value} {post : Option Value → kS → Prop} (hy : plainName y.cls = true) (hav : ∀ v ∈ av, v.category = 1) (hlen : av.length ≤ nL)
    (body : ∀ (p : Program) (e : Env) (s : State) (m : MethodId) (args : Array Value) (below : List Frame) (meth : Method) (c9 : Code), kgc p s m args meth c9 cc nL y.cls D c ad n u → meth.sig.returnType = ret → kgC p l e fr lc s m args below meth c9 nL D c ad n u post u 0 (kg_in av nL) []) :
    kC l D c ad n y (Cond.code y cc nL ret) fr lc u av post := kc.mk hy hav hlen body
end
section
theorem k_set_adr {w : va_W} {q a : Nat} {e0 e : va_E} (h : w[q]? = some (a, e0)) : (w.set q (a, e)).map Prod.fst = w.map Prod.fst := by
  rw [List.map_set]
  apply List.ext_getElem?
  intro k
  by_cases hk : k = q
  · subst hk
    have hl := (List.getElem?_eq_some_iff.mp h).1
    rw [List.getElem?_set_self (by simpa using hl), List.getElem?_map, h]
    rfl
  · rw [List.getElem?_set_ne (Ne.symm hk)]
theorem k_set_self {α : Type} {w : List α} {q : Nat} {x : α} (h : w[q]? = some x) : w.set q x = w := by
  obtain ⟨hl, he⟩ := List.getElem?_eq_some_iff.mp h
  rw [← he]
  exact List.set_getElem_self hl
theorem k_len {α : Type} {w : List α} {q : Nat} {x : α} (h : w[q]? = some x) : q < w.length := (List.getElem?_eq_some_iff.mp h).1
/-- 1 for what holds, 0 for what doesn't -/
def kb (P : Prop) [Decidable P] : Int32 := if P then 1 else 0
theorem kb_1 {P : Prop} [Decidable P] (h : P) : kb P = 1 := if_pos h
theorem kb_0 {P : Prop} [Decidable P] (h : ¬ P) : kb P = 0 := if_neg h
theorem kb_nar (P : Prop) [Decidable P] : narrow .boolean (.int (kb P)) = .int (kb P) := by unfold kb; split <;> decide
theorem nar_1 : narrow .boolean (.int 1) = .int 1 := by decide
theorem nar_0 : narrow .boolean (.int 0) = .int 0 := by decide
set_option maxHeartbeats 4000000 in
set_option maxRecDepth 100000 in
/-- Arrays.fill: x at every place of an array, whatever else there is -/
theorem c_fill (l : Launch) (D : va_G) (c : Nat → ClassId) {ws : va_W} {q0 a N : Nat} {f : Nat → Int32} (x : Int32) (ha : ws[q0]? = some (a, .inl (c 0, N, .inl f))) (hN : N < 2 ^ 31) : kc l yJ7_fill_53178 (Cond.code yJ7_fill_53178 cJ7_fill_53178 4 none) 0 0 D (kty c) ws [.ref a, .int x] (fun _ : Unit => ws.set q0 (a, .inl (c 0, N, .inl (fun j => if j < N then x else f j)))) (fun v _ => v = none) := by
  refine kc.mk (by decide) (by simp [Value.category]) (Nat.le_of_ble_eq_true rfl) ?_
  intro p e s m args below meth c9 cx hr
  refine kg_iconst (v := 0) cx dJ7_fill_53178_0 (by decide) ?_
  refine kg_istore_n cx dJ7_fill_53178_1 (by decide) ?_
  refine kg_aload_n cx dJ7_fill_53178_2 rfl ?_
  refine kg_alen (v := nI N) cx q0 0 rfl ha rfl dJ7_fill_53178_3 ?_
  refine kg_istore_n cx dJ7_fill_53178_4 (by decide) ?_
  have loop : ∀ (k i : Nat) (g : Nat → Int32), N - i = k → i ≤ N → (∀ j, g j = if j < i then x else f j) → kg p l e (kc_rm 0 0) s m args below meth c9 4 D (va_A ws s.heap.size) (MQ below (kc_Q (fun _ : Unit => ws.set q0 (a, .inl (c 0, N, .inl (fun j => if j < N then x else f j)))) D (fun v _ => v = none) (va_A ws s.heap.size)) args s 0 0 (va_A ws s.heap.size)) 0 0 (ws.set q0 (a, .inl (c 0, N, .inl g))) 5 [some (.ref a), some (.int x), some (.int (nI i)), some (.int (nI N))] [] := by
    intro k
    induction k with
    | zero =>
      intro i g hk hi hg
      refine kg_iload_n cx dJ7_fill_53178_5 rfl ?_
      refine kg_iload_n cx dJ7_fill_53178_6 rfl ?_
      refine kg_icmp_ge cx 20 dJ7_fill_53178_7 (by decide) (fun h => ?_) (fun h => absurd (nI_le (show N ≤ i by omega) (by omega)) h)
      have e : g = fun j => if j < N then x else f j := by
        funext j
        rw [hg j, show i = N by omega]
      subst e
      exact kg_return cx hr () rfl rfl dJ7_fill_53178_20
    | succ k ih =>
      intro i g hk hi hg
      refine kg_iload_n cx dJ7_fill_53178_5 rfl ?_
      refine kg_iload_n cx dJ7_fill_53178_6 rfl ?_
      refine kg_icmp_ge cx 20 dJ7_fill_53178_7 (by decide) (fun h => absurd h (nI_ge (show i < N by omega) hN)) (fun h => ?_)
      refine kg_aload_n cx dJ7_fill_53178_10 rfl ?_
      refine kg_iload_n cx dJ7_fill_53178_11 rfl ?_
      refine kg_iload_n cx dJ7_fill_53178_12 rfl ?_
      refine kg_iastN cx q0 0 i rfl (List.getElem?_set_self (k_len ha)) rfl (by omega) hN (List.set_set _) dJ7_fill_53178_13 ?_
      refine kg_iinc (v := nI (i + 1)) cx dJ7_fill_53178_14 rfl (nI_1 i) (by decide) ?_
      refine kg_goto cx 5 dJ7_fill_53178_17 (by decide) ?_
      refine ih (i + 1) (upd g i x) (by omega) (by omega) (fun j => ?_)
      unfold upd
      rw [hg j]
      by_cases h1 : j = i
      · subst h1
        simp
      · by_cases h2 : j < i
        · simp [h1, h2, Nat.lt_succ_of_lt h2]
        · simp [h1, h2, show ¬ j < i + 1 by omega]
  refine kg_eq (k_set_self ha).symm rfl rfl rfl ?_
  exact loop N 0 f rfl (Nat.zero_le _) (fun j => by simp)
set_option maxHeartbeats 4000000 in
set_option maxRecDepth 100000 in
/-- Log.value: the column k of the record i -/
theorem c_X1_value (l : Launch) (D : va_G) (c : Nat → ClassId) (ad : Nat → Nat → Nat) (n : Nat) (u : kS) (i k : Nat) (hi : i ≤ 400) (hk : k < 7) : kC l D c ad n yX1_value (Cond.code yX1_value cX1_value 3 (some .int)) 0 0 u [.ref (ad 2 0), .int (nI i), .int (nI k)] (fun v u9 => v = some (.int (u 9 i k)) ∧ u9 = u) := by
  refine kC.mk (by decide) (by simp [Value.category]) (Nat.le_of_ble_eq_true rfl) ?_
  intro p e s m args below meth c9 cx hr
  refine kg_aload_n cx dX1_value_0 rfl ?_
  refine kg_get (ci := 1) cx 2 0 kfs_X1 rfl (by decide) rfl rfl kf_X1_9 dX1_value_1 ?_
  refine kg_iload_n cx dX1_value_4 rfl ?_
  refine kg_bipush (v := (nI 7)) cx dX1_value_5 (by decide) ?_
  refine kg_imul cx dX1_value_7 ?_
  refine kg_top (nI (i * 7)) (pk_mul i 7) ?_
  refine kg_iload_n cx dX1_value_8 rfl ?_
  refine kg_iadd cx dX1_value_9 ?_
  refine kg_top (nI (i * 7 + k)) (nI_add _ _) ?_
  refine kg_ialdN cx 7 0 (i * 7 + k) rfl rfl (rfl) (by omega) (by decide) (by show u 9 ((i * 7 + k) / 7) ((i * 7 + k) % 7) = u 9 i k; rw [show (i * 7 + k) / 7 = i by omega, show (i * 7 + k) % 7 = k by omega]) dX1_value_10 ?_
  exact kg_ireturn cx hr (rfl) _ rfl (⟨rfl, rfl⟩) dX1_value_11
set_option maxHeartbeats 4000000 in
set_option maxRecDepth 100000 in
/-- Frame.change: the number k becomes x, the LSN y, dirty -/
theorem c_X0_change (l : Launch) (D : va_G) (c : Nat → ClassId) (ad : Nat → Nat → Nat) (n : Nat) (u : kS) (f k : Nat) (x y : Int32) (hf : f < n) (hk : k < 8) : kC l D c ad n yX0_change (Cond.code yX0_change cX0_change 4 none) 0 0 u [.ref (ad 13 f), .int (nI k), .int x, .int y] (fun v u9 => v = none ∧ u9 = ku (ku (ku u 5 f k x) 5 f 8 y) 3 f 0 1) := by
  refine kC.mk (by decide) (by simp [Value.category]) (Nat.le_of_ble_eq_true rfl) ?_
  intro p e s m args below meth c9 cx hr
  refine kg_aload_n cx dX0_change_0 rfl ?_
  refine kg_get (ci := 0) cx (44 + f) 0 kfs_X0 rfl (by decide) (kw_at_o hf) rfl kf_X0_9 dX0_change_1 ?_
  refine kg_iload_n cx dX0_change_4 rfl ?_
  refine kg_iload_n cx dX0_change_5 rfl ?_
  refine kg_iastN cx (44 + n + f) 0 k rfl (kw_at_r hf) (rfl) (by omega) (by decide) (ks_row k _) dX0_change_6 ?_
  refine kg_aload_n cx dX0_change_7 rfl ?_
  refine kg_get (ci := 0) cx (44 + f) 0 kfs_X0 rfl (by decide) (kw_at_o hf) rfl kf_X0_9 dX0_change_8 ?_
  refine kg_bipush (v := (nI 8)) cx dX0_change_11 (by decide) ?_
  refine kg_iload_n cx dX0_change_13 rfl ?_
  refine kg_iastN cx (44 + n + f) 0 8 rfl (kw_at_r hf) (rfl) (by decide) (by decide) (ks_row 8 _) dX0_change_14 ?_
  refine kg_aload_n cx dX0_change_15 rfl ?_
  refine kg_iconst (v := 1) cx dX0_change_16 (by decide) ?_
  refine kg_put (ci := 0) (ty := .boolean) cx (44 + f) 3 kfs_X0 tyX0 tyX0_ok nmX0 rfl (by decide) (kw_at_o hf) (Nat.le_of_ble_eq_true rfl) kf_X0_19 rfl (by decide +kernel) rfl rfl (ks_dirty hf _) dX0_change_17 ?_
  exact kg_return cx hr _ rfl (⟨rfl, rfl⟩) dX0_change_20
/-- the frame f may be taken: no pins, and not dirty or with an LSN not above fl -/
abbrev kMay (u : kS) (f : Nat) (fl : Int32) : Prop := u 2 f 0 = 0 ∧ (u 3 f 0 = 0 ∨ u 5 f 8 ≤ fl)
set_option maxHeartbeats 4000000 in
set_option maxRecDepth 100000 in
/-- Frame.mayBeTaken -/
theorem c_X0_mayBeTaken (l : Launch) (D : va_G) (c : Nat → ClassId) (ad : Nat → Nat → Nat) (n : Nat) (u : kS) (f : Nat) (fl : Int32) (hf : f < n) : kC l D c ad n yX0_mayBeTaken (Cond.code yX0_mayBeTaken cX0_mayBeTaken 2 (some .boolean)) 0 0 u [.ref (ad 13 f), .int fl] (fun v u9 => v = some (.int (kb (kMay u f fl))) ∧ u9 = u) := by
  refine kC.mk (by decide) (by simp [Value.category]) (Nat.le_of_ble_eq_true rfl) ?_
  intro p e s m args below meth c9 cx hr
  refine kg_aload_n cx dX0_mayBeTaken_0 rfl ?_
  refine kg_get (ci := 0) cx (44 + f) 2 kfs_X0 rfl (by decide) (kw_at_o hf) rfl kf_X0_23 dX0_mayBeTaken_1 ?_
  refine kg_if_ne cx 29 dX0_mayBeTaken_4 (by decide) (fun h1 => ?_) (fun h1 => ?_)
  · refine kg_iconst (v := 0) cx dX0_mayBeTaken_29 (by decide) ?_
    refine kg_top (kb (kMay u f fl)) (kb_0 (fun q => h1 q.1)).symm ?_
    exact kg_ireturn cx hr (kb_nar _) _ rfl (⟨rfl, rfl⟩) dX0_mayBeTaken_30
  · refine kg_aload_n cx dX0_mayBeTaken_7 rfl ?_
    refine kg_get (ci := 0) cx (44 + f) 3 kfs_X0 rfl (by decide) (kw_at_o hf) rfl kf_X0_19 dX0_mayBeTaken_8 ?_
    refine kg_if_eq cx 25 dX0_mayBeTaken_11 (by decide) (fun h2 => ?_) (fun h2 => ?_)
    · refine kg_iconst (v := 1) cx dX0_mayBeTaken_25 (by decide) ?_
      refine kg_goto cx 30 dX0_mayBeTaken_26 (by decide) ?_
      refine kg_top (kb (kMay u f fl)) (kb_1 (⟨h1, Or.inl h2⟩)).symm ?_
      exact kg_ireturn cx hr (kb_nar _) _ rfl (⟨rfl, rfl⟩) dX0_mayBeTaken_30
    · refine kg_aload_n cx dX0_mayBeTaken_14 rfl ?_
      refine kg_get (ci := 0) cx (44 + f) 0 kfs_X0 rfl (by decide) (kw_at_o hf) rfl kf_X0_9 dX0_mayBeTaken_15 ?_
      refine kg_bipush (v := (nI 8)) cx dX0_mayBeTaken_18 (by decide) ?_
      refine kg_ialdN cx (44 + n + f) 0 8 rfl (kw_at_r hf) (rfl) (by decide) (by decide) (rfl) dX0_mayBeTaken_20 ?_
      refine kg_iload_n cx dX0_mayBeTaken_21 rfl ?_
      refine kg_icmp_gt cx 29 dX0_mayBeTaken_22 (by decide) (fun h3 => ?_) (fun h3 => ?_)
      · refine kg_iconst (v := 0) cx dX0_mayBeTaken_29 (by decide) ?_
        refine kg_top (kb (kMay u f fl)) (kb_0 (fun q => q.2.elim h2 (fun q => absurd h3 (Int32.not_lt.mpr q)))).symm ?_
        exact kg_ireturn cx hr (kb_nar _) _ rfl (⟨rfl, rfl⟩) dX0_mayBeTaken_30
      · refine kg_iconst (v := 1) cx dX0_mayBeTaken_25 (by decide) ?_
        refine kg_goto cx 30 dX0_mayBeTaken_26 (by decide) ?_
        refine kg_top (kb (kMay u f fl)) (kb_1 (⟨h1, Or.inr (Int32.not_lt.mp h3)⟩)).symm ?_
        exact kg_ireturn cx hr (kb_nar _) _ rfl (⟨rfl, rfl⟩) dX0_mayBeTaken_30
set_option maxHeartbeats 4000000 in
set_option maxRecDepth 100000 in
/-- Log.changesPage -/
theorem c_X1_changesPage (l : Launch) (D : va_G) (c : Nat → ClassId) (ad : Nat → Nat → Nat) (n : Nat) (u : kS) (i : Nat) (hi : i ≤ 400) : kC l D c ad n yX1_changesPage (Cond.code yX1_changesPage cX1_changesPage 3 (some .boolean)) 1 22 u [.ref (ad 2 0), .int (nI i)] (fun v u9 => v = some (.int (kb (u 9 i 0 = 0 ∨ u 9 i 0 = 1))) ∧ u9 = u) := by
  refine kC.mk (by decide) (by simp [Value.category]) (Nat.le_of_ble_eq_true rfl) ?_
  intro p e s m args below meth c9 cx hr
  refine kg_aload_n cx dX1_changesPage_0 rfl ?_
  refine kg_iload_n cx dX1_changesPage_1 rfl ?_
  refine kg_iconst (v := 0) cx dX1_changesPage_2 (by decide) ?_
  refine kg_callV (ci := 1) (na := 2) cx (c_X1_value l D c ad n u i 0 hi (by decide)) 2 rfl rfl kcd_X1_value km_X1_28 kin_X1 kim_X1_value ksl_X1_value (by decide +kernel) rfl (by decide) (by decide) rfl (Nat.le_of_ble_eq_true rfl) dX1_changesPage_3 (fun _ => kw_adr _ _) (fun v9 u9 h9 => ?_)
  obtain ⟨rfl, h9⟩ := h9
  subst u9
  refine kg_istore_n cx dX1_changesPage_6 (by decide) ?_
  refine kg_iload_n cx dX1_changesPage_7 rfl ?_
  refine kg_if_eq cx 16 dX1_changesPage_8 (by decide) (fun h1 => ?_) (fun h1 => ?_)
  · refine kg_iconst (v := 1) cx dX1_changesPage_16 (by decide) ?_
    refine kg_goto cx 21 dX1_changesPage_17 (by decide) ?_
    refine kg_top (kb (u 9 i 0 = 0 ∨ u 9 i 0 = 1)) (kb_1 (Or.inl h1)).symm ?_
    exact kg_ireturn cx hr (kb_nar _) _ rfl (⟨rfl, rfl⟩) dX1_changesPage_21
  · refine kg_iload_n cx dX1_changesPage_11 rfl ?_
    refine kg_iconst (v := 1) cx dX1_changesPage_12 (by decide) ?_
    refine kg_icmp_ne cx 20 dX1_changesPage_13 (by decide) (fun h2 => ?_) (fun h2 => ?_)
    · refine kg_iconst (v := 0) cx dX1_changesPage_20 (by decide) ?_
      refine kg_top (kb (u 9 i 0 = 0 ∨ u 9 i 0 = 1)) (kb_0 (fun q => q.elim h1 h2)).symm ?_
      exact kg_ireturn cx hr (kb_nar _) _ rfl (⟨rfl, rfl⟩) dX1_changesPage_21
    · refine kg_iconst (v := 1) cx dX1_changesPage_16 (by decide) ?_
      refine kg_goto cx 21 dX1_changesPage_17 (by decide) ?_
      refine kg_top (kb (u 9 i 0 = 0 ∨ u 9 i 0 = 1)) (kb_1 (Or.inr h2)).symm ?_
      exact kg_ireturn cx hr (kb_nar _) _ rfl (⟨rfl, rfl⟩) dX1_changesPage_21
/-- record i, of transaction t, is an UPDATE that undoing would undo -/
abbrev kOpen (u : kS) (i t : Nat) : Prop := u 9 i 0 = 0 ∧ u 10 i 0 = 0 ∧ u 12 t 0 < nI i
set_option maxHeartbeats 4000000 in
set_option maxRecDepth 100000 in
/-- Log.isOpen -/
theorem c_X1_isOpen (l : Launch) (D : va_G) (c : Nat → ClassId) (ad : Nat → Nat → Nat) (n : Nat) (u : kS) (i t : Nat) (hi : i ≤ 400) (ht : t < 8) (hT : u 9 i 1 = nI t) : kC l D c ad n yX1_isOpen (Cond.code yX1_isOpen cX1_isOpen 2 (some .boolean)) 1 22 u [.ref (ad 2 0), .int (nI i)] (fun v u9 => v = some (.int (kb (kOpen u i t))) ∧ u9 = u) := by
  refine kC.mk (by decide) (by simp [Value.category]) (Nat.le_of_ble_eq_true rfl) ?_
  intro p e s m args below meth c9 cx hr
  refine kg_aload_n cx dX1_isOpen_0 rfl ?_
  refine kg_iload_n cx dX1_isOpen_1 rfl ?_
  refine kg_iconst (v := 0) cx dX1_isOpen_2 (by decide) ?_
  refine kg_callV (ci := 1) (na := 2) cx (c_X1_value l D c ad n u i 0 hi (by decide)) 2 rfl rfl kcd_X1_value km_X1_28 kin_X1 kim_X1_value ksl_X1_value (by decide +kernel) rfl (by decide) (by decide) rfl (Nat.le_of_ble_eq_true rfl) dX1_isOpen_3 (fun _ => kw_adr _ _) (fun v9 u9 h9 => ?_)
  obtain ⟨rfl, h9⟩ := h9
  subst u9
  refine kg_if_ne cx 37 dX1_isOpen_6 (by decide) (fun h1 => ?_) (fun h1 => ?_)
  · refine kg_iconst (v := 0) cx dX1_isOpen_37 (by decide) ?_
    refine kg_top (kb (kOpen u i t)) (kb_0 (fun q => h1 q.1)).symm ?_
    exact kg_ireturn cx hr (kb_nar _) _ rfl (⟨rfl, rfl⟩) dX1_isOpen_38
  · refine kg_aload_n cx dX1_isOpen_9 rfl ?_
    refine kg_get (ci := 1) cx 2 1 kfs_X1 rfl (by decide) rfl rfl kf_X1_15 dX1_isOpen_10 ?_
    refine kg_iload_n cx dX1_isOpen_13 rfl ?_
    refine kg_zaldN cx 8 1 i rfl rfl (rfl) (by omega) (by decide) (rfl) dX1_isOpen_14 ?_
    refine kg_if_ne cx 37 dX1_isOpen_15 (by decide) (fun h2 => ?_) (fun h2 => ?_)
    · refine kg_iconst (v := 0) cx dX1_isOpen_37 (by decide) ?_
      refine kg_top (kb (kOpen u i t)) (kb_0 (fun q => h2 q.2.1)).symm ?_
      exact kg_ireturn cx hr (kb_nar _) _ rfl (⟨rfl, rfl⟩) dX1_isOpen_38
    · refine kg_iload_n cx dX1_isOpen_18 rfl ?_
      refine kg_aload_n cx dX1_isOpen_19 rfl ?_
      refine kg_get (ci := 1) cx 2 3 kfs_X1 rfl (by decide) rfl rfl kf_X1_22 dX1_isOpen_20 ?_
      refine kg_aload_n cx dX1_isOpen_23 rfl ?_
      refine kg_iload_n cx dX1_isOpen_24 rfl ?_
      refine kg_iconst (v := 1) cx dX1_isOpen_25 (by decide) ?_
      refine kg_callV (ci := 1) (na := 2) cx (c_X1_value l D c ad n u i 1 hi (by decide)) 2 rfl rfl kcd_X1_value km_X1_28 kin_X1 kim_X1_value ksl_X1_value (by decide +kernel) rfl (by decide) (by decide) rfl (Nat.le_of_ble_eq_true rfl) dX1_isOpen_26 (fun _ => kw_adr _ _) (fun v9 u9 h9 => ?_)
      obtain ⟨rfl, h9⟩ := h9
      subst u9
      refine kg_ialdN cx 10 0 t rfl rfl (hT) (ht) (by decide) (rfl) dX1_isOpen_29 ?_
      refine kg_icmp_le cx 37 dX1_isOpen_30 (by decide) (fun h3 => ?_) (fun h3 => ?_)
      · refine kg_iconst (v := 0) cx dX1_isOpen_37 (by decide) ?_
        refine kg_top (kb (kOpen u i t)) (kb_0 (fun q => absurd q.2.2 (Int32.not_lt.mpr h3))).symm ?_
        exact kg_ireturn cx hr (kb_nar _) _ rfl (⟨rfl, rfl⟩) dX1_isOpen_38
      · refine kg_iconst (v := 1) cx dX1_isOpen_33 (by decide) ?_
        refine kg_goto cx 38 dX1_isOpen_34 (by decide) ?_
        refine kg_top (kb (kOpen u i t)) (kb_1 (⟨h1, h2, Int32.not_le.mp h3⟩)).symm ?_
        exact kg_ireturn cx hr (kb_nar _) _ rfl (⟨rfl, rfl⟩) dX1_isOpen_38
set_option maxHeartbeats 4000000 in
set_option maxRecDepth 100000 in
/-- Log.isUnended -/
theorem c_X1_isUnended (l : Launch) (D : va_G) (c : Nat → ClassId) (ad : Nat → Nat → Nat) (n : Nat) (u : kS) (t : Nat) (ht : t < 8) : kC l D c ad n yX1_isUnended (Cond.code yX1_isUnended cX1_isUnended 2 (some .boolean)) 0 0 u [.ref (ad 2 0), .int (nI t)] (fun v u9 => v = some (.int (kb (u 12 t 0 < u 11 t 0))) ∧ u9 = u) := by
  refine kC.mk (by decide) (by simp [Value.category]) (Nat.le_of_ble_eq_true rfl) ?_
  intro p e s m args below meth c9 cx hr
  refine kg_aload_n cx dX1_isUnended_0 rfl ?_
  refine kg_get (ci := 1) cx 2 2 kfs_X1 rfl (by decide) rfl rfl kf_X1_19 dX1_isUnended_1 ?_
  refine kg_iload_n cx dX1_isUnended_4 rfl ?_
  refine kg_ialdN cx 9 0 t rfl rfl (rfl) (ht) (by decide) (rfl) dX1_isUnended_5 ?_
  refine kg_aload_n cx dX1_isUnended_6 rfl ?_
  refine kg_get (ci := 1) cx 2 3 kfs_X1 rfl (by decide) rfl rfl kf_X1_22 dX1_isUnended_7 ?_
  refine kg_iload_n cx dX1_isUnended_10 rfl ?_
  refine kg_ialdN cx 10 0 t rfl rfl (rfl) (ht) (by decide) (rfl) dX1_isUnended_11 ?_
  refine kg_icmp_le cx 19 dX1_isUnended_12 (by decide) (fun h1 => ?_) (fun h1 => ?_)
  · refine kg_iconst (v := 0) cx dX1_isUnended_19 (by decide) ?_
    refine kg_top (kb (u 12 t 0 < u 11 t 0)) (kb_0 (fun q => absurd q (Int32.not_lt.mpr h1))).symm ?_
    exact kg_ireturn cx hr (kb_nar _) _ rfl (⟨rfl, rfl⟩) dX1_isUnended_20
  · refine kg_iconst (v := 1) cx dX1_isUnended_15 (by decide) ?_
    refine kg_goto cx 20 dX1_isUnended_16 (by decide) ?_
    refine kg_top (kb (u 12 t 0 < u 11 t 0)) (kb_1 (Int32.not_le.mp h1)).symm ?_
    exact kg_ireturn cx hr (kb_nar _) _ rfl (⟨rfl, rfl⟩) dX1_isUnended_20
/-- frame f empty -/
def kEmp (u : kS) (f : Nat) : kS := ku (ku (ku (ku (kfr u 5 f 9 0) 1 f 0 (-1)) 2 f 0 0) 3 f 0 0) 4 f 0 0
set_option maxHeartbeats 4000000 in
set_option maxRecDepth 100000 in
/-- Frame.makeEmpty -/
theorem c_X0_makeEmpty (l : Launch) (D : va_G) (c : Nat → ClassId) (ad : Nat → Nat → Nat) (n : Nat) (u : kS) (f : Nat) (hf : f < n) : kC l D c ad n yX0_makeEmpty (Cond.code yX0_makeEmpty cX0_makeEmpty 1 none) 1 23 u [.ref (ad 13 f)] (fun v u9 => v = none ∧ u9 = kEmp u f) := by
  refine kC.mk (by decide) (by simp [Value.category]) (Nat.le_of_ble_eq_true rfl) ?_
  intro p e s m args below meth c9 cx hr
  refine kg_aload_n cx dX0_makeEmpty_0 rfl ?_
  refine kg_get (ci := 0) cx (44 + f) 0 kfs_X0 rfl (by decide) (kw_at_o hf) rfl kf_X0_9 dX0_makeEmpty_1 ?_
  refine kg_iconst (v := 0) cx dX0_makeEmpty_4 (by decide) ?_
  refine kg_callS (na := 2) cx (c_fill l D c 0 (kw_at_r hf) (by decide)) kcd_J7_fill_53178 km_X0_26 kin_J7 kst_J7_fill_53178 (by decide +kernel) rfl (by decide) (by decide) rfl (Nat.le_of_ble_eq_true rfl) dX0_makeEmpty_5 (fun _ => k_set_adr (kw_at_r hf)) (fun v9 u9 h9 => ?_)
  obtain rfl := h9
  refine kg_eq (ks_fill_row 9 0) rfl rfl rfl ?_
  refine kg_aload_n cx dX0_makeEmpty_8 rfl ?_
  refine kg_iconst (v := (-1)) cx dX0_makeEmpty_9 (by decide) ?_
  refine kg_put (ci := 0) (ty := .int) cx (44 + f) 1 kfs_X0 tyX0 tyX0_ok nmX0 rfl (by decide) (kw_at_o hf) (Nat.le_of_ble_eq_true rfl) kf_X0_15 rfl (by decide +kernel) rfl rfl (ks_page hf _) dX0_makeEmpty_10 ?_
  refine kg_aload_n cx dX0_makeEmpty_13 rfl ?_
  refine kg_iconst (v := 0) cx dX0_makeEmpty_14 (by decide) ?_
  refine kg_put (ci := 0) (ty := .int) cx (44 + f) 2 kfs_X0 tyX0 tyX0_ok nmX0 rfl (by decide) (kw_at_o hf) (Nat.le_of_ble_eq_true rfl) kf_X0_23 rfl (by decide +kernel) rfl rfl (ks_pins hf _) dX0_makeEmpty_15 ?_
  refine kg_aload_n cx dX0_makeEmpty_18 rfl ?_
  refine kg_iconst (v := 0) cx dX0_makeEmpty_19 (by decide) ?_
  refine kg_put (ci := 0) (ty := .boolean) cx (44 + f) 3 kfs_X0 tyX0 tyX0_ok nmX0 rfl (by decide) (kw_at_o hf) (Nat.le_of_ble_eq_true rfl) kf_X0_19 rfl (by decide +kernel) rfl rfl (ks_dirty hf _) dX0_makeEmpty_20 ?_
  refine kg_aload_n cx dX0_makeEmpty_23 rfl ?_
  refine kg_iconst (v := 0) cx dX0_makeEmpty_24 (by decide) ?_
  refine kg_put (ci := 0) (ty := .boolean) cx (44 + f) 4 kfs_X0 tyX0 tyX0_ok nmX0 rfl (by decide) (kw_at_o hf) (Nat.le_of_ble_eq_true rfl) kf_X0_32 rfl (by decide +kernel) rfl rfl (ks_marked hf _) dX0_makeEmpty_25 ?_
  exact kg_return cx hr _ rfl (⟨rfl, rfl⟩) dX0_makeEmpty_28
end
section
/-- x and the first k of f, added from the left -/
def kss (x : Int32) (f : Nat → Int32) : Nat → Int32
  | 0 => x
  | k + 1 => kss x f k + f k
set_option maxHeartbeats 4000000 in
set_option maxRecDepth 100000 in
/-- Log.hasRoomFor -/
theorem c_X1_hasRoomFor (l : Launch) (D : va_G) (c : Nat → ClassId) (ad : Nat → Nat → Nat) (n : Nat) (u : kS) (x : Int32) : kC l D c ad n yX1_hasRoomFor (Cond.code yX1_hasRoomFor cX1_hasRoomFor 4 (some .boolean)) 0 0 u [.ref (ad 2 0), .int x] (fun v u9 => v = some (.int (kb (kss (u 14 0 0 + x) (fun t => u 13 t 0) 8 ≤ nI 400))) ∧ u9 = u) := by
  refine kC.mk (by decide) (by simp [Value.category]) (Nat.le_of_ble_eq_true rfl) ?_
  intro p e s m args below meth c9 cx hr
  refine kg_aload_n cx dX1_hasRoomFor_0 rfl ?_
  refine kg_get (ci := 1) cx 2 5 kfs_X1 rfl (by decide) rfl rfl kf_X1_32 dX1_hasRoomFor_1 ?_
  refine kg_iload_n cx dX1_hasRoomFor_4 rfl ?_
  refine kg_iadd cx dX1_hasRoomFor_5 ?_
  refine kg_istore_n cx dX1_hasRoomFor_6 (by decide) ?_
  refine kg_iconst (v := 0) cx dX1_hasRoomFor_7 (by decide) ?_
  refine kg_istore_n cx dX1_hasRoomFor_8 (by decide) ?_
  have loop : ∀ (k i : Nat), 8 - i = k → i ≤ 8 → kgC p l e 0 0 s m args below meth c9 4 D c ad n u (fun v u9 => v = some (.int (kb (kss (u 14 0 0 + x) (fun t => u 13 t 0) 8 ≤ nI 400))) ∧ u9 = u) u 9 [some (.ref (ad 2 0)), some (.int x), some (.int (kss (u 14 0 0 + x) (fun t => u 13 t 0) i)), some (.int (nI i))] [] := by
    intro k
    induction k with
    | zero =>
      intro i hk hi
      have e8 : i = 8 := by omega
      subst e8
      refine kg_iload_n cx dX1_hasRoomFor_9 rfl ?_
      refine kg_bipush (v := (nI 8)) cx dX1_hasRoomFor_10 (by decide) ?_
      refine kg_icmp_ge cx 30 dX1_hasRoomFor_12 (by decide) (fun h1 => ?_) (fun h1 => ?_)
      · refine kg_iload_n cx dX1_hasRoomFor_30 rfl ?_
        refine kg_sipush (v := (nI 400)) cx dX1_hasRoomFor_31 (by decide) ?_
        refine kg_icmp_gt cx 41 dX1_hasRoomFor_34 (by decide) (fun h2 => ?_) (fun h2 => ?_)
        · refine kg_iconst (v := 0) cx dX1_hasRoomFor_41 (by decide) ?_
          refine kg_top (kb (kss (u 14 0 0 + x) (fun t => u 13 t 0) 8 ≤ nI 400)) (kb_0 (fun q => absurd q (Int32.not_le.mpr h2))).symm ?_
          exact kg_ireturn cx hr (kb_nar _) _ rfl (⟨rfl, rfl⟩) dX1_hasRoomFor_42
        · refine kg_iconst (v := 1) cx dX1_hasRoomFor_37 (by decide) ?_
          refine kg_goto cx 42 dX1_hasRoomFor_38 (by decide) ?_
          refine kg_top (kb (kss (u 14 0 0 + x) (fun t => u 13 t 0) 8 ≤ nI 400)) (kb_1 (Int32.not_lt.mp h2)).symm ?_
          exact kg_ireturn cx hr (kb_nar _) _ rfl (⟨rfl, rfl⟩) dX1_hasRoomFor_42
      · exact absurd (Int32.le_refl _) h1
    | succ k ih =>
      intro i hk hi
      refine kg_iload_n cx dX1_hasRoomFor_9 rfl ?_
      refine kg_bipush (v := (nI 8)) cx dX1_hasRoomFor_10 (by decide) ?_
      refine kg_icmp_ge cx 30 dX1_hasRoomFor_12 (by decide) (fun h1 => ?_) (fun h1 => ?_)
      · exact absurd h1 (nI_ge (show i < 8 by omega) (by decide))
      · refine kg_iload_n cx dX1_hasRoomFor_15 rfl ?_
        refine kg_aload_n cx dX1_hasRoomFor_16 rfl ?_
        refine kg_get (ci := 1) cx 2 4 kfs_X1 rfl (by decide) rfl rfl kf_X1_25 dX1_hasRoomFor_17 ?_
        refine kg_iload_n cx dX1_hasRoomFor_20 rfl ?_
        refine kg_ialdN cx 11 0 i rfl rfl (rfl) (by omega) (by decide) (rfl) dX1_hasRoomFor_21 ?_
        refine kg_iadd cx dX1_hasRoomFor_22 ?_
        refine kg_istore_n cx dX1_hasRoomFor_23 (by decide) ?_
        refine kg_iinc (v := nI (i + 1)) cx dX1_hasRoomFor_24 rfl (nI_1 i) (by decide) ?_
        refine kg_goto cx 9 dX1_hasRoomFor_27 (by decide) ?_
        exact ih (i + 1) (by omega) (by omega)
  exact loop 8 0 rfl (by decide)
/-- what follows from the record i of transaction t (if it is an UNDO: of record w) -/
def kFol (u : kS) (i t w : Nat) : kS :=
  if u 9 i 0 = 0 then ku (ku (ku u 10 i 0 0) 11 t 0 (nI i)) 13 t 0 (u 13 t 0 + 1)
  else if u 9 i 0 = 1 then ku (ku (ku u 10 i 0 0) 10 w 0 1) 13 t 0 (u 13 t 0 - 1)
  else ku (ku (ku u 10 i 0 0) 12 t 0 (nI i)) 13 t 0 0
theorem kFol_F {u : kS} {i t w F a b : Nat} (h : F ≠ 10 ∧ F ≠ 11 ∧ F ≠ 12 ∧ F ≠ 13) : kFol u i t w F a b = u F a b := by
  obtain ⟨h0, h1, h2, h3⟩ := h
  unfold kFol
  split
  · rw [ku_F h3, ku_F h1, ku_F h0]
  · split
    · rw [ku_F h3, ku_F h0, ku_F h0]
    · rw [ku_F h3, ku_F h2, ku_F h0]
/-- a record laid behind the last one -/
def kApp (u : kS) (i : Nat) (k0 k1 k2 k3 k4 k5 k6 : Int32) : kS := ku (ku (ku (ku (ku (ku (ku (ku u 14 0 0 (nI i)) 9 i 0 k0) 9 i 1 k1) 9 i 2 k2) 9 i 3 k3) 9 i 4 k4) 9 i 5 k5) 9 i 6 k6
set_option maxHeartbeats 4000000 in
set_option maxRecDepth 100000 in
/-- Log.follow -/
theorem c_X1_follow (l : Launch) (D : va_G) (c : Nat → ClassId) (ad : Nat → Nat → Nat) (n : Nat) (u : kS) (i t w : Nat) (hi : i ≤ 400) (ht : t < 8) (hT : u 9 i 1 = nI t) (hw : w ≤ 400) (hW : u 9 i 0 = 1 → u 9 i 6 = nI w) : kC l D c ad n yX1_follow (Cond.code yX1_follow cX1_follow 4 none) 1 22 u [.ref (ad 2 0), .int (nI i)] (fun v u9 => v = none ∧ u9 = kFol u i t w) := by
  refine kC.mk (by decide) (by simp [Value.category]) (Nat.le_of_ble_eq_true rfl) ?_
  intro p e s m args below meth c9 cx hr
  refine kg_aload_n cx dX1_follow_0 rfl ?_
  refine kg_iload_n cx dX1_follow_1 rfl ?_
  refine kg_iconst (v := 1) cx dX1_follow_2 (by decide) ?_
  refine kg_callV (ci := 1) (na := 2) cx (c_X1_value l D c ad n u i 1 hi (by decide)) 2 rfl rfl kcd_X1_value km_X1_28 kin_X1 kim_X1_value ksl_X1_value (by decide +kernel) rfl (by decide) (by decide) rfl (Nat.le_of_ble_eq_true rfl) dX1_follow_3 (fun _ => kw_adr _ _) (fun v9 u9 h9 => ?_)
  obtain ⟨rfl, h9⟩ := h9
  subst u9
  refine kg_top (nI t) (hT) ?_
  refine kg_istore_n cx dX1_follow_6 (by decide) ?_
  refine kg_aload_n cx dX1_follow_7 rfl ?_
  refine kg_iload_n cx dX1_follow_8 rfl ?_
  refine kg_iconst (v := 0) cx dX1_follow_9 (by decide) ?_
  refine kg_callV (ci := 1) (na := 2) cx (c_X1_value l D c ad n u i 0 hi (by decide)) 2 rfl rfl kcd_X1_value km_X1_28 kin_X1 kim_X1_value ksl_X1_value (by decide +kernel) rfl (by decide) (by decide) rfl (Nat.le_of_ble_eq_true rfl) dX1_follow_10 (fun _ => kw_adr _ _) (fun v9 u9 h9 => ?_)
  obtain ⟨rfl, h9⟩ := h9
  subst u9
  refine kg_istore_n cx dX1_follow_13 (by decide) ?_
  refine kg_aload_n cx dX1_follow_14 rfl ?_
  refine kg_get (ci := 1) cx 2 1 kfs_X1 rfl (by decide) rfl rfl kf_X1_15 dX1_follow_15 ?_
  refine kg_iload_n cx dX1_follow_18 rfl ?_
  refine kg_iconst (v := 0) cx dX1_follow_19 (by decide) ?_
  refine kg_zastN cx 8 1 i rfl rfl (rfl) (by omega) (by decide) (by decide) (ks_undone i _) dX1_follow_20 ?_
  refine kg_iload_n cx dX1_follow_21 rfl ?_
  refine kg_if_ne cx 45 dX1_follow_22 (by decide) (fun h1 => ?_) (fun h1 => ?_)
  · refine kg_iload_n cx dX1_follow_45 rfl ?_
    refine kg_iconst (v := 1) cx dX1_follow_46 (by decide) ?_
    refine kg_icmp_ne cx 76 dX1_follow_47 (by decide) (fun h2 => ?_) (fun h2 => ?_)
    · refine kg_aload_n cx dX1_follow_76 rfl ?_
      refine kg_get (ci := 1) cx 2 3 kfs_X1 rfl (by decide) rfl rfl kf_X1_22 dX1_follow_77 ?_
      refine kg_iload_n cx dX1_follow_80 rfl ?_
      refine kg_iload_n cx dX1_follow_81 rfl ?_
      refine kg_iastN cx 10 0 t rfl rfl (rfl) (ht) (by decide) (ks_lastOver t _) dX1_follow_82 ?_
      refine kg_aload_n cx dX1_follow_83 rfl ?_
      refine kg_get (ci := 1) cx 2 4 kfs_X1 rfl (by decide) rfl rfl kf_X1_25 dX1_follow_84 ?_
      refine kg_iload_n cx dX1_follow_87 rfl ?_
      refine kg_iconst (v := 0) cx dX1_follow_88 (by decide) ?_
      refine kg_iastN cx 11 0 t rfl rfl (rfl) (ht) (by decide) (ks_openUpdates t _) dX1_follow_89 ?_
      exact kg_return cx hr _ rfl (⟨rfl, by unfold kFol; rw [if_neg h1, if_neg h2]⟩) dX1_follow_90
    · refine kg_aload_n cx dX1_follow_50 rfl ?_
      refine kg_get (ci := 1) cx 2 1 kfs_X1 rfl (by decide) rfl rfl kf_X1_15 dX1_follow_51 ?_
      refine kg_aload_n cx dX1_follow_54 rfl ?_
      refine kg_iload_n cx dX1_follow_55 rfl ?_
      refine kg_bipush (v := (nI 6)) cx dX1_follow_56 (by decide) ?_
      refine kg_callV (ci := 1) (na := 2) cx (c_X1_value l D c ad n (ku u 10 i 0 0) i 6 hi (by decide)) 2 rfl rfl kcd_X1_value km_X1_28 kin_X1 kim_X1_value ksl_X1_value (by decide +kernel) rfl (by decide) (by decide) rfl (Nat.le_of_ble_eq_true rfl) dX1_follow_58 (fun _ => kw_adr _ _) (fun v9 u9 h9 => ?_)
      obtain ⟨rfl, h9⟩ := h9
      subst u9
      refine kg_top (nI w) ((ku_F (by decide)).trans (hW h2)) ?_
      refine kg_iconst (v := 1) cx dX1_follow_61 (by decide) ?_
      refine kg_zastN cx 8 1 w rfl rfl (rfl) (by omega) (by decide) (by decide) (ks_undone w _) dX1_follow_62 ?_
      refine kg_aload_n cx dX1_follow_63 rfl ?_
      refine kg_get (ci := 1) cx 2 4 kfs_X1 rfl (by decide) rfl rfl kf_X1_25 dX1_follow_64 ?_
      refine kg_iload_n cx dX1_follow_67 rfl ?_
      refine kg_dup2 cx dX1_follow_68 rfl rfl ?_
      refine kg_ialdN (v := (u 13 t 0)) cx 11 0 t rfl rfl (rfl) (ht) (by decide) (by simp [ku]) dX1_follow_69 ?_
      refine kg_iconst (v := 1) cx dX1_follow_70 (by decide) ?_
      refine kg_isub cx dX1_follow_71 ?_
      refine kg_iastN cx 11 0 t rfl rfl (rfl) (ht) (by decide) (ks_openUpdates t _) dX1_follow_72 ?_
      refine kg_goto cx 90 dX1_follow_73 (by decide) ?_
      exact kg_return cx hr _ rfl (⟨rfl, by unfold kFol; rw [if_neg h1, if_pos h2]⟩) dX1_follow_90
  · refine kg_aload_n cx dX1_follow_25 rfl ?_
    refine kg_get (ci := 1) cx 2 2 kfs_X1 rfl (by decide) rfl rfl kf_X1_19 dX1_follow_26 ?_
    refine kg_iload_n cx dX1_follow_29 rfl ?_
    refine kg_iload_n cx dX1_follow_30 rfl ?_
    refine kg_iastN cx 9 0 t rfl rfl (rfl) (ht) (by decide) (ks_lastUpdate t _) dX1_follow_31 ?_
    refine kg_aload_n cx dX1_follow_32 rfl ?_
    refine kg_get (ci := 1) cx 2 4 kfs_X1 rfl (by decide) rfl rfl kf_X1_25 dX1_follow_33 ?_
    refine kg_iload_n cx dX1_follow_36 rfl ?_
    refine kg_dup2 cx dX1_follow_37 rfl rfl ?_
    refine kg_ialdN (v := (u 13 t 0)) cx 11 0 t rfl rfl (rfl) (ht) (by decide) (by simp [ku]) dX1_follow_38 ?_
    refine kg_iconst (v := 1) cx dX1_follow_39 (by decide) ?_
    refine kg_iadd cx dX1_follow_40 ?_
    refine kg_iastN cx 11 0 t rfl rfl (rfl) (ht) (by decide) (ks_openUpdates t _) dX1_follow_41 ?_
    refine kg_goto cx 90 dX1_follow_42 (by decide) ?_
    exact kg_return cx hr _ rfl (⟨rfl, by unfold kFol; rw [if_pos h1]⟩) dX1_follow_90
set_option maxHeartbeats 4000000 in
set_option maxRecDepth 100000 in
/-- Log.append, where there is room -/
theorem c_X1_append (l : Launch) (D : va_G) (c : Nat → ClassId) (ad : Nat → Nat → Nat) (n : Nat) (u : kS) (sz t w : Nat) (k0 k2 k3 k4 k5 k6 : Int32) (hs : u 14 0 0 = nI sz) (hz : sz < 400) (ht : t < 8) (hw : w ≤ 400) (hW : k0 = 1 → k6 = nI w) : kC l D c ad n yX1_append (Cond.code yX1_append cX1_append 9 (some .int)) 2 45 u [.ref (ad 2 0), .int k0, .int (nI t), .int k2, .int k3, .int k4, .int k5, .int k6] (fun v u9 => v = some (.int (nI (sz + 1))) ∧ u9 = kFol (kApp u (sz + 1) k0 (nI t) k2 k3 k4 k5 k6) (sz + 1) t w) := by
  refine kC.mk (by decide) (by simp [Value.category]) (Nat.le_of_ble_eq_true rfl) ?_
  intro p e s m args below meth c9 cx hr
  refine kg_aload_n cx dX1_append_0 rfl ?_
  refine kg_get (ci := 1) cx 2 5 kfs_X1 rfl (by decide) rfl rfl kf_X1_32 dX1_append_1 ?_
  refine kg_sipush (v := (nI 400)) cx dX1_append_4 (by decide) ?_
  refine kg_icmp_lt cx 15 dX1_append_7 (by decide) (fun h1 => ?_) (fun h1 => ?_)
  · refine kg_aload_n cx dX1_append_15 rfl ?_
    refine kg_dup cx dX1_append_16 rfl ?_
    refine kg_get (ci := 1) cx 2 5 kfs_X1 rfl (by decide) rfl rfl kf_X1_32 dX1_append_17 ?_
    refine kg_iconst (v := 1) cx dX1_append_20 (by decide) ?_
    refine kg_iadd cx dX1_append_21 ?_
    refine kg_top (nI (sz + 1)) (by rw [hs]; exact nI_1 sz) ?_
    refine kg_put (ci := 1) (ty := .int) cx 2 5 kfs_X1 tyX1 tyX1_ok nmX1 rfl (by decide) rfl (Nat.le_of_ble_eq_true rfl) kf_X1_32 rfl (by decide +kernel) rfl rfl (ks_size _) dX1_append_22 ?_
    refine kg_aload_n cx dX1_append_25 rfl ?_
    refine kg_get (ci := 1) cx 2 5 kfs_X1 rfl (by decide) rfl rfl kf_X1_32 dX1_append_26 ?_
    refine kg_top (nI (sz + 1)) (ku_s _ _ _ _ _) ?_
    refine kg_bipush (v := (nI 7)) cx dX1_append_29 (by decide) ?_
    refine kg_imul cx dX1_append_31 ?_
    refine kg_top (nI ((sz + 1) * 7)) (pk_mul _ 7) ?_
    refine kg_istore cx dX1_append_32 (by decide) ?_
    refine kg_aload_n cx dX1_append_34 rfl ?_
    refine kg_get (ci := 1) cx 2 0 kfs_X1 rfl (by decide) rfl rfl kf_X1_9 dX1_append_35 ?_
    refine kg_iload cx dX1_append_38 rfl ?_
    refine kg_iconst (v := 0) cx dX1_append_40 (by decide) ?_
    refine kg_iadd cx dX1_append_41 ?_
    refine kg_top (nI ((sz + 1) * 7 + 0)) (nI_add _ 0) ?_
    refine kg_iload_n cx dX1_append_42 rfl ?_
    refine kg_iastN cx 7 0 ((sz + 1) * 7 + 0) rfl rfl (rfl) (by omega) (by decide) (ks_cells (sz + 1) 0 (by decide) _) dX1_append_43 ?_
    refine kg_aload_n cx dX1_append_44 rfl ?_
    refine kg_get (ci := 1) cx 2 0 kfs_X1 rfl (by decide) rfl rfl kf_X1_9 dX1_append_45 ?_
    refine kg_iload cx dX1_append_48 rfl ?_
    refine kg_iconst (v := 1) cx dX1_append_50 (by decide) ?_
    refine kg_iadd cx dX1_append_51 ?_
    refine kg_top (nI ((sz + 1) * 7 + 1)) (nI_add _ 1) ?_
    refine kg_iload_n cx dX1_append_52 rfl ?_
    refine kg_iastN cx 7 0 ((sz + 1) * 7 + 1) rfl rfl (rfl) (by omega) (by decide) (ks_cells (sz + 1) 1 (by decide) _) dX1_append_53 ?_
    refine kg_aload_n cx dX1_append_54 rfl ?_
    refine kg_get (ci := 1) cx 2 0 kfs_X1 rfl (by decide) rfl rfl kf_X1_9 dX1_append_55 ?_
    refine kg_iload cx dX1_append_58 rfl ?_
    refine kg_iconst (v := (nI 2)) cx dX1_append_60 (by decide) ?_
    refine kg_iadd cx dX1_append_61 ?_
    refine kg_top (nI ((sz + 1) * 7 + 2)) (nI_add _ 2) ?_
    refine kg_iload_n cx dX1_append_62 rfl ?_
    refine kg_iastN cx 7 0 ((sz + 1) * 7 + 2) rfl rfl (rfl) (by omega) (by decide) (ks_cells (sz + 1) 2 (by decide) _) dX1_append_63 ?_
    refine kg_aload_n cx dX1_append_64 rfl ?_
    refine kg_get (ci := 1) cx 2 0 kfs_X1 rfl (by decide) rfl rfl kf_X1_9 dX1_append_65 ?_
    refine kg_iload cx dX1_append_68 rfl ?_
    refine kg_iconst (v := (nI 3)) cx dX1_append_70 (by decide) ?_
    refine kg_iadd cx dX1_append_71 ?_
    refine kg_top (nI ((sz + 1) * 7 + 3)) (nI_add _ 3) ?_
    refine kg_iload cx dX1_append_72 rfl ?_
    refine kg_iastN cx 7 0 ((sz + 1) * 7 + 3) rfl rfl (rfl) (by omega) (by decide) (ks_cells (sz + 1) 3 (by decide) _) dX1_append_74 ?_
    refine kg_aload_n cx dX1_append_75 rfl ?_
    refine kg_get (ci := 1) cx 2 0 kfs_X1 rfl (by decide) rfl rfl kf_X1_9 dX1_append_76 ?_
    refine kg_iload cx dX1_append_79 rfl ?_
    refine kg_iconst (v := (nI 4)) cx dX1_append_81 (by decide) ?_
    refine kg_iadd cx dX1_append_82 ?_
    refine kg_top (nI ((sz + 1) * 7 + 4)) (nI_add _ 4) ?_
    refine kg_iload cx dX1_append_83 rfl ?_
    refine kg_iastN cx 7 0 ((sz + 1) * 7 + 4) rfl rfl (rfl) (by omega) (by decide) (ks_cells (sz + 1) 4 (by decide) _) dX1_append_85 ?_
    refine kg_aload_n cx dX1_append_86 rfl ?_
    refine kg_get (ci := 1) cx 2 0 kfs_X1 rfl (by decide) rfl rfl kf_X1_9 dX1_append_87 ?_
    refine kg_iload cx dX1_append_90 rfl ?_
    refine kg_iconst (v := (nI 5)) cx dX1_append_92 (by decide) ?_
    refine kg_iadd cx dX1_append_93 ?_
    refine kg_top (nI ((sz + 1) * 7 + 5)) (nI_add _ 5) ?_
    refine kg_iload cx dX1_append_94 rfl ?_
    refine kg_iastN cx 7 0 ((sz + 1) * 7 + 5) rfl rfl (rfl) (by omega) (by decide) (ks_cells (sz + 1) 5 (by decide) _) dX1_append_96 ?_
    refine kg_aload_n cx dX1_append_97 rfl ?_
    refine kg_get (ci := 1) cx 2 0 kfs_X1 rfl (by decide) rfl rfl kf_X1_9 dX1_append_98 ?_
    refine kg_iload cx dX1_append_101 rfl ?_
    refine kg_bipush (v := (nI 6)) cx dX1_append_103 (by decide) ?_
    refine kg_iadd cx dX1_append_105 ?_
    refine kg_top (nI ((sz + 1) * 7 + 6)) (nI_add _ 6) ?_
    refine kg_iload cx dX1_append_106 rfl ?_
    refine kg_iastN cx 7 0 ((sz + 1) * 7 + 6) rfl rfl (rfl) (by omega) (by decide) (ks_cells (sz + 1) 6 (by decide) _) dX1_append_108 ?_
    refine kg_aload_n cx dX1_append_109 rfl ?_
    refine kg_aload_n cx dX1_append_110 rfl ?_
    refine kg_get (ci := 1) cx 2 5 kfs_X1 rfl (by decide) rfl rfl kf_X1_32 dX1_append_111 ?_
    refine kg_top (nI (sz + 1)) (by simp [ku]) ?_
    refine kg_callV (ci := 1) (na := 1) cx (c_X1_follow l D c ad n (kApp u (sz + 1) k0 (nI t) k2 k3 k4 k5 k6) (sz + 1) t w (by omega) ht (by simp [kApp, ku]) hw (by simp [kApp, ku]; exact hW)) 2 rfl rfl kcd_X1_follow km_X1_40 kin_X1 kim_X1_follow ksl_X1_follow (by decide +kernel) rfl (by decide) (by decide) rfl (Nat.le_of_ble_eq_true rfl) dX1_append_114 (fun _ => kw_adr _ _) (fun v9 u9 h9 => ?_)
    obtain ⟨rfl, h9⟩ := h9
    subst u9
    refine kg_aload_n cx dX1_append_117 rfl ?_
    refine kg_get (ci := 1) cx 2 5 kfs_X1 rfl (by decide) rfl rfl kf_X1_32 dX1_append_118 ?_
    refine kg_top (nI (sz + 1)) (by rw [kFol_F (by decide)]; simp [kApp, ku]) ?_
    exact kg_ireturn cx hr (rfl) _ rfl (⟨rfl, rfl⟩) dX1_append_121
  · exact absurd (by rw [hs]; exact nI_lt (by omega) (by decide)) h1
set_option maxHeartbeats 4000000 in
set_option maxRecDepth 100000 in
/-- Log.appendUndo -/
theorem c_X1_appendUndo (l : Launch) (D : va_G) (c : Nat → ClassId) (ad : Nat → Nat → Nat) (n : Nat) (u : kS) (sz t i : Nat) (x : Int32) (hs : u 14 0 0 = nI sz) (hz : sz < 400) (ht : t < 8) (hi : i ≤ 400) (hT : u 9 i 1 = nI t) : kC l D c ad n yX1_appendUndo (Cond.code yX1_appendUndo cX1_appendUndo 3 (some .int)) 3 73 u [.ref (ad 2 0), .int (nI i), .int x] (fun v u9 => v = some (.int (nI (sz + 1))) ∧ u9 = kFol (kApp u (sz + 1) 1 (nI t) (u 9 i 2) (u 9 i 3) x (u 9 i 4) (nI i)) (sz + 1) t i) := by
  refine kC.mk (by decide) (by simp [Value.category]) (Nat.le_of_ble_eq_true rfl) ?_
  intro p e s m args below meth c9 cx hr
  refine kg_aload_n cx dX1_appendUndo_0 rfl ?_
  refine kg_iconst (v := 1) cx dX1_appendUndo_1 (by decide) ?_
  refine kg_aload_n cx dX1_appendUndo_2 rfl ?_
  refine kg_iload_n cx dX1_appendUndo_3 rfl ?_
  refine kg_iconst (v := 1) cx dX1_appendUndo_4 (by decide) ?_
  refine kg_callV (ci := 1) (na := 2) cx (c_X1_value l D c ad n u i 1 hi (by decide)) 2 rfl rfl kcd_X1_value km_X1_28 kin_X1 kim_X1_value ksl_X1_value (by decide +kernel) rfl (by decide) (by decide) rfl (Nat.le_of_ble_eq_true rfl) dX1_appendUndo_5 (fun _ => kw_adr _ _) (fun v9 u9 h9 => ?_)
  obtain ⟨rfl, h9⟩ := h9
  subst u9
  refine kg_top (nI t) (hT) ?_
  refine kg_aload_n cx dX1_appendUndo_8 rfl ?_
  refine kg_iload_n cx dX1_appendUndo_9 rfl ?_
  refine kg_iconst (v := (nI 2)) cx dX1_appendUndo_10 (by decide) ?_
  refine kg_callV (ci := 1) (na := 2) cx (c_X1_value l D c ad n u i 2 hi (by decide)) 2 rfl rfl kcd_X1_value km_X1_28 kin_X1 kim_X1_value ksl_X1_value (by decide +kernel) rfl (by decide) (by decide) rfl (Nat.le_of_ble_eq_true rfl) dX1_appendUndo_11 (fun _ => kw_adr _ _) (fun v9 u9 h9 => ?_)
  obtain ⟨rfl, h9⟩ := h9
  subst u9
  refine kg_aload_n cx dX1_appendUndo_14 rfl ?_
  refine kg_iload_n cx dX1_appendUndo_15 rfl ?_
  refine kg_iconst (v := (nI 3)) cx dX1_appendUndo_16 (by decide) ?_
  refine kg_callV (ci := 1) (na := 2) cx (c_X1_value l D c ad n u i 3 hi (by decide)) 2 rfl rfl kcd_X1_value km_X1_28 kin_X1 kim_X1_value ksl_X1_value (by decide +kernel) rfl (by decide) (by decide) rfl (Nat.le_of_ble_eq_true rfl) dX1_appendUndo_17 (fun _ => kw_adr _ _) (fun v9 u9 h9 => ?_)
  obtain ⟨rfl, h9⟩ := h9
  subst u9
  refine kg_iload_n cx dX1_appendUndo_20 rfl ?_
  refine kg_aload_n cx dX1_appendUndo_21 rfl ?_
  refine kg_iload_n cx dX1_appendUndo_22 rfl ?_
  refine kg_iconst (v := (nI 4)) cx dX1_appendUndo_23 (by decide) ?_
  refine kg_callV (ci := 1) (na := 2) cx (c_X1_value l D c ad n u i 4 hi (by decide)) 2 rfl rfl kcd_X1_value km_X1_28 kin_X1 kim_X1_value ksl_X1_value (by decide +kernel) rfl (by decide) (by decide) rfl (Nat.le_of_ble_eq_true rfl) dX1_appendUndo_24 (fun _ => kw_adr _ _) (fun v9 u9 h9 => ?_)
  obtain ⟨rfl, h9⟩ := h9
  subst u9
  refine kg_iload_n cx dX1_appendUndo_27 rfl ?_
  refine kg_callV (ci := 1) (na := 7) cx (c_X1_append l D c ad n u sz t i 1 (u 9 i 2) (u 9 i 3) x (u 9 i 4) (nI i) hs hz ht hi (fun _ => rfl)) 2 rfl rfl kcd_X1_append km_X1_36 kin_X1 kim_X1_append ksl_X1_append (by decide +kernel) rfl (by decide) (by decide) rfl (Nat.le_of_ble_eq_true rfl) dX1_appendUndo_28 (fun _ => kw_adr _ _) (fun v9 u9 h9 => ?_)
  obtain ⟨rfl, h9⟩ := h9
  subst u9
  exact kg_ireturn cx hr (rfl) _ rfl (⟨rfl, rfl⟩) dX1_appendUndo_31
set_option maxHeartbeats 4000000 in
set_option maxRecDepth 100000 in
/-- Log.appendLast -/
theorem c_X1_appendLast (l : Launch) (D : va_G) (c : Nat → ClassId) (ad : Nat → Nat → Nat) (n : Nat) (u : kS) (sz t : Nat) (k0 : Int32) (hs : u 14 0 0 = nI sz) (hz : sz < 400) (ht : t < 8) (hk : k0 ≠ 1) : kC l D c ad n yX1_appendLast (Cond.code yX1_appendLast cX1_appendLast 3 (some .int)) 3 73 u [.ref (ad 2 0), .int k0, .int (nI t)] (fun v u9 => v = some (.int (nI (sz + 1))) ∧ u9 = kFol (kApp u (sz + 1) k0 (nI t) (-1) (-1) (-1) (-1) (-1)) (sz + 1) t 0) := by
  refine kC.mk (by decide) (by simp [Value.category]) (Nat.le_of_ble_eq_true rfl) ?_
  intro p e s m args below meth c9 cx hr
  refine kg_aload_n cx dX1_appendLast_0 rfl ?_
  refine kg_iload_n cx dX1_appendLast_1 rfl ?_
  refine kg_iload_n cx dX1_appendLast_2 rfl ?_
  refine kg_iconst (v := (-1)) cx dX1_appendLast_3 (by decide) ?_
  refine kg_iconst (v := (-1)) cx dX1_appendLast_4 (by decide) ?_
  refine kg_iconst (v := (-1)) cx dX1_appendLast_5 (by decide) ?_
  refine kg_iconst (v := (-1)) cx dX1_appendLast_6 (by decide) ?_
  refine kg_iconst (v := (-1)) cx dX1_appendLast_7 (by decide) ?_
  refine kg_callV (ci := 1) (na := 7) cx (c_X1_append l D c ad n u sz t 0 k0 (-1) (-1) (-1) (-1) (-1) hs hz ht (by decide) (fun h => absurd h hk)) 2 rfl rfl kcd_X1_append km_X1_36 kin_X1 kim_X1_append ksl_X1_append (by decide +kernel) rfl (by decide) (by decide) rfl (Nat.le_of_ble_eq_true rfl) dX1_appendLast_8 (fun _ => kw_adr _ _) (fun v9 u9 h9 => ?_)
  obtain ⟨rfl, h9⟩ := h9
  subst u9
  exact kg_ireturn cx hr (rfl) _ rfl (⟨rfl, rfl⟩) dX1_appendLast_11
/-- FLUSHED up to x, or the last record -/
def kFlu (u : kS) (x : Int32) : kS := ku u 15 0 0 (if u 15 0 0 < (if u 14 0 0 < x then u 14 0 0 else x) then (if u 14 0 0 < x then u 14 0 0 else x) else u 15 0 0)
set_option maxHeartbeats 4000000 in
set_option maxRecDepth 100000 in
/-- Log.flushTo -/
theorem c_X1_flushTo (l : Launch) (D : va_G) (c : Nat → ClassId) (ad : Nat → Nat → Nat) (n : Nat) (u : kS) (x : Int32) : kC l D c ad n yX1_flushTo (Cond.code yX1_flushTo cX1_flushTo 2 none) 1 16 u [.ref (ad 2 0), .int x] (fun v u9 => v = none ∧ u9 = kFlu u x) := by
  refine kC.mk (by decide) (by simp [Value.category]) (Nat.le_of_ble_eq_true rfl) ?_
  intro p e s m args below meth c9 cx hr
  refine kg_aload_n cx dX1_flushTo_0 rfl ?_
  refine kg_aload_n cx dX1_flushTo_1 rfl ?_
  refine kg_get (ci := 1) cx 2 6 kfs_X1 rfl (by decide) rfl rfl kf_X1_44 dX1_flushTo_2 ?_
  refine kg_iload_n cx dX1_flushTo_5 rfl ?_
  refine kg_aload_n cx dX1_flushTo_6 rfl ?_
  refine kg_get (ci := 1) cx 2 5 kfs_X1 rfl (by decide) rfl rfl kf_X1_32 dX1_flushTo_7 ?_
  refine kg_mmin cx km_X1_47 ⟨Nat.le_of_ble_eq_true rfl, Nat.le_of_ble_eq_true rfl⟩ (by decide) dX1_flushTo_10 ?_
  refine kg_mmax cx km_X1_52 ⟨Nat.le_of_ble_eq_true rfl, Nat.le_of_ble_eq_true rfl⟩ (by decide) dX1_flushTo_13 ?_
  refine kg_put (ci := 1) (ty := .int) cx 2 6 kfs_X1 tyX1 tyX1_ok nmX1 rfl (by decide) rfl (Nat.le_of_ble_eq_true rfl) kf_X1_44 rfl (by decide +kernel) rfl rfl (ks_flushed _) dX1_flushTo_16 ?_
  exact kg_return cx hr _ rfl (⟨rfl, rfl⟩) dX1_flushTo_19
def kFols (u : kS) (T Wd : Nat → Nat) : Nat → kS
  | 0 => u
  | k + 1 => kFol (kFols u T Wd k) (k + 1) (T (k + 1)) (Wd (k + 1))
theorem kFols_F {u : kS} {T Wd : Nat → Nat} {F a b : Nat} (h : F ≠ 10 ∧ F ≠ 11 ∧ F ≠ 12 ∧ F ≠ 13) : ∀ k, kFols u T Wd k F a b = u F a b
  | 0 => rfl
  | k + 1 => by
    show kFol _ _ _ _ F a b = _
    rw [kFol_F h]
    exact kFols_F h k
/-- the log cut at fl, what followed from its records forgotten -/
def kCut (u : kS) (fl : Nat) : kS := kfl (kfl (kfl (ku u 14 0 0 (nI fl)) 11 8 0) 12 8 0) 13 8 0
theorem kCut_F {u : kS} {fl F a b : Nat} (h : F ≠ 14 ∧ F ≠ 11 ∧ F ≠ 12 ∧ F ≠ 13) : kCut u fl F a b = u F a b := by
  obtain ⟨h0, h1, h2, h3⟩ := h
  simp [kCut, kfl, ku, h0, h1, h2, h3]
set_option maxHeartbeats 4000000 in
set_option maxRecDepth 100000 in
/-- Log.dropUnflushed -/
theorem c_X1_dropUnflushed (l : Launch) (D : va_G) (c : Nat → ClassId) (ad : Nat → Nat → Nat) (n : Nat) (u : kS) (fl : Nat) (T Wd : Nat → Nat) (hf : u 15 0 0 = nI fl) (hl : fl ≤ 400) (hT : ∀ i, i ≤ fl → 1 ≤ i → u 9 i 1 = nI (T i) ∧ T i < 8) (hW : ∀ i, i ≤ fl → 1 ≤ i → u 9 i 0 = 1 → u 9 i 6 = nI (Wd i)) (hW4 : ∀ i, Wd i ≤ 400) : kC l D c ad n yX1_dropUnflushed (Cond.code yX1_dropUnflushed cX1_dropUnflushed 3 (some .int)) 2 45 u [.ref (ad 2 0)] (fun v u9 => v = some (.int (u 14 0 0 - u 15 0 0)) ∧ u9 = kFols (kCut u fl) T Wd fl) := by
  refine kC.mk (by decide) (by simp [Value.category]) (Nat.le_of_ble_eq_true rfl) ?_
  intro p e s m args below meth c9 cx hr
  refine kg_aload_n cx dX1_dropUnflushed_0 rfl ?_
  refine kg_get (ci := 1) cx 2 5 kfs_X1 rfl (by decide) rfl rfl kf_X1_32 dX1_dropUnflushed_1 ?_
  refine kg_aload_n cx dX1_dropUnflushed_4 rfl ?_
  refine kg_get (ci := 1) cx 2 6 kfs_X1 rfl (by decide) rfl rfl kf_X1_44 dX1_dropUnflushed_5 ?_
  refine kg_isub cx dX1_dropUnflushed_8 ?_
  refine kg_istore_n cx dX1_dropUnflushed_9 (by decide) ?_
  refine kg_aload_n cx dX1_dropUnflushed_10 rfl ?_
  refine kg_aload_n cx dX1_dropUnflushed_11 rfl ?_
  refine kg_get (ci := 1) cx 2 6 kfs_X1 rfl (by decide) rfl rfl kf_X1_44 dX1_dropUnflushed_12 ?_
  refine kg_top (nI fl) (hf) ?_
  refine kg_put (ci := 1) (ty := .int) cx 2 5 kfs_X1 tyX1 tyX1_ok nmX1 rfl (by decide) rfl (Nat.le_of_ble_eq_true rfl) kf_X1_32 rfl (by decide +kernel) rfl rfl (ks_size _) dX1_dropUnflushed_15 ?_
  refine kg_aload_n cx dX1_dropUnflushed_18 rfl ?_
  refine kg_get (ci := 1) cx 2 2 kfs_X1 rfl (by decide) rfl rfl kf_X1_19 dX1_dropUnflushed_19 ?_
  refine kg_iconst (v := 0) cx dX1_dropUnflushed_22 (by decide) ?_
  refine kg_callS (na := 2) cx (c_fill l D c (q0 := 9) 0 rfl (by decide)) kcd_J7_fill_53178 km_X1_55 kin_J7 kst_J7_fill_53178 (by decide +kernel) rfl (by decide) (by decide) rfl (Nat.le_of_ble_eq_true rfl) dX1_dropUnflushed_23 (fun _ => k_set_adr (q := 9) rfl) (fun v9 u9 h9 => ?_)
  obtain rfl := h9
  refine kg_eq (ks_fill_lastUpdate 8 0) rfl rfl rfl ?_
  refine kg_aload_n cx dX1_dropUnflushed_26 rfl ?_
  refine kg_get (ci := 1) cx 2 3 kfs_X1 rfl (by decide) rfl rfl kf_X1_22 dX1_dropUnflushed_27 ?_
  refine kg_iconst (v := 0) cx dX1_dropUnflushed_30 (by decide) ?_
  refine kg_callS (na := 2) cx (c_fill l D c (q0 := 10) 0 rfl (by decide)) kcd_J7_fill_53178 km_X1_55 kin_J7 kst_J7_fill_53178 (by decide +kernel) rfl (by decide) (by decide) rfl (Nat.le_of_ble_eq_true rfl) dX1_dropUnflushed_31 (fun _ => k_set_adr (q := 10) rfl) (fun v9 u9 h9 => ?_)
  obtain rfl := h9
  refine kg_eq (ks_fill_lastOver 8 0) rfl rfl rfl ?_
  refine kg_aload_n cx dX1_dropUnflushed_34 rfl ?_
  refine kg_get (ci := 1) cx 2 4 kfs_X1 rfl (by decide) rfl rfl kf_X1_25 dX1_dropUnflushed_35 ?_
  refine kg_iconst (v := 0) cx dX1_dropUnflushed_38 (by decide) ?_
  refine kg_callS (na := 2) cx (c_fill l D c (q0 := 11) 0 rfl (by decide)) kcd_J7_fill_53178 km_X1_55 kin_J7 kst_J7_fill_53178 (by decide +kernel) rfl (by decide) (by decide) rfl (Nat.le_of_ble_eq_true rfl) dX1_dropUnflushed_39 (fun _ => k_set_adr (q := 11) rfl) (fun v9 u9 h9 => ?_)
  obtain rfl := h9
  refine kg_eq (ks_fill_openUpdates 8 0) rfl rfl rfl ?_
  refine kg_iconst (v := 1) cx dX1_dropUnflushed_42 (by decide) ?_
  refine kg_istore_n cx dX1_dropUnflushed_43 (by decide) ?_
  have loop : ∀ (k i : Nat), fl - i = k → i ≤ fl → kgC p l e 2 45 s m args below meth c9 3 D c ad n u (fun v u9 => v = some (.int (u 14 0 0 - u 15 0 0)) ∧ u9 = kFols (kCut u fl) T Wd fl) (kFols (kCut u fl) T Wd i) 44 [some (.ref (ad 2 0)), some (.int (u 14 0 0 - u 15 0 0)), some (.int (nI (i + 1)))] [] := by
    intro k
    induction k with
    | zero =>
      intro i hk hi
      have e8 : i = fl := by omega
      subst e8
      refine kg_iload_n cx dX1_dropUnflushed_44 rfl ?_
      refine kg_aload_n cx dX1_dropUnflushed_45 rfl ?_
      refine kg_get (ci := 1) cx 2 5 kfs_X1 rfl (by decide) rfl rfl kf_X1_32 dX1_dropUnflushed_46 ?_
      refine kg_top (nI i) (by rw [kFols_F (by decide)]; simp [kCut, kfl, ku]) ?_
      refine kg_icmp_gt cx 63 dX1_dropUnflushed_49 (by decide) (fun h1 => ?_) (fun h1 => ?_)
      · refine kg_iload_n cx dX1_dropUnflushed_63 rfl ?_
        exact kg_ireturn cx hr (rfl) _ rfl (⟨rfl, rfl⟩) dX1_dropUnflushed_64
      · exact absurd (nI_lt (show i < i + 1 by omega) (by omega)) h1
    | succ k ih =>
      intro i hk hi
      refine kg_iload_n cx dX1_dropUnflushed_44 rfl ?_
      refine kg_aload_n cx dX1_dropUnflushed_45 rfl ?_
      refine kg_get (ci := 1) cx 2 5 kfs_X1 rfl (by decide) rfl rfl kf_X1_32 dX1_dropUnflushed_46 ?_
      refine kg_top (nI fl) (by rw [kFols_F (by decide)]; simp [kCut, kfl, ku]) ?_
      refine kg_icmp_gt cx 63 dX1_dropUnflushed_49 (by decide) (fun h1 => ?_) (fun h1 => ?_)
      · exact absurd h1 (nI_nlt (show i + 1 ≤ fl by omega) (by omega))
      · refine kg_aload_n cx dX1_dropUnflushed_52 rfl ?_
        refine kg_iload_n cx dX1_dropUnflushed_53 rfl ?_
        refine kg_callV (ci := 1) (na := 1) cx (c_X1_follow l D c ad n (kFols (kCut u fl) T Wd i) (i + 1) (T (i + 1)) (Wd (i + 1)) (by omega) (hT (i + 1) (by omega) (by omega)).2 (by rw [kFols_F (by decide), kCut_F (by decide)]; exact (hT (i + 1) (by omega) (by omega)).1) (hW4 _) (by rw [kFols_F (by decide), kCut_F (by decide), kFols_F (by decide), kCut_F (by decide)]; exact hW (i + 1) (by omega) (by omega))) 2 rfl rfl kcd_X1_follow km_X1_40 kin_X1 kim_X1_follow ksl_X1_follow (by decide +kernel) rfl (by decide) (by decide) rfl (Nat.le_of_ble_eq_true rfl) dX1_dropUnflushed_54 (fun _ => kw_adr _ _) (fun v9 u9 h9 => ?_)
        obtain ⟨rfl, h9⟩ := h9
        subst u9
        refine kg_iinc (v := nI (i + 1 + 1)) cx dX1_dropUnflushed_57 rfl (nI_1 _) (by decide) ?_
        refine kg_goto cx 44 dX1_dropUnflushed_60 (by decide) ?_
        exact ih (i + 1) (by omega) (by omega)
  exact loop fl 0 rfl (Nat.zero_le _)
end
section
/-- r: the least frame that has the page pg, or -1 -/
def kFind (u : kS) (n : Nat) (pg r : Int32) : Prop := (∃ f, f < n ∧ r = nI f ∧ u 1 f 0 = pg ∧ ∀ j, j < f → u 1 j 0 ≠ pg) ∨ (r = -1 ∧ ∀ j, j < n → u 1 j 0 ≠ pg)
theorem nI_ge0 {f : Nat} (h : f < 2 ^ 31) : (0 : Int32) ≤ nI f := nI_pos' h
set_option maxHeartbeats 4000000 in
set_option maxRecDepth 100000 in
/-- Pool.find -/
theorem c_X2_find (l : Launch) (D : va_G) (c : Nat → ClassId) (ad : Nat → Nat → Nat) (n : Nat) (hn : n ≤ 8) (u : kS) (pg : Int32) : kC l D c ad n yX2_find (Cond.code yX2_find cX2_find 3 (some .int)) 0 0 u [.ref (ad 1 0), .int pg] (fun v u9 => (∃ r, v = some (.int r) ∧ kFind u n pg r) ∧ u9 = u) := by
  refine kC.mk (by decide) (by simp [Value.category]) (Nat.le_of_ble_eq_true rfl) ?_
  intro p e s m args below meth c9 cx hr
  refine kg_iconst (v := 0) cx dX2_find_0 (by decide) ?_
  refine kg_istore_n cx dX2_find_1 (by decide) ?_
  have loop : ∀ (k i : Nat), n - i = k → i ≤ n → (∀ j, j < i → u 1 j 0 ≠ pg) → kgC p l e 0 0 s m args below meth c9 3 D c ad n u (fun v u9 => (∃ r, v = some (.int r) ∧ kFind u n pg r) ∧ u9 = u) u 2 [some (.ref (ad 1 0)), some (.int pg), some (.int (nI i))] [] := by
    intro k
    induction k with
    | zero =>
      intro i hk hi hj
      have e8 : i = n := by omega
      subst i
      refine kg_iload_n cx dX2_find_2 rfl ?_
      refine kg_aload_n cx dX2_find_3 rfl ?_
      refine kg_get (ci := 2) cx 1 1 kfs_X2 rfl (by decide) rfl rfl kf_X2_18 dX2_find_4 ?_
      refine kg_alen (v := nI n) cx 4 2 rfl rfl rfl dX2_find_7 ?_
      refine kg_icmp_ge cx 32 dX2_find_8 (by decide) (fun h1 => ?_) (fun h1 => ?_)
      · refine kg_iconst (v := (-1)) cx dX2_find_32 (by decide) ?_
        exact kg_ireturn cx hr (rfl) _ rfl (⟨⟨_, rfl, Or.inr ⟨rfl, hj⟩⟩, rfl⟩) dX2_find_33
      · exact absurd (Int32.le_refl _) h1
    | succ k ih =>
      intro i hk hi hj
      have hin : i < n := by omega
      refine kg_iload_n cx dX2_find_2 rfl ?_
      refine kg_aload_n cx dX2_find_3 rfl ?_
      refine kg_get (ci := 2) cx 1 1 kfs_X2 rfl (by decide) rfl rfl kf_X2_18 dX2_find_4 ?_
      refine kg_alen (v := nI n) cx 4 2 rfl rfl rfl dX2_find_7 ?_
      refine kg_icmp_ge cx 32 dX2_find_8 (by decide) (fun h1 => ?_) (fun h1 => ?_)
      · exact absurd h1 (nI_ge hin (by omega))
      · refine kg_aload_n cx dX2_find_11 rfl ?_
        refine kg_get (ci := 2) cx 1 1 kfs_X2 rfl (by decide) rfl rfl kf_X2_18 dX2_find_12 ?_
        refine kg_iload_n cx dX2_find_15 rfl ?_
        refine kg_aaldN cx 4 2 i rfl rfl (rfl) (hin) (by omega) (k_if hin _) dX2_find_16 ?_
        refine kg_getN (ci := 0) cx (44 + i) 1 kfs_X0 rfl (by decide) (kw_at_o hin) rfl (kfn_X2_23 cx.2.2.2.2.2.2.2.2) dX2_find_17 ?_
        refine kg_iload_n cx dX2_find_20 rfl ?_
        refine kg_icmp_ne cx 26 dX2_find_21 (by decide) (fun h2 => ?_) (fun h2 => ?_)
        · refine kg_iinc (v := nI (i + 1)) cx dX2_find_26 rfl (nI_1 i) (by decide) ?_
          refine kg_goto cx 2 dX2_find_29 (by decide) ?_
          refine ih (i + 1) (by omega) (by omega) (fun j hj9 => ?_)
          by_cases e9 : j = i
          · rw [e9]; exact h2
          · exact hj j (by omega)
        · refine kg_iload_n cx dX2_find_24 rfl ?_
          exact kg_ireturn cx hr (rfl) _ rfl (⟨⟨_, rfl, Or.inl ⟨i, hin, rfl, h2, hj⟩⟩, rfl⟩) dX2_find_25
  exact loop n 0 rfl (Nat.zero_le _) (fun j h => absurd h (Nat.not_lt_zero _))
def kO : Option Nat → Int32
  | some f => nI f
  | none => -1
/-- the hand goes round from h, k frames far at most: what then is, and the frame that it takes -/
def kTurn (n : Nat) (fl : Int32) : Nat → kS → Nat → kS × Option Nat
  | 0, u, _ => (u, none)
  | k + 1, u, h =>
    if kMay u h fl then
      if u 4 h 0 = 0 then (ku u 6 0 0 (nI (if h + 1 < n then h + 1 else 0)), some h)
      else kTurn n fl k (ku (ku u 6 0 0 (nI (if h + 1 < n then h + 1 else 0))) 4 h 0 0) (if h + 1 < n then h + 1 else 0)
    else kTurn n fl k (ku u 6 0 0 (nI (if h + 1 < n then h + 1 else 0))) (if h + 1 < n then h + 1 else 0)
theorem kTurn_s {n : Nat} {fl : Int32} {k : Nat} {u : kS} {h : Nat} : kTurn n fl (k + 1) u h =
    if kMay u h fl then
      if u 4 h 0 = 0 then (ku u 6 0 0 (nI (if h + 1 < n then h + 1 else 0)), some h)
      else kTurn n fl k (ku (ku u 6 0 0 (nI (if h + 1 < n then h + 1 else 0))) 4 h 0 0) (if h + 1 < n then h + 1 else 0)
    else kTurn n fl k (ku u 6 0 0 (nI (if h + 1 < n then h + 1 else 0))) (if h + 1 < n then h + 1 else 0) := rfl
theorem kTurn_F {n : Nat} {fl : Int32} {F a b : Nat} (h4 : F ≠ 4) (h6 : F ≠ 6) : ∀ (k : Nat) (u : kS) (h : Nat), (kTurn n fl k u h).1 F a b = u F a b
  | 0, _, _ => rfl
  | k + 1, u, h => by
    unfold kTurn
    split
    · split
      · exact ku_F h6
      · rw [kTurn_F h4 h6 k, ku_F h4, ku_F h6]
    · rw [kTurn_F h4 h6 k, ku_F h6]
theorem kTurn_lt {n : Nat} {fl : Int32} : ∀ (k : Nat) (u : kS) (h f : Nat), h < n → (kTurn n fl k u h).2 = some f → f < n
  | 0, _, _, _, _, e => by cases e
  | k + 1, u, h, f, hh, e => by
    have h9 : (if h + 1 < n then h + 1 else 0) < n := by split <;> omega
    unfold kTurn at e
    split at e
    · split at e
      · cases e; exact hh
      · exact kTurn_lt k _ _ f h9 e
    · exact kTurn_lt k _ _ f h9 e
theorem kMay_6 {u : kS} {x : Int32} {f : Nat} {fl : Int32} : kMay (ku u 6 0 0 x) f fl ↔ kMay u f fl := by simp [kMay, ku]
set_option maxHeartbeats 4000000 in
set_option maxRecDepth 100000 in
/-- Pool.turnHand -/
theorem c_X2_turnHand (l : Launch) (D : va_G) (c : Nat → ClassId) (ad : Nat → Nat → Nat) (n : Nat) (hn : n ≤ 8) (u : kS) (fl : Int32) (h : Nat) (hh : h < n) (hH : u 6 0 0 = nI h) : kC l D c ad n yX2_turnHand (Cond.code yX2_turnHand cX2_turnHand 4 (some .int)) 1 21 u [.ref (ad 1 0), .int fl] (fun v u9 => v = some (.int (kO (kTurn n fl (2 * n) u h).2)) ∧ u9 = (kTurn n fl (2 * n) u h).1) := by
  refine kC.mk (by decide) (by simp [Value.category]) (Nat.le_of_ble_eq_true rfl) ?_
  intro p e s m args below meth c9 cx hr
  refine kg_iconst (v := 0) cx dX2_turnHand_0 (by decide) ?_
  refine kg_istore_n cx dX2_turnHand_1 (by decide) ?_
  have loop : ∀ (k i : Nat) (v : kS) (h2 : Nat), 2 * n - i = k → i ≤ 2 * n → h2 < n → v 6 0 0 = nI h2 → kTurn n fl (2 * n) u h = kTurn n fl k v h2 → kgC p l e 1 21 s m args below meth c9 4 D c ad n u (fun v u9 => v = some (.int (kO (kTurn n fl (2 * n) u h).2)) ∧ u9 = (kTurn n fl (2 * n) u h).1) v 2 [some (.ref (ad 1 0)), some (.int fl), some (.int (nI i)), none] [] := by
    intro k
    induction k with
    | zero =>
      intro i v h2 hk hi hlt hv he
      have e8 : i = 2 * n := by omega
      subst i
      refine kg_iload_n cx dX2_turnHand_2 rfl ?_
      refine kg_iconst (v := (nI 2)) cx dX2_turnHand_3 (by decide) ?_
      refine kg_aload_n cx dX2_turnHand_4 rfl ?_
      refine kg_get (ci := 2) cx 1 1 kfs_X2 rfl (by decide) rfl rfl kf_X2_18 dX2_turnHand_5 ?_
      refine kg_alen (v := nI n) cx 4 2 rfl rfl rfl dX2_turnHand_8 ?_
      refine kg_imul cx dX2_turnHand_9 ?_
      refine kg_top (nI (2 * n)) (pk_mul 2 n) ?_
      refine kg_icmp_ge cx 83 dX2_turnHand_10 (by decide) (fun h1 => ?_) (fun h1 => ?_)
      · refine kg_iconst (v := (-1)) cx dX2_turnHand_83 (by decide) ?_
        exact kg_ireturn cx hr (rfl) _ rfl (⟨by rw [he]; rfl, by rw [he]; rfl⟩) dX2_turnHand_84
      · exact absurd (Int32.le_refl _) h1
    | succ k ih =>
      intro i v h2 hk hi hlt hv he
      refine kg_iload_n cx dX2_turnHand_2 rfl ?_
      refine kg_iconst (v := (nI 2)) cx dX2_turnHand_3 (by decide) ?_
      refine kg_aload_n cx dX2_turnHand_4 rfl ?_
      refine kg_get (ci := 2) cx 1 1 kfs_X2 rfl (by decide) rfl rfl kf_X2_18 dX2_turnHand_5 ?_
      refine kg_alen (v := nI n) cx 4 2 rfl rfl rfl dX2_turnHand_8 ?_
      refine kg_imul cx dX2_turnHand_9 ?_
      refine kg_top (nI (2 * n)) (pk_mul 2 n) ?_
      refine kg_icmp_ge cx 83 dX2_turnHand_10 (by decide) (fun h1 => ?_) (fun h1 => ?_)
      · exact absurd h1 (nI_ge (show i < 2 * n by omega) (by omega))
      · refine kg_aload_n cx dX2_turnHand_13 rfl ?_
        refine kg_get (ci := 2) cx 1 2 kfs_X2 rfl (by decide) rfl rfl kf_X2_45 dX2_turnHand_14 ?_
        refine kg_top (nI h2) (hv) ?_
        refine kg_istore_n cx dX2_turnHand_17 (by decide) ?_
        refine kg_aload_n cx dX2_turnHand_18 rfl ?_
        refine kg_iload_n cx dX2_turnHand_19 rfl ?_
        refine kg_iconst (v := 1) cx dX2_turnHand_20 (by decide) ?_
        refine kg_iadd cx dX2_turnHand_21 ?_
        refine kg_top (nI (h2 + 1)) (nI_1 h2) ?_
        refine kg_aload_n cx dX2_turnHand_22 rfl ?_
        refine kg_get (ci := 2) cx 1 1 kfs_X2 rfl (by decide) rfl rfl kf_X2_18 dX2_turnHand_23 ?_
        refine kg_alen (v := nI n) cx 4 2 rfl rfl rfl dX2_turnHand_26 ?_
        refine kg_icmp_ge cx 36 dX2_turnHand_27 (by decide) (fun h4 => ?_) (fun h4 => ?_)
        · refine kg_iconst (v := 0) cx dX2_turnHand_36 (by decide) ?_
          have e3 : (if h2 + 1 < n then h2 + 1 else 0) = 0 := if_neg (fun q => absurd (nI_lt q (by omega)) (Int32.not_lt.mpr h4))
          have hlt3 : 0 < n := by omega
          refine kg_put (ci := 2) (ty := .int) cx 1 2 kfs_X2 tyX2 tyX2_ok nmX2 rfl (by decide) rfl (Nat.le_of_ble_eq_true rfl) kf_X2_45 rfl (by decide +kernel) rfl rfl (ks_hand _) dX2_turnHand_37 ?_
          refine kg_aload_n cx dX2_turnHand_40 rfl ?_
          refine kg_get (ci := 2) cx 1 1 kfs_X2 rfl (by decide) rfl rfl kf_X2_18 dX2_turnHand_41 ?_
          refine kg_iload_n cx dX2_turnHand_44 rfl ?_
          refine kg_aaldN cx 4 2 h2 rfl rfl (rfl) (hlt) (by omega) (k_if hlt _) dX2_turnHand_45 ?_
          refine kg_iload_n cx dX2_turnHand_46 rfl ?_
          refine kg_callVN (ci := 0) (na := 1) cx (c_X0_mayBeTaken l D c ad n (ku v 6 0 0 (nI 0)) h2 fl hlt) (44 + h2) rfl (kw_at_o hlt) kcd_X0_mayBeTaken (kmn_X2_48 cx.2.2.2.2.2.2.2.2) kin_X0 kim_X0_mayBeTaken ksl_X0_mayBeTaken (by decide +kernel) rfl (by decide) (by decide) rfl (Nat.le_of_ble_eq_true rfl) dX2_turnHand_47 (fun _ => kw_adr _ _) (fun v9 u9 h9 => ?_)
          obtain ⟨rfl, h9⟩ := h9
          subst u9
          refine kg_if_eq cx 77 dX2_turnHand_50 (by decide) (fun h5 => ?_) (fun h5 => ?_)
          · refine kg_iinc (v := nI (i + 1)) cx dX2_turnHand_77 rfl (nI_1 i) (by decide) ?_
            refine kg_goto cx 2 dX2_turnHand_80 (by decide) ?_
            refine kg_lo (lo9 := [some (.ref (ad 1 0)), some (.int fl), some (.int (nI (i + 1))), none]) (fun j x9 hx => ?_) ?_
            · match j, hx with
              | 0, hx => exact hx
              | 1, hx => exact hx
              | 2, hx => exact hx
              | 3, hx => cases hx
              | j + 4, hx => cases hx
            · refine ih (i + 1) (ku v 6 0 0 (nI 0)) 0 (by omega) (by omega) hlt3 (ku_s _ _ _ _ _) ?_
              rw [he, kTurn_s, if_neg (fun q => absurd ((kb_1 (kMay_6.mpr q)).symm.trans h5) (by decide)), e3]
          · have hm : kMay v h2 fl := by
              by_cases q : kMay (ku v 6 0 0 (nI 0)) h2 fl
              · exact kMay_6.mp q
              · exact absurd (kb_0 q) h5
            refine kg_aload_n cx dX2_turnHand_53 rfl ?_
            refine kg_get (ci := 2) cx 1 1 kfs_X2 rfl (by decide) rfl rfl kf_X2_18 dX2_turnHand_54 ?_
            refine kg_iload_n cx dX2_turnHand_57 rfl ?_
            refine kg_aaldN cx 4 2 h2 rfl rfl (rfl) (hlt) (by omega) (k_if hlt _) dX2_turnHand_58 ?_
            refine kg_getN (ci := 0) cx (44 + h2) 4 kfs_X0 rfl (by decide) (kw_at_o hlt) rfl (kfn_X2_38 cx.2.2.2.2.2.2.2.2) dX2_turnHand_59 ?_
            refine kg_if_ne cx 67 dX2_turnHand_62 (by decide) (fun h6 => ?_) (fun h6 => ?_)
            · refine kg_aload_n cx dX2_turnHand_67 rfl ?_
              refine kg_get (ci := 2) cx 1 1 kfs_X2 rfl (by decide) rfl rfl kf_X2_18 dX2_turnHand_68 ?_
              refine kg_iload_n cx dX2_turnHand_71 rfl ?_
              refine kg_aaldN cx 4 2 h2 rfl rfl (rfl) (hlt) (by omega) (k_if hlt _) dX2_turnHand_72 ?_
              refine kg_iconst (v := 0) cx dX2_turnHand_73 (by decide) ?_
              refine kg_putN (ci := 0) (ty := .boolean) cx (44 + h2) 4 kfs_X0 tyX0 tyX0_ok nmX0 rfl (by decide) (kw_at_o hlt) (Nat.le_of_ble_eq_true rfl) (kfn_X2_38 cx.2.2.2.2.2.2.2.2) rfl (by decide +kernel) rfl rfl (ks_marked hlt _) dX2_turnHand_74 ?_
              refine kg_iinc (v := nI (i + 1)) cx dX2_turnHand_77 rfl (nI_1 i) (by decide) ?_
              refine kg_goto cx 2 dX2_turnHand_80 (by decide) ?_
              refine kg_lo (lo9 := [some (.ref (ad 1 0)), some (.int fl), some (.int (nI (i + 1))), none]) (fun j x9 hx => ?_) ?_
              · match j, hx with
                | 0, hx => exact hx
                | 1, hx => exact hx
                | 2, hx => exact hx
                | 3, hx => cases hx
                | j + 4, hx => cases hx
              · refine ih (i + 1) (ku (ku v 6 0 0 (nI 0)) 4 h2 0 0) 0 (by omega) (by omega) hlt3 ((ku_F (by decide)).trans (ku_s _ _ _ _ _)) ?_
                rw [he, kTurn_s, if_pos hm, if_neg (fun q => h6 ((ku_F (by decide)).trans q)), e3]
            · refine kg_iload_n cx dX2_turnHand_65 rfl ?_
              have h6 : v 4 h2 0 = 0 := (ku_F (by decide)).symm.trans h6
              exact kg_ireturn cx hr (rfl) _ rfl (⟨by rw [he, kTurn_s, if_pos hm, if_pos h6]; rfl, by rw [he, kTurn_s, if_pos hm, if_pos h6, e3]⟩) dX2_turnHand_66
        · have q4 : h2 + 1 < n := by
            rcases Nat.lt_or_ge (h2 + 1) n with q | q
            · exact q
            · exact absurd (nI_le q (by omega)) h4
          refine kg_iload_n cx dX2_turnHand_30 rfl ?_
          refine kg_iconst (v := 1) cx dX2_turnHand_31 (by decide) ?_
          refine kg_iadd cx dX2_turnHand_32 ?_
          refine kg_top (nI (h2 + 1)) (nI_1 h2) ?_
          refine kg_goto cx 37 dX2_turnHand_33 (by decide) ?_
          have e3 : (if h2 + 1 < n then h2 + 1 else 0) = (h2 + 1) := if_pos q4
          have hlt3 : (h2 + 1) < n := by omega
          refine kg_put (ci := 2) (ty := .int) cx 1 2 kfs_X2 tyX2 tyX2_ok nmX2 rfl (by decide) rfl (Nat.le_of_ble_eq_true rfl) kf_X2_45 rfl (by decide +kernel) rfl rfl (ks_hand _) dX2_turnHand_37 ?_
          refine kg_aload_n cx dX2_turnHand_40 rfl ?_
          refine kg_get (ci := 2) cx 1 1 kfs_X2 rfl (by decide) rfl rfl kf_X2_18 dX2_turnHand_41 ?_
          refine kg_iload_n cx dX2_turnHand_44 rfl ?_
          refine kg_aaldN cx 4 2 h2 rfl rfl (rfl) (hlt) (by omega) (k_if hlt _) dX2_turnHand_45 ?_
          refine kg_iload_n cx dX2_turnHand_46 rfl ?_
          refine kg_callVN (ci := 0) (na := 1) cx (c_X0_mayBeTaken l D c ad n (ku v 6 0 0 (nI (h2 + 1))) h2 fl hlt) (44 + h2) rfl (kw_at_o hlt) kcd_X0_mayBeTaken (kmn_X2_48 cx.2.2.2.2.2.2.2.2) kin_X0 kim_X0_mayBeTaken ksl_X0_mayBeTaken (by decide +kernel) rfl (by decide) (by decide) rfl (Nat.le_of_ble_eq_true rfl) dX2_turnHand_47 (fun _ => kw_adr _ _) (fun v9 u9 h9 => ?_)
          obtain ⟨rfl, h9⟩ := h9
          subst u9
          refine kg_if_eq cx 77 dX2_turnHand_50 (by decide) (fun h5 => ?_) (fun h5 => ?_)
          · refine kg_iinc (v := nI (i + 1)) cx dX2_turnHand_77 rfl (nI_1 i) (by decide) ?_
            refine kg_goto cx 2 dX2_turnHand_80 (by decide) ?_
            refine kg_lo (lo9 := [some (.ref (ad 1 0)), some (.int fl), some (.int (nI (i + 1))), none]) (fun j x9 hx => ?_) ?_
            · match j, hx with
              | 0, hx => exact hx
              | 1, hx => exact hx
              | 2, hx => exact hx
              | 3, hx => cases hx
              | j + 4, hx => cases hx
            · refine ih (i + 1) (ku v 6 0 0 (nI (h2 + 1))) (h2 + 1) (by omega) (by omega) hlt3 (ku_s _ _ _ _ _) ?_
              rw [he, kTurn_s, if_neg (fun q => absurd ((kb_1 (kMay_6.mpr q)).symm.trans h5) (by decide)), e3]
          · have hm : kMay v h2 fl := by
              by_cases q : kMay (ku v 6 0 0 (nI (h2 + 1))) h2 fl
              · exact kMay_6.mp q
              · exact absurd (kb_0 q) h5
            refine kg_aload_n cx dX2_turnHand_53 rfl ?_
            refine kg_get (ci := 2) cx 1 1 kfs_X2 rfl (by decide) rfl rfl kf_X2_18 dX2_turnHand_54 ?_
            refine kg_iload_n cx dX2_turnHand_57 rfl ?_
            refine kg_aaldN cx 4 2 h2 rfl rfl (rfl) (hlt) (by omega) (k_if hlt _) dX2_turnHand_58 ?_
            refine kg_getN (ci := 0) cx (44 + h2) 4 kfs_X0 rfl (by decide) (kw_at_o hlt) rfl (kfn_X2_38 cx.2.2.2.2.2.2.2.2) dX2_turnHand_59 ?_
            refine kg_if_ne cx 67 dX2_turnHand_62 (by decide) (fun h6 => ?_) (fun h6 => ?_)
            · refine kg_aload_n cx dX2_turnHand_67 rfl ?_
              refine kg_get (ci := 2) cx 1 1 kfs_X2 rfl (by decide) rfl rfl kf_X2_18 dX2_turnHand_68 ?_
              refine kg_iload_n cx dX2_turnHand_71 rfl ?_
              refine kg_aaldN cx 4 2 h2 rfl rfl (rfl) (hlt) (by omega) (k_if hlt _) dX2_turnHand_72 ?_
              refine kg_iconst (v := 0) cx dX2_turnHand_73 (by decide) ?_
              refine kg_putN (ci := 0) (ty := .boolean) cx (44 + h2) 4 kfs_X0 tyX0 tyX0_ok nmX0 rfl (by decide) (kw_at_o hlt) (Nat.le_of_ble_eq_true rfl) (kfn_X2_38 cx.2.2.2.2.2.2.2.2) rfl (by decide +kernel) rfl rfl (ks_marked hlt _) dX2_turnHand_74 ?_
              refine kg_iinc (v := nI (i + 1)) cx dX2_turnHand_77 rfl (nI_1 i) (by decide) ?_
              refine kg_goto cx 2 dX2_turnHand_80 (by decide) ?_
              refine kg_lo (lo9 := [some (.ref (ad 1 0)), some (.int fl), some (.int (nI (i + 1))), none]) (fun j x9 hx => ?_) ?_
              · match j, hx with
                | 0, hx => exact hx
                | 1, hx => exact hx
                | 2, hx => exact hx
                | 3, hx => cases hx
                | j + 4, hx => cases hx
              · refine ih (i + 1) (ku (ku v 6 0 0 (nI (h2 + 1))) 4 h2 0 0) (h2 + 1) (by omega) (by omega) hlt3 ((ku_F (by decide)).trans (ku_s _ _ _ _ _)) ?_
                rw [he, kTurn_s, if_pos hm, if_neg (fun q => h6 ((ku_F (by decide)).trans q)), e3]
            · refine kg_iload_n cx dX2_turnHand_65 rfl ?_
              have h6 : v 4 h2 0 = 0 := (ku_F (by decide)).symm.trans h6
              exact kg_ireturn cx hr (rfl) _ rfl (⟨by rw [he, kTurn_s, if_pos hm, if_pos h6]; rfl, by rw [he, kTurn_s, if_pos hm, if_pos h6, e3]⟩) dX2_turnHand_66
  exact loop (2 * n) 0 u h rfl (Nat.zero_le _) hh hH rfl
end
section
/-- room for a page: the least empty frame, or the one that the hand takes -/
def kRoom (u : kS) (n : Nat) (fl : Int32) (h : Nat) (r : Int32) (u9 : kS) : Prop := (∃ f, f < n ∧ u 1 f 0 = -1 ∧ (∀ j, j < f → u 1 j 0 ≠ -1) ∧ r = nI f ∧ u9 = u) ∨ ((∀ j, j < n → u 1 j 0 ≠ -1) ∧ r = kO (kTurn n fl (2 * n) u h).2 ∧ u9 = (kTurn n fl (2 * n) u h).1)
/-- the frame f is written to the page q -/
def kBack (u : kS) (f q : Nat) : kS := ku (ku (kcp u 0 q 5 f) 3 f 0 0) 7 0 0 (u 7 0 0 + 1)
/-- the page p comes into the frame f (that had the page q) -/
def kLoad (u : kS) (p f q : Nat) : kS := if u 3 f 0 = 0 then ku (ku (kcp u 5 f 0 p) 1 f 0 (nI p)) 8 0 0 (u 8 0 0 + 1) else ku (ku (kcp (kBack u f q) 5 f 0 p) 1 f 0 (nI p)) 8 0 0 ((kBack u f q) 8 0 0 + 1)
/-- a page p is brought: r the frame, or -1 -/
def kBring (u : kS) (n : Nat) (p : Nat) (fl : Int32) (h : Nat) (Q : Nat → Nat) (r : Int32) (u9 : kS) : Prop :=
  (∃ f, f < n ∧ u 1 f 0 = nI p ∧ (∀ j, j < f → u 1 j 0 ≠ nI p) ∧ r = nI f ∧ u9 = ku u 4 f 0 1) ∨
  (∃ f, f < n ∧ (∀ j, j < n → u 1 j 0 ≠ nI p) ∧ u 1 f 0 = -1 ∧ (∀ j, j < f → u 1 j 0 ≠ -1) ∧ r = nI f ∧ u9 = ku (kLoad u p f (Q f)) 4 f 0 1) ∨
  (∃ f, f < n ∧ (∀ j, j < n → u 1 j 0 ≠ nI p) ∧ (∀ j, j < n → u 1 j 0 ≠ -1) ∧ (kTurn n fl (2 * n) u h).2 = some f ∧ r = nI f ∧ u9 = ku (kLoad (kTurn n fl (2 * n) u h).1 p f (Q f)) 4 f 0 1) ∨
  ((∀ j, j < n → u 1 j 0 ≠ nI p) ∧ (∀ j, j < n → u 1 j 0 ≠ -1) ∧ (kTurn n fl (2 * n) u h).2 = none ∧ r = -1 ∧ u9 = (kTurn n fl (2 * n) u h).1)
set_option maxHeartbeats 4000000 in
set_option maxRecDepth 100000 in
/-- Pool.roomFor -/
theorem c_X2_roomFor (l : Launch) (D : va_G) (c : Nat → ClassId) (ad : Nat → Nat → Nat) (n : Nat) (hn : n ≤ 8) (u : kS) (fl : Int32) (h : Nat) (hh : h < n) (hH : u 6 0 0 = nI h) : kC l D c ad n yX2_roomFor (Cond.code yX2_roomFor cX2_roomFor 3 (some .int)) 2 44 u [.ref (ad 1 0), .int fl] (fun v u9 => ∃ r, v = some (.int r) ∧ kRoom u n fl h r u9) := by
  refine kC.mk (by decide) (by simp [Value.category]) (Nat.le_of_ble_eq_true rfl) ?_
  intro p e s m args below meth c9 cx hr
  refine kg_aload_n cx dX2_roomFor_0 rfl ?_
  refine kg_iconst (v := (-1)) cx dX2_roomFor_1 (by decide) ?_
  refine kg_callV (ci := 2) (na := 1) cx (c_X2_find l D c ad n hn u (-1)) 1 rfl rfl kcd_X2_find km_X2_27 kin_X2 kim_X2_find ksl_X2_find (by decide +kernel) rfl (by decide) (by decide) rfl (Nat.le_of_ble_eq_true rfl) dX2_roomFor_2 (fun _ => kw_adr _ _) (fun v9 u9 h9 => ?_)
  obtain ⟨⟨r9, rfl, hr9⟩, h9⟩ := h9
  subst u9
  rcases hr9 with ⟨f, hf, rfl, hpf, hlf⟩ | ⟨rfl, hno⟩
  · refine kg_istore_n cx dX2_roomFor_5 (by decide) ?_
    refine kg_iload_n cx dX2_roomFor_6 rfl ?_
    refine kg_if_lt cx 14 dX2_roomFor_7 (by decide) (fun h1 => ?_) (fun h1 => ?_)
    · exact absurd h1 (nI_pos (by omega))
    · refine kg_iload_n cx dX2_roomFor_10 rfl ?_
      refine kg_goto cx 19 dX2_roomFor_11 (by decide) ?_
      exact kg_ireturn cx hr (rfl) _ rfl (⟨_, rfl, Or.inl ⟨f, hf, hpf, hlf, rfl, rfl⟩⟩) dX2_roomFor_19
  · refine kg_istore_n cx dX2_roomFor_5 (by decide) ?_
    refine kg_iload_n cx dX2_roomFor_6 rfl ?_
    refine kg_if_lt cx 14 dX2_roomFor_7 (by decide) (fun h1 => ?_) (fun h1 => ?_)
    · refine kg_aload_n cx dX2_roomFor_14 rfl ?_
      refine kg_iload_n cx dX2_roomFor_15 rfl ?_
      refine kg_callV (ci := 2) (na := 1) cx (c_X2_turnHand l D c ad n hn u fl h hh hH) 1 rfl rfl kcd_X2_turnHand km_X2_42 kin_X2 kim_X2_turnHand ksl_X2_turnHand (by decide +kernel) rfl (by decide) (by decide) rfl (Nat.le_of_ble_eq_true rfl) dX2_roomFor_16 (fun _ => kw_adr _ _) (fun v9 u9 h9 => ?_)
      obtain ⟨rfl, h9⟩ := h9
      subst u9
      exact kg_ireturn cx hr (rfl) _ rfl (⟨_, rfl, Or.inr ⟨hno, rfl, rfl⟩⟩) dX2_roomFor_19
    · exact absurd (by decide) h1
set_option maxHeartbeats 4000000 in
set_option maxRecDepth 100000 in
/-- Pool.writeBack -/
theorem c_X2_writeBack (l : Launch) (D : va_G) (c : Nat → ClassId) (ad : Nat → Nat → Nat) (n : Nat) (hn : n ≤ 8) (u : kS) (f q : Nat) (hf : f < n) (hq : q < 32) (hQ : u 1 f 0 = nI q) : kC l D c ad n yX2_writeBack (Cond.code yX2_writeBack cX2_writeBack 2 none) 1 60 u [.ref (ad 1 0), .ref (ad 13 f)] (fun v u9 => v = none ∧ u9 = kBack u f q) := by
  refine kC.mk (by decide) (by simp [Value.category]) (Nat.le_of_ble_eq_true rfl) ?_
  intro p e s m args below meth c9 cx hr
  refine kg_aload_n cx dX2_writeBack_0 rfl ?_
  refine kg_getN (ci := 0) cx (44 + f) 0 kfs_X0 rfl (by decide) (kw_at_o hf) rfl (kfn_X2_59 cx.2.2.2.2.2.2.2.2) dX2_writeBack_1 ?_
  refine kg_iconst (v := 0) cx dX2_writeBack_4 (by decide) ?_
  refine kg_aload_n cx dX2_writeBack_5 rfl ?_
  refine kg_get (ci := 2) cx 1 0 kfs_X2 rfl (by decide) rfl rfl kf_X2_11 dX2_writeBack_6 ?_
  refine kg_aload_n cx dX2_writeBack_9 rfl ?_
  refine kg_getN (ci := 0) cx (44 + f) 1 kfs_X0 rfl (by decide) (kw_at_o hf) rfl (kfn_X2_23 cx.2.2.2.2.2.2.2.2) dX2_writeBack_10 ?_
  refine kg_top (nI q) (hQ) ?_
  refine kg_aaldAN cx 3 3 q rfl rfl (rfl) (hq) (by decide) (k_if hq _) dX2_writeBack_13 ?_
  refine kg_iconst (v := 0) cx dX2_writeBack_14 (by decide) ?_
  refine kg_bipush (v := (nI 9)) cx dX2_writeBack_15 (by decide) ?_
  refine kg_copyi (N := 9) cx (44 + n + f) (12 + q) 0 km_X2_63 rfl (kw_at_r hf) (kw_at_d hq) (by decide) rfl (by decide) (by decide) ⟨Nat.le_of_ble_eq_true rfl, Nat.le_of_ble_eq_true rfl⟩ (ks_back hq) dX2_writeBack_17 ?_
  refine kg_aload_n cx dX2_writeBack_20 rfl ?_
  refine kg_iconst (v := 0) cx dX2_writeBack_21 (by decide) ?_
  refine kg_putN (ci := 0) (ty := .boolean) cx (44 + f) 3 kfs_X0 tyX0 tyX0_ok nmX0 rfl (by decide) (kw_at_o hf) (Nat.le_of_ble_eq_true rfl) (kfn_X2_52 cx.2.2.2.2.2.2.2.2) rfl (by decide +kernel) rfl rfl (ks_dirty hf _) dX2_writeBack_22 ?_
  refine kg_aload_n cx dX2_writeBack_25 rfl ?_
  refine kg_dup cx dX2_writeBack_26 rfl ?_
  refine kg_get (ci := 2) cx 1 3 kfs_X2 rfl (by decide) rfl rfl kf_X2_72 dX2_writeBack_27 ?_
  refine kg_top (u 7 0 0) (by simp [ku, kcp]) ?_
  refine kg_iconst (v := 1) cx dX2_writeBack_30 (by decide) ?_
  refine kg_iadd cx dX2_writeBack_31 ?_
  refine kg_put (ci := 2) (ty := .int) cx 1 3 kfs_X2 tyX2 tyX2_ok nmX2 rfl (by decide) rfl (Nat.le_of_ble_eq_true rfl) kf_X2_72 rfl (by decide +kernel) rfl rfl (ks_written _) dX2_writeBack_32 ?_
  exact kg_return cx hr _ rfl (⟨rfl, rfl⟩) dX2_writeBack_35
set_option maxHeartbeats 4000000 in
set_option maxRecDepth 100000 in
/-- Pool.load -/
theorem c_X2_load (l : Launch) (D : va_G) (c : Nat → ClassId) (ad : Nat → Nat → Nat) (n : Nat) (hn : n ≤ 8) (u : kS) (p9 f q : Nat) (hp : p9 < 32) (hf : f < n) (hQ : u 3 f 0 ≠ 0 → u 1 f 0 = nI q ∧ q < 32) : kC l D c ad n yX2_load (Cond.code yX2_load cX2_load 3 none) 2 81 u [.ref (ad 1 0), .int (nI p9), .ref (ad 13 f)] (fun v u9 => v = none ∧ u9 = kLoad u p9 f q) := by
  refine kC.mk (by decide) (by simp [Value.category]) (Nat.le_of_ble_eq_true rfl) ?_
  intro p e s m args below meth c9 cx hr
  refine kg_aload_n cx dX2_load_0 rfl ?_
  refine kg_getN (ci := 0) cx (44 + f) 3 kfs_X0 rfl (by decide) (kw_at_o hf) rfl (kfn_X2_52 cx.2.2.2.2.2.2.2.2) dX2_load_1 ?_
  refine kg_if_eq cx 12 dX2_load_4 (by decide) (fun h1 => ?_) (fun h1 => ?_)
  · refine kg_aload_n cx dX2_load_12 rfl ?_
    refine kg_get (ci := 2) cx 1 0 kfs_X2 rfl (by decide) rfl rfl kf_X2_11 dX2_load_13 ?_
    refine kg_iload_n cx dX2_load_16 rfl ?_
    refine kg_aaldAN cx 3 3 p9 rfl rfl (rfl) (hp) (by decide) (k_if hp _) dX2_load_17 ?_
    refine kg_iconst (v := 0) cx dX2_load_18 (by decide) ?_
    refine kg_aload_n cx dX2_load_19 rfl ?_
    refine kg_getN (ci := 0) cx (44 + f) 0 kfs_X0 rfl (by decide) (kw_at_o hf) rfl (kfn_X2_59 cx.2.2.2.2.2.2.2.2) dX2_load_20 ?_
    refine kg_iconst (v := 0) cx dX2_load_23 (by decide) ?_
    refine kg_bipush (v := (nI 9)) cx dX2_load_24 (by decide) ?_
    refine kg_copyi (N := 9) cx (12 + p9) (44 + n + f) 0 km_X2_63 rfl (kw_at_d hp) (kw_at_r hf) (by decide) rfl (by decide) (by decide) ⟨Nat.le_of_ble_eq_true rfl, Nat.le_of_ble_eq_true rfl⟩ ks_load dX2_load_26 ?_
    refine kg_aload_n cx dX2_load_29 rfl ?_
    refine kg_iload_n cx dX2_load_30 rfl ?_
    refine kg_putN (ci := 0) (ty := .int) cx (44 + f) 1 kfs_X0 tyX0 tyX0_ok nmX0 rfl (by decide) (kw_at_o hf) (Nat.le_of_ble_eq_true rfl) (kfn_X2_23 cx.2.2.2.2.2.2.2.2) rfl (by decide +kernel) rfl rfl (ks_page hf _) dX2_load_31 ?_
    refine kg_aload_n cx dX2_load_34 rfl ?_
    refine kg_dup cx dX2_load_35 rfl ?_
    refine kg_get (ci := 2) cx 1 4 kfs_X2 rfl (by decide) rfl rfl kf_X2_69 dX2_load_36 ?_
    refine kg_top (u 8 0 0) (by simp [ku, kcp]) ?_
    refine kg_iconst (v := 1) cx dX2_load_39 (by decide) ?_
    refine kg_iadd cx dX2_load_40 ?_
    refine kg_put (ci := 2) (ty := .int) cx 1 4 kfs_X2 tyX2 tyX2_ok nmX2 rfl (by decide) rfl (Nat.le_of_ble_eq_true rfl) kf_X2_69 rfl (by decide +kernel) rfl rfl (ks_come _) dX2_load_41 ?_
    exact kg_return cx hr _ rfl (⟨rfl, by unfold kLoad; rw [if_pos h1]⟩) dX2_load_44
  · refine kg_aload_n cx dX2_load_7 rfl ?_
    refine kg_aload_n cx dX2_load_8 rfl ?_
    refine kg_callV (ci := 2) (na := 1) cx (c_X2_writeBack l D c ad n hn u f q hf (hQ h1).2 (hQ h1).1) 1 rfl rfl kcd_X2_writeBack km_X2_55 kin_X2 kim_X2_writeBack ksl_X2_writeBack (by decide +kernel) rfl (by decide) (by decide) rfl (Nat.le_of_ble_eq_true rfl) dX2_load_9 (fun _ => kw_adr _ _) (fun v9 u9 h9 => ?_)
    obtain ⟨rfl, h9⟩ := h9
    subst u9
    refine kg_aload_n cx dX2_load_12 rfl ?_
    refine kg_get (ci := 2) cx 1 0 kfs_X2 rfl (by decide) rfl rfl kf_X2_11 dX2_load_13 ?_
    refine kg_iload_n cx dX2_load_16 rfl ?_
    refine kg_aaldAN cx 3 3 p9 rfl rfl (rfl) (hp) (by decide) (k_if hp _) dX2_load_17 ?_
    refine kg_iconst (v := 0) cx dX2_load_18 (by decide) ?_
    refine kg_aload_n cx dX2_load_19 rfl ?_
    refine kg_getN (ci := 0) cx (44 + f) 0 kfs_X0 rfl (by decide) (kw_at_o hf) rfl (kfn_X2_59 cx.2.2.2.2.2.2.2.2) dX2_load_20 ?_
    refine kg_iconst (v := 0) cx dX2_load_23 (by decide) ?_
    refine kg_bipush (v := (nI 9)) cx dX2_load_24 (by decide) ?_
    refine kg_copyi (N := 9) cx (12 + p9) (44 + n + f) 0 km_X2_63 rfl (kw_at_d hp) (kw_at_r hf) (by decide) rfl (by decide) (by decide) ⟨Nat.le_of_ble_eq_true rfl, Nat.le_of_ble_eq_true rfl⟩ ks_load dX2_load_26 ?_
    refine kg_aload_n cx dX2_load_29 rfl ?_
    refine kg_iload_n cx dX2_load_30 rfl ?_
    refine kg_putN (ci := 0) (ty := .int) cx (44 + f) 1 kfs_X0 tyX0 tyX0_ok nmX0 rfl (by decide) (kw_at_o hf) (Nat.le_of_ble_eq_true rfl) (kfn_X2_23 cx.2.2.2.2.2.2.2.2) rfl (by decide +kernel) rfl rfl (ks_page hf _) dX2_load_31 ?_
    refine kg_aload_n cx dX2_load_34 rfl ?_
    refine kg_dup cx dX2_load_35 rfl ?_
    refine kg_get (ci := 2) cx 1 4 kfs_X2 rfl (by decide) rfl rfl kf_X2_69 dX2_load_36 ?_
    refine kg_top ((kBack u f q) 8 0 0) (by simp [ku, kcp]) ?_
    refine kg_iconst (v := 1) cx dX2_load_39 (by decide) ?_
    refine kg_iadd cx dX2_load_40 ?_
    refine kg_put (ci := 2) (ty := .int) cx 1 4 kfs_X2 tyX2 tyX2_ok nmX2 rfl (by decide) rfl (Nat.le_of_ble_eq_true rfl) kf_X2_69 rfl (by decide +kernel) rfl rfl (ks_come _) dX2_load_41 ?_
    exact kg_return cx hr _ rfl (⟨rfl, by unfold kLoad; rw [if_neg h1]⟩) dX2_load_44
set_option maxHeartbeats 4000000 in
set_option maxRecDepth 100000 in
/-- Pool.bring -/
theorem c_X2_bring (l : Launch) (D : va_G) (c : Nat → ClassId) (ad : Nat → Nat → Nat) (n : Nat) (hn : n ≤ 8) (u : kS) (p9 : Nat) (fl : Int32) (h : Nat) (Q : Nat → Nat) (hp : p9 < 32) (hh : h < n) (hH : u 6 0 0 = nI h) (hQ : ∀ f, f < n → u 3 f 0 ≠ 0 → u 1 f 0 = nI (Q f) ∧ Q f < 32) : kC l D c ad n yX2_bring (Cond.code yX2_bring cX2_bring 4 (some .int)) 3 103 u [.ref (ad 1 0), .int (nI p9), .int fl] (fun v u9 => ∃ r, v = some (.int r) ∧ kBring u n p9 fl h Q r u9) := by
  refine kC.mk (by decide) (by simp [Value.category]) (Nat.le_of_ble_eq_true rfl) ?_
  intro p e s m args below meth c9 cx hr
  refine kg_aload_n cx dX2_bring_0 rfl ?_
  refine kg_iload_n cx dX2_bring_1 rfl ?_
  refine kg_callV (ci := 2) (na := 1) cx (c_X2_find l D c ad n hn u (nI p9)) 1 rfl rfl kcd_X2_find km_X2_27 kin_X2 kim_X2_find ksl_X2_find (by decide +kernel) rfl (by decide) (by decide) rfl (Nat.le_of_ble_eq_true rfl) dX2_bring_2 (fun _ => kw_adr _ _) (fun v9 u9 h9 => ?_)
  obtain ⟨⟨r9, rfl, hr9⟩, h9⟩ := h9
  subst u9
  rcases hr9 with ⟨f, hf, rfl, hpf, hlf⟩ | ⟨rfl, hno⟩
  · refine kg_istore_n cx dX2_bring_5 (by decide) ?_
    refine kg_iload_n cx dX2_bring_6 rfl ?_
    refine kg_if_ge cx 33 dX2_bring_7 (by decide) (fun h1 => ?_) (fun h1 => ?_)
    · refine kg_aload_n cx dX2_bring_33 rfl ?_
      refine kg_get (ci := 2) cx 1 1 kfs_X2 rfl (by decide) rfl rfl kf_X2_18 dX2_bring_34 ?_
      refine kg_iload_n cx dX2_bring_37 rfl ?_
      refine kg_aaldN cx 4 2 f rfl rfl (rfl) (hf) (by omega) (k_if hf _) dX2_bring_38 ?_
      refine kg_iconst (v := 1) cx dX2_bring_39 (by decide) ?_
      refine kg_putN (ci := 0) (ty := .boolean) cx (44 + f) 4 kfs_X0 tyX0 tyX0_ok nmX0 rfl (by decide) (kw_at_o hf) (Nat.le_of_ble_eq_true rfl) (kfn_X2_38 cx.2.2.2.2.2.2.2.2) rfl (by decide +kernel) rfl rfl (ks_marked hf _) dX2_bring_40 ?_
      refine kg_iload_n cx dX2_bring_43 rfl ?_
      exact kg_ireturn cx hr (rfl) _ rfl (⟨_, rfl, Or.inl ⟨f, hf, hpf, hlf, rfl, rfl⟩⟩) dX2_bring_44
    · exact absurd (nI_ge0 (by omega)) h1
  · refine kg_istore_n cx dX2_bring_5 (by decide) ?_
    refine kg_iload_n cx dX2_bring_6 rfl ?_
    refine kg_if_ge cx 33 dX2_bring_7 (by decide) (fun h1 => ?_) (fun h1 => ?_)
    · exact absurd h1 (by decide)
    · refine kg_aload_n cx dX2_bring_10 rfl ?_
      refine kg_iload_n cx dX2_bring_11 rfl ?_
      refine kg_callV (ci := 2) (na := 1) cx (c_X2_roomFor l D c ad n hn u fl h hh hH) 1 rfl rfl kcd_X2_roomFor km_X2_31 kin_X2 kim_X2_roomFor ksl_X2_roomFor (by decide +kernel) rfl (by decide) (by decide) rfl (Nat.le_of_ble_eq_true rfl) dX2_bring_12 (fun _ => kw_adr _ _) (fun v9 u9 h9 => ?_)
      obtain ⟨r9, rfl, hr9⟩ := h9
      rcases hr9 with ⟨f, hf, hpf, hlf, rfl, h9⟩ | ⟨hno2, hr2, h9⟩
      · subst u9
        refine kg_istore_n cx dX2_bring_15 (by decide) ?_
        refine kg_iload_n cx dX2_bring_16 rfl ?_
        refine kg_if_ge cx 22 dX2_bring_17 (by decide) (fun h2 => ?_) (fun h2 => ?_)
        · refine kg_aload_n cx dX2_bring_22 rfl ?_
          refine kg_iload_n cx dX2_bring_23 rfl ?_
          refine kg_aload_n cx dX2_bring_24 rfl ?_
          refine kg_get (ci := 2) cx 1 1 kfs_X2 rfl (by decide) rfl rfl kf_X2_18 dX2_bring_25 ?_
          refine kg_iload_n cx dX2_bring_28 rfl ?_
          refine kg_aaldN cx 4 2 f rfl rfl (rfl) (hf) (by omega) (k_if hf _) dX2_bring_29 ?_
          refine kg_callV (ci := 2) (na := 2) cx (c_X2_load l D c ad n hn u p9 f (Q f) hp hf (hQ f hf)) 1 rfl rfl kcd_X2_load km_X2_34 kin_X2 kim_X2_load ksl_X2_load (by decide +kernel) rfl (by decide) (by decide) rfl (Nat.le_of_ble_eq_true rfl) dX2_bring_30 (fun _ => kw_adr _ _) (fun v9 u9 h9 => ?_)
          obtain ⟨rfl, h9⟩ := h9
          subst u9
          refine kg_aload_n cx dX2_bring_33 rfl ?_
          refine kg_get (ci := 2) cx 1 1 kfs_X2 rfl (by decide) rfl rfl kf_X2_18 dX2_bring_34 ?_
          refine kg_iload_n cx dX2_bring_37 rfl ?_
          refine kg_aaldN cx 4 2 f rfl rfl (rfl) (hf) (by omega) (k_if hf _) dX2_bring_38 ?_
          refine kg_iconst (v := 1) cx dX2_bring_39 (by decide) ?_
          refine kg_putN (ci := 0) (ty := .boolean) cx (44 + f) 4 kfs_X0 tyX0 tyX0_ok nmX0 rfl (by decide) (kw_at_o hf) (Nat.le_of_ble_eq_true rfl) (kfn_X2_38 cx.2.2.2.2.2.2.2.2) rfl (by decide +kernel) rfl rfl (ks_marked hf _) dX2_bring_40 ?_
          refine kg_iload_n cx dX2_bring_43 rfl ?_
          exact kg_ireturn cx hr (rfl) _ rfl (⟨_, rfl, Or.inr (Or.inl ⟨f, hf, hno, hpf, hlf, rfl, rfl⟩)⟩) dX2_bring_44
        · exact absurd (nI_ge0 (by omega)) h2
      · subst u9
        cases ht : (kTurn n fl (2 * n) u h).2 with
        | none =>
          rw [ht] at hr2
          subst hr2
          refine kg_istore_n cx dX2_bring_15 (by decide) ?_
          refine kg_iload_n cx dX2_bring_16 rfl ?_
          refine kg_if_ge cx 22 dX2_bring_17 (by decide) (fun h2 => ?_) (fun h2 => ?_)
          · exact absurd h2 (by decide)
          · refine kg_iconst (v := (-1)) cx dX2_bring_20 (by decide) ?_
            exact kg_ireturn cx hr (rfl) _ rfl (⟨_, rfl, Or.inr (Or.inr (Or.inr ⟨hno, hno2, ht, rfl, rfl⟩))⟩) dX2_bring_21
        | some f =>
          rw [ht] at hr2
          subst hr2
          have hf : f < n := kTurn_lt _ _ _ f hh ht
          refine kg_istore_n cx dX2_bring_15 (by decide) ?_
          refine kg_iload_n cx dX2_bring_16 rfl ?_
          refine kg_if_ge cx 22 dX2_bring_17 (by decide) (fun h2 => ?_) (fun h2 => ?_)
          · refine kg_aload_n cx dX2_bring_22 rfl ?_
            refine kg_iload_n cx dX2_bring_23 rfl ?_
            refine kg_aload_n cx dX2_bring_24 rfl ?_
            refine kg_get (ci := 2) cx 1 1 kfs_X2 rfl (by decide) rfl rfl kf_X2_18 dX2_bring_25 ?_
            refine kg_iload_n cx dX2_bring_28 rfl ?_
            refine kg_aaldN cx 4 2 f rfl rfl (rfl) (hf) (by omega) (k_if hf _) dX2_bring_29 ?_
            refine kg_callV (ci := 2) (na := 2) cx (c_X2_load l D c ad n hn (kTurn n fl (2 * n) u h).1 p9 f (Q f) hp hf (fun q => by rw [kTurn_F (by decide) (by decide)] at q ⊢; exact hQ f hf q)) 1 rfl rfl kcd_X2_load km_X2_34 kin_X2 kim_X2_load ksl_X2_load (by decide +kernel) rfl (by decide) (by decide) rfl (Nat.le_of_ble_eq_true rfl) dX2_bring_30 (fun _ => kw_adr _ _) (fun v9 u9 h9 => ?_)
            obtain ⟨rfl, h9⟩ := h9
            subst u9
            refine kg_aload_n cx dX2_bring_33 rfl ?_
            refine kg_get (ci := 2) cx 1 1 kfs_X2 rfl (by decide) rfl rfl kf_X2_18 dX2_bring_34 ?_
            refine kg_iload_n cx dX2_bring_37 rfl ?_
            refine kg_aaldN cx 4 2 f rfl rfl (rfl) (hf) (by omega) (k_if hf _) dX2_bring_38 ?_
            refine kg_iconst (v := 1) cx dX2_bring_39 (by decide) ?_
            refine kg_putN (ci := 0) (ty := .boolean) cx (44 + f) 4 kfs_X0 tyX0 tyX0_ok nmX0 rfl (by decide) (kw_at_o hf) (Nat.le_of_ble_eq_true rfl) (kfn_X2_38 cx.2.2.2.2.2.2.2.2) rfl (by decide +kernel) rfl rfl (ks_marked hf _) dX2_bring_40 ?_
            refine kg_iload_n cx dX2_bring_43 rfl ?_
            exact kg_ireturn cx hr (rfl) _ rfl (⟨_, rfl, Or.inr (Or.inr (Or.inl ⟨f, hf, hno, hno2, ht, rfl, rfl⟩))⟩) dX2_bring_44
          · exact absurd (nI_ge0 (by omega)) h2
/-- the first k frames empty -/
def kClr (u : kS) : Nat → kS
  | 0 => u
  | k + 1 => kEmp (kClr u k) k
set_option maxHeartbeats 4000000 in
set_option maxRecDepth 100000 in
/-- Pool.clear -/
theorem c_X2_clear (l : Launch) (D : va_G) (c : Nat → ClassId) (ad : Nat → Nat → Nat) (n : Nat) (hn : n ≤ 8) (u : kS) : kC l D c ad n yX2_clear (Cond.code yX2_clear cX2_clear 2 none) 2 43 u [.ref (ad 1 0)] (fun v u9 => v = none ∧ u9 = ku (kClr u n) 6 0 0 0) := by
  refine kC.mk (by decide) (by simp [Value.category]) (Nat.le_of_ble_eq_true rfl) ?_
  intro p e s m args below meth c9 cx hr
  refine kg_iconst (v := 0) cx dX2_clear_0 (by decide) ?_
  refine kg_istore_n cx dX2_clear_1 (by decide) ?_
  have loop : ∀ (k i : Nat), n - i = k → i ≤ n → kgC p l e 2 43 s m args below meth c9 2 D c ad n u (fun v u9 => v = none ∧ u9 = ku (kClr u n) 6 0 0 0) (kClr u i) 2 [some (.ref (ad 1 0)), some (.int (nI i))] [] := by
    intro k
    induction k with
    | zero =>
      intro i hk hi
      have e8 : i = n := by omega
      subst i
      refine kg_iload_n cx dX2_clear_2 rfl ?_
      refine kg_aload_n cx dX2_clear_3 rfl ?_
      refine kg_get (ci := 2) cx 1 1 kfs_X2 rfl (by decide) rfl rfl kf_X2_18 dX2_clear_4 ?_
      refine kg_alen (v := nI n) cx 4 2 rfl rfl rfl dX2_clear_7 ?_
      refine kg_icmp_ge cx 26 dX2_clear_8 (by decide) (fun h1 => ?_) (fun h1 => ?_)
      · refine kg_aload_n cx dX2_clear_26 rfl ?_
        refine kg_iconst (v := 0) cx dX2_clear_27 (by decide) ?_
        refine kg_put (ci := 2) (ty := .int) cx 1 2 kfs_X2 tyX2 tyX2_ok nmX2 rfl (by decide) rfl (Nat.le_of_ble_eq_true rfl) kf_X2_45 rfl (by decide +kernel) rfl rfl (ks_hand _) dX2_clear_28 ?_
        exact kg_return cx hr _ rfl (⟨rfl, rfl⟩) dX2_clear_31
      · exact absurd (Int32.le_refl _) h1
    | succ k ih =>
      intro i hk hi
      have hin : i < n := by omega
      refine kg_iload_n cx dX2_clear_2 rfl ?_
      refine kg_aload_n cx dX2_clear_3 rfl ?_
      refine kg_get (ci := 2) cx 1 1 kfs_X2 rfl (by decide) rfl rfl kf_X2_18 dX2_clear_4 ?_
      refine kg_alen (v := nI n) cx 4 2 rfl rfl rfl dX2_clear_7 ?_
      refine kg_icmp_ge cx 26 dX2_clear_8 (by decide) (fun h1 => ?_) (fun h1 => ?_)
      · exact absurd h1 (nI_ge hin (by omega))
      · refine kg_aload_n cx dX2_clear_11 rfl ?_
        refine kg_get (ci := 2) cx 1 1 kfs_X2 rfl (by decide) rfl rfl kf_X2_18 dX2_clear_12 ?_
        refine kg_iload_n cx dX2_clear_15 rfl ?_
        refine kg_aaldN cx 4 2 i rfl rfl (rfl) (hin) (by omega) (k_if hin _) dX2_clear_16 ?_
        refine kg_callVN (ci := 0) (na := 0) cx (c_X0_makeEmpty l D c ad n (kClr u i) i hin) (44 + i) rfl (kw_at_o hin) kcd_X0_makeEmpty (kmn_X2_75 cx.2.2.2.2.2.2.2.2) kin_X0 kim_X0_makeEmpty ksl_X0_makeEmpty (by decide +kernel) rfl (by decide) (by decide) rfl (Nat.le_of_ble_eq_true rfl) dX2_clear_17 (fun _ => kw_adr _ _) (fun v9 u9 h9 => ?_)
        obtain ⟨rfl, h9⟩ := h9
        subst u9
        refine kg_iinc (v := nI (i + 1)) cx dX2_clear_20 rfl (nI_1 i) (by decide) ?_
        refine kg_goto cx 2 dX2_clear_23 (by decide) ?_
        exact ih (i + 1) (by omega) (by omega)
  exact loop n 0 rfl (Nat.zero_le _)
end
section
/-- r: the least TRANSACTION that isn't ACTIVE, or -1 -/
def kLeast (u : kS) (r : Int32) : Prop := (∃ t, t < 8 ∧ r = nI t ∧ u 16 t 0 = 0 ∧ ∀ j, j < t → u 16 j 0 ≠ 0) ∨ (r = -1 ∧ ∀ j, j < 8 → u 16 j 0 ≠ 0)
/-- how many of the first k aren't 0 -/
def kct (f : Nat → Int32) : Nat → Nat
  | 0 => 0
  | k + 1 => if f k = 0 then kct f k else kct f k + 1
theorem kct_le (f : Nat → Int32) : ∀ k, kct f k ≤ k
  | 0 => Nat.le_refl _
  | k + 1 => by
    have h := kct_le f k
    unfold kct
    split <;> omega
/-- so many records more fit in beside the undos -/
abbrev kRm (u : kS) (x : Nat) : Prop := kss (u 14 0 0 + nI x) (fun t => u 13 t 0) 8 ≤ nI 400
set_option maxHeartbeats 4000000 in
set_option maxRecDepth 100000 in
theorem c_X3_leastInactive (l : Launch) (D : va_G) (c : Nat → ClassId) (ad : Nat → Nat → Nat) (n : Nat) (u : kS) : kC l D c ad n yX3_leastInactive (Cond.code yX3_leastInactive cX3_leastInactive 2 (some .int)) 0 0 u [.ref (ad 0 0)] (fun v u9 => (∃ r, v = some (.int r) ∧ kLeast u r) ∧ u9 = u) := by
  refine kC.mk (by decide) (by simp [Value.category]) (Nat.le_of_ble_eq_true rfl) ?_
  intro p e s m args below meth c9 cx hr
  refine kg_iconst (v := 0) cx dX3_leastInactive_0 (by decide) ?_
  refine kg_istore_n cx dX3_leastInactive_1 (by decide) ?_
  have loop : ∀ (k i : Nat), 8 - i = k → i ≤ 8 → (∀ j, j < i → u 16 j 0 ≠ 0) → kgC p l e 0 0 s m args below meth c9 2 D c ad n u (fun v u9 => (∃ r, v = some (.int r) ∧ kLeast u r) ∧ u9 = u) u 2 [some (.ref (ad 0 0)), some (.int (nI i))] [] := by
    intro k
    induction k with
    | zero =>
      intro i hk hi hj
      have e8 : i = 8 := by omega
      subst i
      refine kg_iload_n cx dX3_leastInactive_2 rfl ?_
      refine kg_bipush (v := (nI 8)) cx dX3_leastInactive_3 (by decide) ?_
      refine kg_icmp_ge cx 25 dX3_leastInactive_5 (by decide) (fun h1 => ?_) (fun h1 => ?_)
      · refine kg_iconst (v := (-1)) cx dX3_leastInactive_25 (by decide) ?_
        exact kg_ireturn cx hr (rfl) _ rfl (⟨⟨_, rfl, Or.inr ⟨rfl, hj⟩⟩, rfl⟩) dX3_leastInactive_26
      · exact absurd (Int32.le_refl _) h1
    | succ k ih =>
      intro i hk hi hj
      have hin : i < 8 := by omega
      refine kg_iload_n cx dX3_leastInactive_2 rfl ?_
      refine kg_bipush (v := (nI 8)) cx dX3_leastInactive_3 (by decide) ?_
      refine kg_icmp_ge cx 25 dX3_leastInactive_5 (by decide) (fun h1 => ?_) (fun h1 => ?_)
      · exact absurd h1 (nI_ge hin (by omega))
      · refine kg_aload_n cx dX3_leastInactive_8 rfl ?_
        refine kg_get (ci := 3) cx 0 2 kfs_X3 rfl (by decide) rfl rfl kf_X3_34 dX3_leastInactive_9 ?_
        refine kg_iload_n cx dX3_leastInactive_12 rfl ?_
        refine kg_zaldN cx 5 1 i rfl rfl (rfl) (hin) (by decide) (rfl) dX3_leastInactive_13 ?_
        refine kg_if_ne cx 19 dX3_leastInactive_14 (by decide) (fun h2 => ?_) (fun h2 => ?_)
        · refine kg_iinc (v := nI (i + 1)) cx dX3_leastInactive_19 rfl (nI_1 i) (by decide) ?_
          refine kg_goto cx 2 dX3_leastInactive_22 (by decide) ?_
          refine ih (i + 1) (by omega) (by omega) (fun j hj9 => ?_)
          by_cases e9 : j = i
          · rw [e9]; exact h2
          · exact hj j (by omega)
        · refine kg_iload_n cx dX3_leastInactive_17 rfl ?_
          exact kg_ireturn cx hr (rfl) _ rfl (⟨⟨_, rfl, Or.inl ⟨i, hin, rfl, h2, hj⟩⟩, rfl⟩) dX3_leastInactive_18
  exact loop 8 0 rfl (by decide) (fun j h => absurd h (Nat.not_lt_zero _))
set_option maxHeartbeats 4000000 in
set_option maxRecDepth 100000 in
theorem c_X3_activeOnes (l : Launch) (D : va_G) (c : Nat → ClassId) (ad : Nat → Nat → Nat) (n : Nat) (u : kS) : kC l D c ad n yX3_activeOnes (Cond.code yX3_activeOnes cX3_activeOnes 3 (some .int)) 0 0 u [.ref (ad 0 0)] (fun v u9 => v = some (.int (nI (kct (fun t => u 16 t 0) 8))) ∧ u9 = u) := by
  refine kC.mk (by decide) (by simp [Value.category]) (Nat.le_of_ble_eq_true rfl) ?_
  intro p e s m args below meth c9 cx hr
  refine kg_iconst (v := 0) cx dX3_activeOnes_0 (by decide) ?_
  refine kg_istore_n cx dX3_activeOnes_1 (by decide) ?_
  refine kg_iconst (v := 0) cx dX3_activeOnes_2 (by decide) ?_
  refine kg_istore_n cx dX3_activeOnes_3 (by decide) ?_
  have loop : ∀ (k i : Nat), 8 - i = k → i ≤ 8 → kgC p l e 0 0 s m args below meth c9 3 D c ad n u (fun v u9 => v = some (.int (nI (kct (fun t => u 16 t 0) 8))) ∧ u9 = u) u 4 [some (.ref (ad 0 0)), some (.int (nI (kct (fun t => u 16 t 0) i))), some (.int (nI i))] [] := by
    intro k
    induction k with
    | zero =>
      intro i hk hi
      have e8 : i = 8 := by omega
      subst i
      refine kg_iload_n cx dX3_activeOnes_4 rfl ?_
      refine kg_bipush (v := (nI 8)) cx dX3_activeOnes_5 (by decide) ?_
      refine kg_icmp_ge cx 28 dX3_activeOnes_7 (by decide) (fun h1 => ?_) (fun h1 => ?_)
      · refine kg_iload_n cx dX3_activeOnes_28 rfl ?_
        exact kg_ireturn cx hr (rfl) _ rfl (⟨rfl, rfl⟩) dX3_activeOnes_29
      · exact absurd (Int32.le_refl _) h1
    | succ k ih =>
      intro i hk hi
      have hin : i < 8 := by omega
      refine kg_iload_n cx dX3_activeOnes_4 rfl ?_
      refine kg_bipush (v := (nI 8)) cx dX3_activeOnes_5 (by decide) ?_
      refine kg_icmp_ge cx 28 dX3_activeOnes_7 (by decide) (fun h1 => ?_) (fun h1 => ?_)
      · exact absurd h1 (nI_ge hin (by omega))
      · refine kg_aload_n cx dX3_activeOnes_10 rfl ?_
        refine kg_get (ci := 3) cx 0 2 kfs_X3 rfl (by decide) rfl rfl kf_X3_34 dX3_activeOnes_11 ?_
        refine kg_iload_n cx dX3_activeOnes_14 rfl ?_
        refine kg_zaldN cx 5 1 i rfl rfl (rfl) (hin) (by decide) (rfl) dX3_activeOnes_15 ?_
        refine kg_if_eq cx 22 dX3_activeOnes_16 (by decide) (fun h2 => ?_) (fun h2 => ?_)
        · refine kg_iinc (v := nI (i + 1)) cx dX3_activeOnes_22 rfl (nI_1 i) (by decide) ?_
          refine kg_goto cx 4 dX3_activeOnes_25 (by decide) ?_
          have e9 : kct (fun t => u 16 t 0) (i + 1) = kct (fun t => u 16 t 0) i := if_pos h2
          have := ih (i + 1) (by omega) (by omega)
          rw [e9] at this
          exact this
        · refine kg_iinc (v := nI (kct (fun t => u 16 t 0) i + 1)) cx dX3_activeOnes_19 rfl (nI_1 _) (by decide) ?_
          refine kg_iinc (v := nI (i + 1)) cx dX3_activeOnes_22 rfl (nI_1 i) (by decide) ?_
          refine kg_goto cx 4 dX3_activeOnes_25 (by decide) ?_
          have e9 : kct (fun t => u 16 t 0) (i + 1) = kct (fun t => u 16 t 0) i + 1 := if_neg h2
          have := ih (i + 1) (by omega) (by omega)
          rw [e9] at this
          exact this
  exact loop 8 0 rfl (by decide)
theorem kfl_0 (u : kS) (F : Nat) (x : Int32) : kfl u F 0 x = u := by
  funext F' i j
  simp [kfl]
theorem kfl2_s (u : kS) (k : Nat) : ku (ku (kfl (kfl u 16 k 0) 17 k 0) 16 k 0 0) 17 k 0 0 = kfl (kfl u 16 (k + 1) 0) 17 (k + 1) 0 := by
  funext F' i j
  by_cases h1 : F' = 16
  · subst h1
    by_cases h2 : j = 0
    · by_cases h3 : i = k
      · simp [ku, kfl, h2, h3]
      · by_cases h4 : i < k
        · simp [ku, kfl, h2, h3, h4, Nat.lt_succ_of_lt h4]
        · simp [ku, kfl, h2, h3, h4, show ¬ i < k + 1 by omega]
    · simp [ku, kfl, h2]
  · by_cases h5 : F' = 17
    · subst h5
      by_cases h2 : j = 0
      · by_cases h3 : i = k
        · simp [ku, kfl, h2, h3]
        · by_cases h4 : i < k
          · simp [ku, kfl, h2, h3, h4, Nat.lt_succ_of_lt h4]
          · simp [ku, kfl, h2, h3, h4, show ¬ i < k + 1 by omega]
      · simp [ku, kfl, h2]
    · simp [ku, kfl, h1, h5]
set_option maxHeartbeats 4000000 in
set_option maxRecDepth 100000 in
theorem c_X3_forgetActiveOnes (l : Launch) (D : va_G) (c : Nat → ClassId) (ad : Nat → Nat → Nat) (n : Nat) (u : kS) : kC l D c ad n yX3_forgetActiveOnes (Cond.code yX3_forgetActiveOnes cX3_forgetActiveOnes 2 none) 0 0 u [.ref (ad 0 0)] (fun v u9 => v = none ∧ u9 = kfl (kfl u 16 8 0) 17 8 0) := by
  refine kC.mk (by decide) (by simp [Value.category]) (Nat.le_of_ble_eq_true rfl) ?_
  intro p e s m args below meth c9 cx hr
  refine kg_iconst (v := 0) cx dX3_forgetActiveOnes_0 (by decide) ?_
  refine kg_istore_n cx dX3_forgetActiveOnes_1 (by decide) ?_
  have loop : ∀ (k i : Nat), 8 - i = k → i ≤ 8 → kgC p l e 0 0 s m args below meth c9 2 D c ad n u (fun v u9 => v = none ∧ u9 = kfl (kfl u 16 8 0) 17 8 0) (kfl (kfl u 16 i 0) 17 i 0) 2 [some (.ref (ad 0 0)), some (.int (nI i))] [] := by
    intro k
    induction k with
    | zero =>
      intro i hk hi
      have e8 : i = 8 := by omega
      subst i
      refine kg_iload_n cx dX3_forgetActiveOnes_2 rfl ?_
      refine kg_bipush (v := (nI 8)) cx dX3_forgetActiveOnes_3 (by decide) ?_
      refine kg_icmp_ge cx 28 dX3_forgetActiveOnes_5 (by decide) (fun h1 => ?_) (fun h1 => ?_)
      · exact kg_return cx hr _ rfl (⟨rfl, rfl⟩) dX3_forgetActiveOnes_28
      · exact absurd (Int32.le_refl _) h1
    | succ k ih =>
      intro i hk hi
      have hin : i < 8 := by omega
      refine kg_iload_n cx dX3_forgetActiveOnes_2 rfl ?_
      refine kg_bipush (v := (nI 8)) cx dX3_forgetActiveOnes_3 (by decide) ?_
      refine kg_icmp_ge cx 28 dX3_forgetActiveOnes_5 (by decide) (fun h1 => ?_) (fun h1 => ?_)
      · exact absurd h1 (nI_ge hin (by omega))
      · refine kg_aload_n cx dX3_forgetActiveOnes_8 rfl ?_
        refine kg_get (ci := 3) cx 0 2 kfs_X3 rfl (by decide) rfl rfl kf_X3_34 dX3_forgetActiveOnes_9 ?_
        refine kg_iload_n cx dX3_forgetActiveOnes_12 rfl ?_
        refine kg_iconst (v := 0) cx dX3_forgetActiveOnes_13 (by decide) ?_
        refine kg_zastN cx 5 1 i rfl rfl (rfl) (hin) (by decide) (by decide) (ks_active i _) dX3_forgetActiveOnes_14 ?_
        refine kg_aload_n cx dX3_forgetActiveOnes_15 rfl ?_
        refine kg_get (ci := 3) cx 0 3 kfs_X3 rfl (by decide) rfl rfl kf_X3_38 dX3_forgetActiveOnes_16 ?_
        refine kg_iload_n cx dX3_forgetActiveOnes_19 rfl ?_
        refine kg_iconst (v := 0) cx dX3_forgetActiveOnes_20 (by decide) ?_
        refine kg_zastN cx 6 1 i rfl rfl (rfl) (hin) (by decide) (by decide) (ks_abortBegun i _) dX3_forgetActiveOnes_21 ?_
        refine kg_iinc (v := nI (i + 1)) cx dX3_forgetActiveOnes_22 rfl (nI_1 i) (by decide) ?_
        refine kg_goto cx 2 dX3_forgetActiveOnes_25 (by decide) ?_
        have := ih (i + 1) (by omega) (by omega)
        rw [← kfl2_s u i] at this
        exact this
  have := loop 8 0 rfl (by decide)
  rw [kfl_0, kfl_0] at this
  exact this
def kBegin (u : kS) (r : Int32) (u9 : kS) : Prop := (∃ t, t < 8 ∧ u 16 t 0 = 0 ∧ (∀ j, j < t → u 16 j 0 ≠ 0) ∧ kRm u (2 + kct (fun t => u 16 t 0) 8) ∧ r = nI t ∧ u9 = ku u 16 t 0 1) ∨ (((∀ j, j < 8 → u 16 j 0 ≠ 0) ∨ ¬ kRm u (2 + kct (fun t => u 16 t 0) 8)) ∧ r = -2 ∧ u9 = u)
set_option maxHeartbeats 4000000 in
set_option maxRecDepth 100000 in
theorem c_X3_begin (l : Launch) (D : va_G) (c : Nat → ClassId) (ad : Nat → Nat → Nat) (n : Nat) (u : kS) : kC l D c ad n yX3_begin (Cond.code yX3_begin cX3_begin 2 (some .int)) 1 23 u [.ref (ad 0 0)] (fun v u9 => ∃ r, v = some (.int r) ∧ kBegin u r u9) := by
  refine kC.mk (by decide) (by simp [Value.category]) (Nat.le_of_ble_eq_true rfl) ?_
  intro p e s m args below meth c9 cx hr
  refine kg_aload_n cx dX3_begin_0 rfl ?_
  refine kg_callV (ci := 3) (na := 0) cx (c_X3_leastInactive l D c ad n u) 0 rfl rfl kcd_X3_leastInactive km_X3_69 kin_X3 kim_X3_leastInactive ksl_X3_leastInactive (by decide +kernel) rfl (by decide) (by decide) rfl (Nat.le_of_ble_eq_true rfl) dX3_begin_1 (fun _ => kw_adr _ _) (fun v9 u9 h9 => ?_)
  obtain ⟨⟨r9, rfl, hr9⟩, h9⟩ := h9
  subst u9
  rcases hr9 with ⟨t, ht, rfl, hz, hlf⟩ | ⟨rfl, hno⟩
  · refine kg_istore_n cx dX3_begin_4 (by decide) ?_
    refine kg_iload_n cx dX3_begin_5 rfl ?_
    refine kg_if_lt cx 25 dX3_begin_6 (by decide) (fun h1 => ?_) (fun h1 => ?_)
    · exact absurd h1 (nI_pos (by omega))
    · refine kg_aload_n cx dX3_begin_9 rfl ?_
      refine kg_get (ci := 3) cx 0 1 kfs_X3 rfl (by decide) rfl rfl kf_X3_30 dX3_begin_10 ?_
      refine kg_iconst (v := (nI 2)) cx dX3_begin_13 (by decide) ?_
      refine kg_aload_n cx dX3_begin_14 rfl ?_
      refine kg_callV (ci := 3) (na := 0) cx (c_X3_activeOnes l D c ad n u) 0 rfl rfl kcd_X3_activeOnes km_X3_73 kin_X3 kim_X3_activeOnes ksl_X3_activeOnes (by decide +kernel) rfl (by decide) (by decide) rfl (Nat.le_of_ble_eq_true rfl) dX3_begin_15 (fun _ => kw_adr _ _) (fun v9 u9 h9 => ?_)
      obtain ⟨rfl, h9⟩ := h9
      subst u9
      refine kg_iadd cx dX3_begin_18 ?_
      refine kg_top (nI (2 + kct (fun t => u 16 t 0) 8)) (nI_add _ _) ?_
      refine kg_callVN (ci := 1) (na := 1) cx (c_X1_hasRoomFor l D c ad n u (nI (2 + kct (fun t => u 16 t 0) 8))) 2 rfl rfl kcd_X1_hasRoomFor (kmn_X3_76 cx.2.2.2.2.2.2.2.2) kin_X1 kim_X1_hasRoomFor ksl_X1_hasRoomFor (by decide +kernel) rfl (by decide) (by decide) rfl (Nat.le_of_ble_eq_true rfl) dX3_begin_19 (fun _ => kw_adr _ _) (fun v9 u9 h9 => ?_)
      obtain ⟨rfl, h9⟩ := h9
      subst u9
      refine kg_if_ne cx 28 dX3_begin_22 (by decide) (fun h2 => ?_) (fun h2 => ?_)
      · have hrm : kRm u (2 + kct (fun t => u 16 t 0) 8) := by
          by_cases q : kRm u (2 + kct (fun t => u 16 t 0) 8)
          · exact q
          · exact absurd (kb_0 q) h2
        refine kg_aload_n cx dX3_begin_28 rfl ?_
        refine kg_get (ci := 3) cx 0 2 kfs_X3 rfl (by decide) rfl rfl kf_X3_34 dX3_begin_29 ?_
        refine kg_iload_n cx dX3_begin_32 rfl ?_
        refine kg_iconst (v := 1) cx dX3_begin_33 (by decide) ?_
        refine kg_zastN cx 5 1 t rfl rfl (rfl) (ht) (by decide) (by decide) (ks_active t _) dX3_begin_34 ?_
        refine kg_iload_n cx dX3_begin_35 rfl ?_
        exact kg_ireturn cx hr (rfl) _ rfl (⟨_, rfl, Or.inl ⟨t, ht, hz, hlf, hrm, rfl, rfl⟩⟩) dX3_begin_36
      · refine kg_bipush (v := (-2)) cx dX3_begin_25 (by decide) ?_
        exact kg_ireturn cx hr (rfl) _ rfl (⟨_, rfl, Or.inr ⟨Or.inr (fun q => absurd ((kb_1 q).symm.trans h2) (by decide)), rfl, rfl⟩⟩) dX3_begin_27
  · refine kg_istore_n cx dX3_begin_4 (by decide) ?_
    refine kg_iload_n cx dX3_begin_5 rfl ?_
    refine kg_if_lt cx 25 dX3_begin_6 (by decide) (fun h1 => ?_) (fun h1 => ?_)
    · refine kg_bipush (v := (-2)) cx dX3_begin_25 (by decide) ?_
      exact kg_ireturn cx hr (rfl) _ rfl (⟨_, rfl, Or.inr ⟨Or.inl hno, rfl, rfl⟩⟩) dX3_begin_27
    · exact absurd (by decide) h1
/-- the record i is laid on the disk: its page is p, its number k -/
def kPut (u : kS) (i p k : Nat) : kS := ku (ku u 0 p k (u 9 i 5)) 0 p 8 (nI i)
theorem kPut_F {u : kS} {i p k F a b : Nat} (h : F ≠ 0) : kPut u i p k F a b = u F a b := by
  unfold kPut
  rw [ku_F h, ku_F h]
set_option maxHeartbeats 4000000 in
set_option maxRecDepth 100000 in
theorem c_X3_putOnDisk (l : Launch) (D : va_G) (c : Nat → ClassId) (ad : Nat → Nat → Nat) (n : Nat) (u : kS) (i q k : Nat) (hi : i ≤ 400) (hq : q < 32) (hk : k < 8) (hQ : u 9 i 2 = nI q) (hK : u 9 i 3 = nI k) : kC l D c ad n yX3_putOnDisk (Cond.code yX3_putOnDisk cX3_putOnDisk 3 none) 1 22 u [.ref (ad 0 0), .int (nI i)] (fun v u9 => v = none ∧ u9 = kPut u i q k) := by
  refine kC.mk (by decide) (by simp [Value.category]) (Nat.le_of_ble_eq_true rfl) ?_
  intro p e s m args below meth c9 cx hr
  refine kg_aload_n cx dX3_putOnDisk_0 rfl ?_
  refine kg_get (ci := 3) cx 0 0 kfs_X3 rfl (by decide) rfl rfl kf_X3_23 dX3_putOnDisk_1 ?_
  refine kg_getN (ci := 2) cx 1 0 kfs_X2 rfl (by decide) rfl rfl (kfn_X3_151 cx.2.2.2.2.2.2.2.2) dX3_putOnDisk_4 ?_
  refine kg_aload_n cx dX3_putOnDisk_7 rfl ?_
  refine kg_get (ci := 3) cx 0 1 kfs_X3 rfl (by decide) rfl rfl kf_X3_30 dX3_putOnDisk_8 ?_
  refine kg_iload_n cx dX3_putOnDisk_11 rfl ?_
  refine kg_iconst (v := (nI 2)) cx dX3_putOnDisk_12 (by decide) ?_
  refine kg_callVN (ci := 1) (na := 2) cx (c_X1_value l D c ad n u i 2 hi (by decide)) 2 rfl rfl kcd_X1_value (kmn_X3_106 cx.2.2.2.2.2.2.2.2) kin_X1 kim_X1_value ksl_X1_value (by decide +kernel) rfl (by decide) (by decide) rfl (Nat.le_of_ble_eq_true rfl) dX3_putOnDisk_13 (fun _ => kw_adr _ _) (fun v9 u9 h9 => ?_)
  obtain ⟨rfl, h9⟩ := h9
  subst u9
  refine kg_top (nI q) (hQ) ?_
  refine kg_aaldAN cx 3 3 q rfl rfl (rfl) (hq) (by decide) (k_if hq _) dX3_putOnDisk_16 ?_
  refine kg_astore_n cx dX3_putOnDisk_17 (by decide) ?_
  refine kg_aload_n cx dX3_putOnDisk_18 rfl ?_
  refine kg_aload_n cx dX3_putOnDisk_19 rfl ?_
  refine kg_get (ci := 3) cx 0 1 kfs_X3 rfl (by decide) rfl rfl kf_X3_30 dX3_putOnDisk_20 ?_
  refine kg_iload_n cx dX3_putOnDisk_23 rfl ?_
  refine kg_iconst (v := (nI 3)) cx dX3_putOnDisk_24 (by decide) ?_
  refine kg_callVN (ci := 1) (na := 2) cx (c_X1_value l D c ad n u i 3 hi (by decide)) 2 rfl rfl kcd_X1_value (kmn_X3_106 cx.2.2.2.2.2.2.2.2) kin_X1 kim_X1_value ksl_X1_value (by decide +kernel) rfl (by decide) (by decide) rfl (Nat.le_of_ble_eq_true rfl) dX3_putOnDisk_25 (fun _ => kw_adr _ _) (fun v9 u9 h9 => ?_)
  obtain ⟨rfl, h9⟩ := h9
  subst u9
  refine kg_top (nI k) (hK) ?_
  refine kg_aload_n cx dX3_putOnDisk_28 rfl ?_
  refine kg_get (ci := 3) cx 0 1 kfs_X3 rfl (by decide) rfl rfl kf_X3_30 dX3_putOnDisk_29 ?_
  refine kg_iload_n cx dX3_putOnDisk_32 rfl ?_
  refine kg_iconst (v := (nI 5)) cx dX3_putOnDisk_33 (by decide) ?_
  refine kg_callVN (ci := 1) (na := 2) cx (c_X1_value l D c ad n u i 5 hi (by decide)) 2 rfl rfl kcd_X1_value (kmn_X3_106 cx.2.2.2.2.2.2.2.2) kin_X1 kim_X1_value ksl_X1_value (by decide +kernel) rfl (by decide) (by decide) rfl (Nat.le_of_ble_eq_true rfl) dX3_putOnDisk_34 (fun _ => kw_adr _ _) (fun v9 u9 h9 => ?_)
  obtain ⟨rfl, h9⟩ := h9
  subst u9
  refine kg_iastN cx (12 + q) 0 k rfl (kw_at_d hq) (rfl) (by omega) (by decide) (ks_disk hq k _) dX3_putOnDisk_37 ?_
  refine kg_aload_n cx dX3_putOnDisk_38 rfl ?_
  refine kg_bipush (v := (nI 8)) cx dX3_putOnDisk_39 (by decide) ?_
  refine kg_iload_n cx dX3_putOnDisk_41 rfl ?_
  refine kg_iastN cx (12 + q) 0 8 rfl (kw_at_d hq) (rfl) (by decide) (by decide) (ks_disk hq 8 _) dX3_putOnDisk_42 ?_
  exact kg_return cx hr _ rfl (⟨rfl, rfl⟩) dX3_putOnDisk_43
def kRedo (u : kS) (Pg Nb : Nat → Nat) : Nat → kS
  | 0 => u
  | i + 1 => if (kRedo u Pg Nb i 9 (i + 1) 0 = 0 ∨ kRedo u Pg Nb i 9 (i + 1) 0 = 1) ∧ kRedo u Pg Nb i 0 (Pg (i + 1)) 8 < nI (i + 1) then kPut (kRedo u Pg Nb i) (i + 1) (Pg (i + 1)) (Nb (i + 1)) else kRedo u Pg Nb i
theorem kRedo_F {u : kS} {Pg Nb : Nat → Nat} {F a b : Nat} (h : F ≠ 0) : ∀ k, kRedo u Pg Nb k F a b = u F a b
  | 0 => rfl
  | k + 1 => by
    have e := kRedo_F (u := u) (Pg := Pg) (Nb := Nb) (a := a) (b := b) h k
    unfold kRedo
    split
    · rw [kPut_F h, e]
    · exact e
set_option maxHeartbeats 4000000 in
set_option maxRecDepth 100000 in
theorem c_X3_redoOnDisk (l : Launch) (D : va_G) (c : Nat → ClassId) (ad : Nat → Nat → Nat) (n : Nat) (u : kS) (z : Nat) (Pg Nb : Nat → Nat) (hs : u 14 0 0 = nI z) (hz : z ≤ 400) (hP : ∀ i, i ≤ z → 1 ≤ i → (u 9 i 0 = 0 ∨ u 9 i 0 = 1) → u 9 i 2 = nI (Pg i) ∧ Pg i < 32 ∧ u 9 i 3 = nI (Nb i) ∧ Nb i < 8) : kC l D c ad n yX3_redoOnDisk (Cond.code yX3_redoOnDisk cX3_redoOnDisk 2 none) 2 44 u [.ref (ad 0 0)] (fun v u9 => v = none ∧ u9 = kRedo u Pg Nb z) := by
  refine kC.mk (by decide) (by simp [Value.category]) (Nat.le_of_ble_eq_true rfl) ?_
  intro p e s m args below meth c9 cx hr
  refine kg_iconst (v := 1) cx dX3_redoOnDisk_0 (by decide) ?_
  refine kg_istore_n cx dX3_redoOnDisk_1 (by decide) ?_
  have loop : ∀ (k i : Nat), z - i = k → i ≤ z → kgC p l e 2 44 s m args below meth c9 2 D c ad n u (fun v u9 => v = none ∧ u9 = kRedo u Pg Nb z) (kRedo u Pg Nb i) 2 [some (.ref (ad 0 0)), some (.int (nI (i + 1)))] [] := by
    intro k
    induction k with
    | zero =>
      intro i hk hi
      have e8 : i = z := by omega
      subst i
      refine kg_iload_n cx dX3_redoOnDisk_2 rfl ?_
      refine kg_aload_n cx dX3_redoOnDisk_3 rfl ?_
      refine kg_get (ci := 3) cx 0 1 kfs_X3 rfl (by decide) rfl rfl kf_X3_30 dX3_redoOnDisk_4 ?_
      refine kg_getN (ci := 1) cx 2 5 kfs_X1 rfl (by decide) rfl rfl (kfn_X3_100 cx.2.2.2.2.2.2.2.2) dX3_redoOnDisk_7 ?_
      refine kg_top (nI z) (by rw [kRedo_F (by decide)]; exact hs) ?_
      refine kg_icmp_gt cx 59 dX3_redoOnDisk_10 (by decide) (fun h1 => ?_) (fun h1 => ?_)
      · exact kg_return cx hr _ rfl (⟨rfl, rfl⟩) dX3_redoOnDisk_59
      · exact absurd (nI_lt (show z < z + 1 by omega) (by omega)) h1
    | succ k ih =>
      intro i hk hi
      refine kg_iload_n cx dX3_redoOnDisk_2 rfl ?_
      refine kg_aload_n cx dX3_redoOnDisk_3 rfl ?_
      refine kg_get (ci := 3) cx 0 1 kfs_X3 rfl (by decide) rfl rfl kf_X3_30 dX3_redoOnDisk_4 ?_
      refine kg_getN (ci := 1) cx 2 5 kfs_X1 rfl (by decide) rfl rfl (kfn_X3_100 cx.2.2.2.2.2.2.2.2) dX3_redoOnDisk_7 ?_
      refine kg_top (nI z) (by rw [kRedo_F (by decide)]; exact hs) ?_
      refine kg_icmp_gt cx 59 dX3_redoOnDisk_10 (by decide) (fun h1 => ?_) (fun h1 => ?_)
      · exact absurd h1 (nI_nlt (show i + 1 ≤ z by omega) (by omega))
      · refine kg_aload_n cx dX3_redoOnDisk_13 rfl ?_
        refine kg_get (ci := 3) cx 0 1 kfs_X3 rfl (by decide) rfl rfl kf_X3_30 dX3_redoOnDisk_14 ?_
        refine kg_iload_n cx dX3_redoOnDisk_17 rfl ?_
        refine kg_callVN (ci := 1) (na := 1) cx (c_X1_changesPage l D c ad n (kRedo u Pg Nb i) (i + 1) (by omega)) 2 rfl rfl kcd_X1_changesPage (kmn_X3_176 cx.2.2.2.2.2.2.2.2) kin_X1 kim_X1_changesPage ksl_X1_changesPage (by decide +kernel) rfl (by decide) (by decide) rfl (Nat.le_of_ble_eq_true rfl) dX3_redoOnDisk_18 (fun _ => kw_adr _ _) (fun v9 u9 h9 => ?_)
        obtain ⟨rfl, h9⟩ := h9
        subst u9
        refine kg_if_eq cx 53 dX3_redoOnDisk_21 (by decide) (fun h2 => ?_) (fun h2 => ?_)
        · refine kg_iinc (v := nI (i + 1 + 1)) cx dX3_redoOnDisk_53 rfl (nI_1 _) (by decide) ?_
          refine kg_goto cx 2 dX3_redoOnDisk_56 (by decide) ?_
          have e9 : kRedo u Pg Nb (i + 1) = kRedo u Pg Nb i := if_neg (fun q => absurd ((kb_1 q.1).symm.trans h2) (by decide))
          have := ih (i + 1) (by omega) (by omega)
          rw [e9] at this
          exact this
        · have hc9 : (kRedo u Pg Nb i 9 (i + 1) 0 = 0 ∨ kRedo u Pg Nb i 9 (i + 1) 0 = 1) := by
            by_cases q : (kRedo u Pg Nb i 9 (i + 1) 0 = 0 ∨ kRedo u Pg Nb i 9 (i + 1) 0 = 1)
            · exact q
            · exact absurd (kb_0 q) h2
          have hp9 := hP (i + 1) (by omega) (by omega) (by rw [kRedo_F (by decide)] at hc9; exact hc9)
          refine kg_iload_n cx dX3_redoOnDisk_24 rfl ?_
          refine kg_aload_n cx dX3_redoOnDisk_25 rfl ?_
          refine kg_get (ci := 3) cx 0 0 kfs_X3 rfl (by decide) rfl rfl kf_X3_23 dX3_redoOnDisk_26 ?_
          refine kg_getN (ci := 2) cx 1 0 kfs_X2 rfl (by decide) rfl rfl (kfn_X3_151 cx.2.2.2.2.2.2.2.2) dX3_redoOnDisk_29 ?_
          refine kg_aload_n cx dX3_redoOnDisk_32 rfl ?_
          refine kg_get (ci := 3) cx 0 1 kfs_X3 rfl (by decide) rfl rfl kf_X3_30 dX3_redoOnDisk_33 ?_
          refine kg_iload_n cx dX3_redoOnDisk_36 rfl ?_
          refine kg_iconst (v := (nI 2)) cx dX3_redoOnDisk_37 (by decide) ?_
          refine kg_callVN (ci := 1) (na := 2) cx (c_X1_value l D c ad n (kRedo u Pg Nb i) (i + 1) 2 (by omega) (by decide)) 2 rfl rfl kcd_X1_value (kmn_X3_106 cx.2.2.2.2.2.2.2.2) kin_X1 kim_X1_value ksl_X1_value (by decide +kernel) rfl (by decide) (by decide) rfl (Nat.le_of_ble_eq_true rfl) dX3_redoOnDisk_38 (fun _ => kw_adr _ _) (fun v9 u9 h9 => ?_)
          obtain ⟨rfl, h9⟩ := h9
          subst u9
          refine kg_top (nI (Pg (i + 1))) (by rw [kRedo_F (by decide)]; exact hp9.1) ?_
          refine kg_aaldAN cx 3 3 (Pg (i + 1)) rfl rfl (rfl) (hp9.2.1) (by decide) (k_if hp9.2.1 _) dX3_redoOnDisk_41 ?_
          refine kg_bipush (v := (nI 8)) cx dX3_redoOnDisk_42 (by decide) ?_
          refine kg_ialdN cx (12 + (Pg (i + 1))) 0 8 rfl (kw_at_d hp9.2.1) (rfl) (by decide) (by decide) (rfl) dX3_redoOnDisk_44 ?_
          refine kg_icmp_le cx 53 dX3_redoOnDisk_45 (by decide) (fun h3 => ?_) (fun h3 => ?_)
          · refine kg_iinc (v := nI (i + 1 + 1)) cx dX3_redoOnDisk_53 rfl (nI_1 _) (by decide) ?_
            refine kg_goto cx 2 dX3_redoOnDisk_56 (by decide) ?_
            have e9 : kRedo u Pg Nb (i + 1) = kRedo u Pg Nb i := if_neg (fun q => absurd q.2 (Int32.not_lt.mpr h3))
            have := ih (i + 1) (by omega) (by omega)
            rw [e9] at this
            exact this
          · refine kg_aload_n cx dX3_redoOnDisk_48 rfl ?_
            refine kg_iload_n cx dX3_redoOnDisk_49 rfl ?_
            refine kg_callV (ci := 3) (na := 1) cx (c_X3_putOnDisk l D c ad n (kRedo u Pg Nb i) (i + 1) (Pg (i + 1)) (Nb (i + 1)) (by omega) hp9.2.1 hp9.2.2.2 (by rw [kRedo_F (by decide)]; exact hp9.1) (by rw [kRedo_F (by decide)]; exact hp9.2.2.1)) 0 rfl rfl kcd_X3_putOnDisk km_X3_179 kin_X3 kim_X3_putOnDisk ksl_X3_putOnDisk (by decide +kernel) rfl (by decide) (by decide) rfl (Nat.le_of_ble_eq_true rfl) dX3_redoOnDisk_50 (fun _ => kw_adr _ _) (fun v9 u9 h9 => ?_)
            obtain ⟨rfl, h9⟩ := h9
            subst u9
            refine kg_iinc (v := nI (i + 1 + 1)) cx dX3_redoOnDisk_53 rfl (nI_1 _) (by decide) ?_
            refine kg_goto cx 2 dX3_redoOnDisk_56 (by decide) ?_
            have e9 : kRedo u Pg Nb (i + 1) = kPut (kRedo u Pg Nb i) (i + 1) (Pg (i + 1)) (Nb (i + 1)) := if_pos ⟨hc9, Int32.not_le.mp h3⟩
            have := ih (i + 1) (by omega) (by omega)
            rw [e9] at this
            exact this
  exact loop z 0 rfl (Nat.zero_le _)
end
section
/-- the UPDATE i of transaction t is undone on the disk: a record behind the last one (z), laid on the disk -/
def kUnd1 (u : kS) (i t p k z : Nat) : kS := kPut (kFol (kApp u (z + 1) 1 (nI t) (u 9 i 2) (u 9 i 3) (u 0 p k) (u 9 i 4) (nI i)) (z + 1) t i) (z + 1) p k
theorem kApp_9 {u : kS} {i j b : Nat} {k0 k1 k2 k3 k4 k5 k6 : Int32} (h : j ≠ i) : kApp u i k0 k1 k2 k3 k4 k5 k6 9 j b = u 9 j b := by simp [kApp, ku, h]
theorem kApp_F {u : kS} {i F a b : Nat} {k0 k1 k2 k3 k4 k5 k6 : Int32} (h : F ≠ 9) (h2 : F ≠ 14) : kApp u i k0 k1 k2 k3 k4 k5 k6 F a b = u F a b := by simp [kApp, ku, h, h2]
theorem kApp_14 {u : kS} {i : Nat} {k0 k1 k2 k3 k4 k5 k6 : Int32} : kApp u i k0 k1 k2 k3 k4 k5 k6 14 0 0 = nI i := by simp [kApp, ku]
theorem kUnd1_9 {u : kS} {i t p k z j b : Nat} (h : j ≠ z + 1) : kUnd1 u i t p k z 9 j b = u 9 j b := by
  unfold kUnd1
  rw [kPut_F (by decide), kFol_F (by decide), kApp_9 h]
theorem kUnd1_14 {u : kS} {i t p k z : Nat} : kUnd1 u i t p k z 14 0 0 = nI (z + 1) := by
  unfold kUnd1
  rw [kPut_F (by decide), kFol_F (by decide), kApp_14]
/-- undoing on the disk from the record i back: what then is, how many records, how many undone -/
def kUnd (T Pg Nb : Nat → Nat) : Nat → kS → Nat → Nat → kS × Nat × Nat
  | 0, u, z, d => (u, z, d)
  | i + 1, u, z, d => if kOpen u (i + 1) (T (i + 1)) then kUnd T Pg Nb i (kUnd1 u (i + 1) (T (i + 1)) (Pg (i + 1)) (Nb (i + 1)) z) (z + 1) (d + 1) else kUnd T Pg Nb i u z d
theorem kUnd_s {T Pg Nb : Nat → Nat} {i : Nat} {u : kS} {z d : Nat} : kUnd T Pg Nb (i + 1) u z d = if kOpen u (i + 1) (T (i + 1)) then kUnd T Pg Nb i (kUnd1 u (i + 1) (T (i + 1)) (Pg (i + 1)) (Nb (i + 1)) z) (z + 1) (d + 1) else kUnd T Pg Nb i u z d := rfl
/-- .. and there is room for all of it -/
def kUndOk (T Pg Nb : Nat → Nat) : Nat → kS → Nat → Prop
  | 0, _, _ => True
  | i + 1, u, z => if kOpen u (i + 1) (T (i + 1)) then z < 400 ∧ kUndOk T Pg Nb i (kUnd1 u (i + 1) (T (i + 1)) (Pg (i + 1)) (Nb (i + 1)) z) (z + 1) else kUndOk T Pg Nb i u z
theorem kUndOk_s {T Pg Nb : Nat → Nat} {i : Nat} {u : kS} {z : Nat} : kUndOk T Pg Nb (i + 1) u z = if kOpen u (i + 1) (T (i + 1)) then z < 400 ∧ kUndOk T Pg Nb i (kUnd1 u (i + 1) (T (i + 1)) (Pg (i + 1)) (Nb (i + 1)) z) (z + 1) else kUndOk T Pg Nb i u z := rfl
set_option maxHeartbeats 4000000 in
set_option maxRecDepth 100000 in
theorem c_X3_undoOnDisk (l : Launch) (D : va_G) (c : Nat → ClassId) (ad : Nat → Nat → Nat) (n : Nat) (u : kS) (z : Nat) (T Pg Nb : Nat → Nat) (hs : u 14 0 0 = nI z) (hz : z ≤ 400) (hT : ∀ i, i ≤ z → 1 ≤ i → u 9 i 1 = nI (T i) ∧ T i < 8) (hP : ∀ i, i ≤ z → 1 ≤ i → (u 9 i 0 = 0 ∨ u 9 i 0 = 1) → u 9 i 2 = nI (Pg i) ∧ Pg i < 32 ∧ u 9 i 3 = nI (Nb i) ∧ Nb i < 8) (hOk : kUndOk T Pg Nb z u z) : kC l D c ad n yX3_undoOnDisk (Cond.code yX3_undoOnDisk cX3_undoOnDisk 4 (some .int)) 4 95 u [.ref (ad 0 0)] (fun v u9 => v = some (.int (nI (kUnd T Pg Nb z u z 0).2.2)) ∧ u9 = (kUnd T Pg Nb z u z 0).1) := by
  refine kC.mk (by decide) (by simp [Value.category]) (Nat.le_of_ble_eq_true rfl) ?_
  intro p e s m args below meth c9 cx hr
  refine kg_iconst (v := 0) cx dX3_undoOnDisk_0 (by decide) ?_
  refine kg_istore_n cx dX3_undoOnDisk_1 (by decide) ?_
  refine kg_aload_n cx dX3_undoOnDisk_2 rfl ?_
  refine kg_get (ci := 3) cx 0 1 kfs_X3 rfl (by decide) rfl rfl kf_X3_30 dX3_undoOnDisk_3 ?_
  refine kg_getN (ci := 1) cx 2 5 kfs_X1 rfl (by decide) rfl rfl (kfn_X3_100 cx.2.2.2.2.2.2.2.2) dX3_undoOnDisk_6 ?_
  refine kg_top (nI z) (hs) ?_
  refine kg_istore_n cx dX3_undoOnDisk_9 (by decide) ?_
  have loop : ∀ (k : Nat) (v : kS) (y d : Nat), k ≤ z → z ≤ y → v 14 0 0 = nI y → (∀ j b, j ≤ z → v 9 j b = u 9 j b) → kUndOk T Pg Nb k v y → kUnd T Pg Nb z u z 0 = kUnd T Pg Nb k v y d → kgC p l e 4 95 s m args below meth c9 4 D c ad n u (fun v u9 => v = some (.int (nI (kUnd T Pg Nb z u z 0).2.2)) ∧ u9 = (kUnd T Pg Nb z u z 0).1) v 10 [some (.ref (ad 0 0)), some (.int (nI d)), some (.int (nI k)), none] [] := by
    intro k
    induction k with
    | zero =>
      intro v y d hi hy hs9 h9 hok he
      refine kg_iload_n cx dX3_undoOnDisk_10 rfl ?_
      refine kg_iconst (v := 1) cx dX3_undoOnDisk_11 (by decide) ?_
      refine kg_icmp_lt cx 76 dX3_undoOnDisk_12 (by decide) (fun h1 => ?_) (fun h1 => ?_)
      · refine kg_iload_n cx dX3_undoOnDisk_76 rfl ?_
        exact kg_ireturn cx hr (rfl) _ rfl (⟨by rw [he]; rfl, by rw [he]; rfl⟩) dX3_undoOnDisk_77
      · exact absurd (by decide) h1
    | succ k ih =>
      intro v y d hi hy hs9 h9 hok he
      have ht9 := hT (k + 1) hi (by omega)
      refine kg_iload_n cx dX3_undoOnDisk_10 rfl ?_
      refine kg_iconst (v := 1) cx dX3_undoOnDisk_11 (by decide) ?_
      refine kg_icmp_lt cx 76 dX3_undoOnDisk_12 (by decide) (fun h1 => ?_) (fun h1 => ?_)
      · exact absurd h1 (nI_nlt (show 1 ≤ k + 1 by omega) (by omega))
      · refine kg_aload_n cx dX3_undoOnDisk_15 rfl ?_
        refine kg_get (ci := 3) cx 0 1 kfs_X3 rfl (by decide) rfl rfl kf_X3_30 dX3_undoOnDisk_16 ?_
        refine kg_iload_n cx dX3_undoOnDisk_19 rfl ?_
        refine kg_callVN (ci := 1) (na := 1) cx (c_X1_isOpen l D c ad n v (k + 1) (T (k + 1)) (by omega) ht9.2 (by rw [h9 _ _ hi]; exact ht9.1)) 2 rfl rfl kcd_X1_isOpen (kmn_X3_103 cx.2.2.2.2.2.2.2.2) kin_X1 kim_X1_isOpen ksl_X1_isOpen (by decide +kernel) rfl (by decide) (by decide) rfl (Nat.le_of_ble_eq_true rfl) dX3_undoOnDisk_20 (fun _ => kw_adr _ _) (fun v9 u9 h9 => ?_)
        obtain ⟨rfl, h9⟩ := h9
        subst u9
        refine kg_if_eq cx 70 dX3_undoOnDisk_23 (by decide) (fun h2 => ?_) (fun h2 => ?_)
        · have hno : ¬ kOpen v (k + 1) (T (k + 1)) := fun q => absurd ((kb_1 q).symm.trans h2) (by decide)
          rw [kUndOk_s, if_neg hno] at hok
          rw [kUnd_s, if_neg hno] at he
          refine kg_iinc (v := nI k) cx dX3_undoOnDisk_70 rfl (pk_m1 k) (by decide) ?_
          refine kg_goto cx 10 dX3_undoOnDisk_73 (by decide) ?_
          exact ih v y d (by omega) (by omega) hs9 h9 hok he
        · have hop : kOpen v (k + 1) (T (k + 1)) := by
            by_cases q : kOpen v (k + 1) (T (k + 1))
            · exact q
            · exact absurd (kb_0 q) h2
          rw [kUndOk_s, if_pos hop] at hok
          rw [kUnd_s, if_pos hop] at he
          have hp9 := hP (k + 1) hi (by omega) (Or.inl (by rw [← h9 _ _ hi]; exact hop.1))
          refine kg_aload_n cx dX3_undoOnDisk_26 rfl ?_
          refine kg_get (ci := 3) cx 0 0 kfs_X3 rfl (by decide) rfl rfl kf_X3_23 dX3_undoOnDisk_27 ?_
          refine kg_getN (ci := 2) cx 1 0 kfs_X2 rfl (by decide) rfl rfl (kfn_X3_151 cx.2.2.2.2.2.2.2.2) dX3_undoOnDisk_30 ?_
          refine kg_aload_n cx dX3_undoOnDisk_33 rfl ?_
          refine kg_get (ci := 3) cx 0 1 kfs_X3 rfl (by decide) rfl rfl kf_X3_30 dX3_undoOnDisk_34 ?_
          refine kg_iload_n cx dX3_undoOnDisk_37 rfl ?_
          refine kg_iconst (v := (nI 2)) cx dX3_undoOnDisk_38 (by decide) ?_
          refine kg_callVN (ci := 1) (na := 2) cx (c_X1_value l D c ad n v (k + 1) 2 (by omega) (by decide)) 2 rfl rfl kcd_X1_value (kmn_X3_106 cx.2.2.2.2.2.2.2.2) kin_X1 kim_X1_value ksl_X1_value (by decide +kernel) rfl (by decide) (by decide) rfl (Nat.le_of_ble_eq_true rfl) dX3_undoOnDisk_39 (fun _ => kw_adr _ _) (fun v9 u9 h9 => ?_)
          obtain ⟨rfl, h9⟩ := h9
          subst u9
          refine kg_top (nI (Pg (k + 1))) (by rw [h9 _ _ hi]; exact hp9.1) ?_
          refine kg_aaldAN cx 3 3 (Pg (k + 1)) rfl rfl (rfl) (hp9.2.1) (by decide) (k_if hp9.2.1 _) dX3_undoOnDisk_42 ?_
          refine kg_astore_n cx dX3_undoOnDisk_43 (by decide) ?_
          refine kg_aload_n cx dX3_undoOnDisk_44 rfl ?_
          refine kg_aload_n cx dX3_undoOnDisk_45 rfl ?_
          refine kg_get (ci := 3) cx 0 1 kfs_X3 rfl (by decide) rfl rfl kf_X3_30 dX3_undoOnDisk_46 ?_
          refine kg_iload_n cx dX3_undoOnDisk_49 rfl ?_
          refine kg_aload_n cx dX3_undoOnDisk_50 rfl ?_
          refine kg_aload_n cx dX3_undoOnDisk_51 rfl ?_
          refine kg_get (ci := 3) cx 0 1 kfs_X3 rfl (by decide) rfl rfl kf_X3_30 dX3_undoOnDisk_52 ?_
          refine kg_iload_n cx dX3_undoOnDisk_55 rfl ?_
          refine kg_iconst (v := (nI 3)) cx dX3_undoOnDisk_56 (by decide) ?_
          refine kg_callVN (ci := 1) (na := 2) cx (c_X1_value l D c ad n v (k + 1) 3 (by omega) (by decide)) 2 rfl rfl kcd_X1_value (kmn_X3_106 cx.2.2.2.2.2.2.2.2) kin_X1 kim_X1_value ksl_X1_value (by decide +kernel) rfl (by decide) (by decide) rfl (Nat.le_of_ble_eq_true rfl) dX3_undoOnDisk_57 (fun _ => kw_adr _ _) (fun v9 u9 h9 => ?_)
          obtain ⟨rfl, h9⟩ := h9
          subst u9
          refine kg_top (nI (Nb (k + 1))) (by rw [h9 _ _ hi]; exact hp9.2.2.1) ?_
          refine kg_ialdN cx (12 + (Pg (k + 1))) 0 (Nb (k + 1)) rfl (kw_at_d hp9.2.1) (rfl) (Nat.lt_succ_of_lt hp9.2.2.2) (by decide) (rfl) dX3_undoOnDisk_60 ?_
          refine kg_callVN (ci := 1) (na := 2) cx (c_X1_appendUndo l D c ad n v y (T (k + 1)) (k + 1) (v 0 (Pg (k + 1)) (Nb (k + 1))) hs9 hok.1 ht9.2 (by omega) (by rw [h9 _ _ hi]; exact ht9.1)) 2 rfl rfl kcd_X1_appendUndo (kmn_X3_173 cx.2.2.2.2.2.2.2.2) kin_X1 kim_X1_appendUndo ksl_X1_appendUndo (by decide +kernel) rfl (by decide) (by decide) rfl (Nat.le_of_ble_eq_true rfl) dX3_undoOnDisk_61 (fun _ => kw_adr _ _) (fun v9 u9 h9 => ?_)
          obtain ⟨rfl, h9⟩ := h9
          subst u9
          refine kg_callV (ci := 3) (na := 1) cx (c_X3_putOnDisk l D c ad n _ (y + 1) (Pg (k + 1)) (Nb (k + 1)) (by omega) hp9.2.1 hp9.2.2.2 (by rw [kFol_F (by decide)]; simp [kApp, ku]; rw [h9 _ _ hi]; exact hp9.1) (by rw [kFol_F (by decide)]; simp [kApp, ku]; rw [h9 _ _ hi]; exact hp9.2.2.1)) 0 rfl rfl kcd_X3_putOnDisk km_X3_179 kin_X3 kim_X3_putOnDisk ksl_X3_putOnDisk (by decide +kernel) rfl (by decide) (by decide) rfl (Nat.le_of_ble_eq_true rfl) dX3_undoOnDisk_64 (fun _ => kw_adr _ _) (fun v9 u9 h9 => ?_)
          obtain ⟨rfl, h9⟩ := h9
          subst u9
          refine kg_iinc (v := nI (d + 1)) cx dX3_undoOnDisk_67 rfl (nI_1 d) (by decide) ?_
          refine kg_iinc (v := nI k) cx dX3_undoOnDisk_70 rfl (pk_m1 k) (by decide) ?_
          refine kg_goto cx 10 dX3_undoOnDisk_73 (by decide) ?_
          refine kg_lo (lo9 := [some (.ref (ad 0 0)), some (.int (nI (d + 1))), some (.int (nI k)), none]) (fun j x9 hx => ?_) ?_
          · match j, hx with
            | 0, hx => exact hx
            | 1, hx => exact hx
            | 2, hx => exact hx
            | 3, hx => cases hx
            | j + 4, hx => cases hx
          · exact ih _ (y + 1) (d + 1) (by omega) (by omega) kUnd1_14 (fun j b hj => (kUnd1_9 (by omega)).trans (h9 j b hj)) hok.2 he
  exact loop z u z 0 (Nat.le_refl _) (Nat.le_refl _) hs (fun _ _ _ => rfl) hOk rfl
/-- an END behind the last record for each of the first k TRANSACTIONS that had not ended -/
def kEnds (u : kS) (z : Nat) : Nat → kS × Nat
  | 0 => (u, z)
  | t + 1 => if (kEnds u z t).1 12 t 0 < (kEnds u z t).1 11 t 0 then (kFol (kApp (kEnds u z t).1 ((kEnds u z t).2 + 1) (nI 3) (nI t) (-1) (-1) (-1) (-1) (-1)) ((kEnds u z t).2 + 1) t 0, (kEnds u z t).2 + 1) else kEnds u z t
theorem kEnds_s {u : kS} {z t : Nat} : kEnds u z (t + 1) = if (kEnds u z t).1 12 t 0 < (kEnds u z t).1 11 t 0 then (kFol (kApp (kEnds u z t).1 ((kEnds u z t).2 + 1) (nI 3) (nI t) (-1) (-1) (-1) (-1) (-1)) ((kEnds u z t).2 + 1) t 0, (kEnds u z t).2 + 1) else kEnds u z t := rfl
theorem kEnds_14 {u : kS} {z : Nat} (h : u 14 0 0 = nI z) : ∀ t, (kEnds u z t).1 14 0 0 = nI (kEnds u z t).2
  | 0 => h
  | t + 1 => by
    have e := kEnds_14 h t
    rw [kEnds_s]
    split
    · show kFol _ _ _ _ 14 0 0 = _
      rw [kFol_F (by decide), kApp_14]
    · exact e
set_option maxHeartbeats 4000000 in
set_option maxRecDepth 100000 in
theorem c_X3_endUnended (l : Launch) (D : va_G) (c : Nat → ClassId) (ad : Nat → Nat → Nat) (n : Nat) (u : kS) (z : Nat) (hs : u 14 0 0 = nI z) (hOk : ∀ t, t < 8 → (kEnds u z t).1 12 t 0 < (kEnds u z t).1 11 t 0 → (kEnds u z t).2 < 400) : kC l D c ad n yX3_endUnended (Cond.code yX3_endUnended cX3_endUnended 2 none) 4 95 u [.ref (ad 0 0)] (fun v u9 => v = none ∧ u9 = (kEnds u z 8).1) := by
  refine kC.mk (by decide) (by simp [Value.category]) (Nat.le_of_ble_eq_true rfl) ?_
  intro p e s m args below meth c9 cx hr
  refine kg_iconst (v := 0) cx dX3_endUnended_0 (by decide) ?_
  refine kg_istore_n cx dX3_endUnended_1 (by decide) ?_
  have loop : ∀ (k i : Nat), 8 - i = k → i ≤ 8 → kgC p l e 4 95 s m args below meth c9 2 D c ad n u (fun v u9 => v = none ∧ u9 = (kEnds u z 8).1) (kEnds u z i).1 2 [some (.ref (ad 0 0)), some (.int (nI i))] [] := by
    intro k
    induction k with
    | zero =>
      intro i hk hi
      have e8 : i = 8 := by omega
      subst i
      refine kg_iload_n cx dX3_endUnended_2 rfl ?_
      refine kg_bipush (v := (nI 8)) cx dX3_endUnended_3 (by decide) ?_
      refine kg_icmp_ge cx 35 dX3_endUnended_5 (by decide) (fun h1 => ?_) (fun h1 => ?_)
      · exact kg_return cx hr _ rfl (⟨rfl, rfl⟩) dX3_endUnended_35
      · exact absurd (Int32.le_refl _) h1
    | succ k ih =>
      intro i hk hi
      have hin : i < 8 := by omega
      refine kg_iload_n cx dX3_endUnended_2 rfl ?_
      refine kg_bipush (v := (nI 8)) cx dX3_endUnended_3 (by decide) ?_
      refine kg_icmp_ge cx 35 dX3_endUnended_5 (by decide) (fun h1 => ?_) (fun h1 => ?_)
      · exact absurd h1 (nI_ge hin (by omega))
      · refine kg_aload_n cx dX3_endUnended_8 rfl ?_
        refine kg_get (ci := 3) cx 0 1 kfs_X3 rfl (by decide) rfl rfl kf_X3_30 dX3_endUnended_9 ?_
        refine kg_iload_n cx dX3_endUnended_12 rfl ?_
        refine kg_callVN (ci := 1) (na := 1) cx (c_X1_isUnended l D c ad n (kEnds u z i).1 i hin) 2 rfl rfl kcd_X1_isUnended (kmn_X3_182 cx.2.2.2.2.2.2.2.2) kin_X1 kim_X1_isUnended ksl_X1_isUnended (by decide +kernel) rfl (by decide) (by decide) rfl (Nat.le_of_ble_eq_true rfl) dX3_endUnended_13 (fun _ => kw_adr _ _) (fun v9 u9 h9 => ?_)
        obtain ⟨rfl, h9⟩ := h9
        subst u9
        refine kg_if_eq cx 29 dX3_endUnended_16 (by decide) (fun h2 => ?_) (fun h2 => ?_)
        · refine kg_iinc (v := nI (i + 1)) cx dX3_endUnended_29 rfl (nI_1 i) (by decide) ?_
          refine kg_goto cx 2 dX3_endUnended_32 (by decide) ?_
          have e9 : kEnds u z (i + 1) = kEnds u z i := if_neg (fun q => absurd ((kb_1 q).symm.trans h2) (by decide))
          have := ih (i + 1) (by omega) (by omega)
          rw [e9] at this
          exact this
        · have hop : (kEnds u z i).1 12 i 0 < (kEnds u z i).1 11 i 0 := by
            by_cases q : (kEnds u z i).1 12 i 0 < (kEnds u z i).1 11 i 0
            · exact q
            · exact absurd (kb_0 q) h2
          refine kg_aload_n cx dX3_endUnended_19 rfl ?_
          refine kg_get (ci := 3) cx 0 1 kfs_X3 rfl (by decide) rfl rfl kf_X3_30 dX3_endUnended_20 ?_
          refine kg_iconst (v := (nI 3)) cx dX3_endUnended_23 (by decide) ?_
          refine kg_iload_n cx dX3_endUnended_24 rfl ?_
          refine kg_callVN (ci := 1) (na := 2) cx (c_X1_appendLast l D c ad n (kEnds u z i).1 (kEnds u z i).2 i (nI 3) (kEnds_14 hs i) (hOk i hin hop) hin (by decide)) 2 rfl rfl kcd_X1_appendLast (kmn_X3_91 cx.2.2.2.2.2.2.2.2) kin_X1 kim_X1_appendLast ksl_X1_appendLast (by decide +kernel) rfl (by decide) (by decide) rfl (Nat.le_of_ble_eq_true rfl) dX3_endUnended_25 (fun _ => kw_adr _ _) (fun v9 u9 h9 => ?_)
          obtain ⟨rfl, h9⟩ := h9
          subst u9
          refine kg_pop cx dX3_endUnended_28 rfl ?_
          refine kg_iinc (v := nI (i + 1)) cx dX3_endUnended_29 rfl (nI_1 i) (by decide) ?_
          refine kg_goto cx 2 dX3_endUnended_32 (by decide) ?_
          have := ih (i + 1) (by omega) (by omega)
          rw [kEnds_s (t := i), if_pos hop] at this
          exact this
  exact loop 8 0 rfl (by decide)
theorem kBack_F {u : kS} {f q F a b : Nat} (h : 9 ≤ F) : kBack u f q F a b = u F a b := by
  have h0 : F ≠ 0 := by omega
  have h3 : F ≠ 3 := by omega
  have h7 : F ≠ 7 := by omega
  simp [kBack, ku, kcp, h0, h3, h7]
theorem kLoad_F {u : kS} {p f q F a b : Nat} (h : 9 ≤ F) : kLoad u p f q F a b = u F a b := by
  have h1 : F ≠ 1 := by omega
  have h5 : F ≠ 5 := by omega
  have h8 : F ≠ 8 := by omega
  unfold kLoad
  split
  · simp [ku, kcp, h1, h5, h8]
  · simp [ku, kcp, h1, h5, h8, kBack_F h]
theorem kBring_F {u : kS} {n p : Nat} {fl : Int32} {h : Nat} {Q : Nat → Nat} {r : Int32} {u9 : kS} (hb : kBring u n p fl h Q r u9) {F a b : Nat} (hF : 9 ≤ F) : u9 F a b = u F a b := by
  have h4 : F ≠ 4 := by omega
  have h6 : F ≠ 6 := by omega
  rcases hb with ⟨f, -, -, -, -, rfl⟩ | ⟨f, -, -, -, -, -, rfl⟩ | ⟨f, -, -, -, -, -, rfl⟩ | ⟨-, -, -, -, rfl⟩
  · rw [ku_F h4]
  · rw [ku_F h4, kLoad_F hF]
  · rw [ku_F h4, kLoad_F hF, kTurn_F h4 h6]
  · rw [kTurn_F h4 h6]
theorem kBring_r {u : kS} {n p : Nat} {fl : Int32} {h : Nat} {Q : Nat → Nat} {r : Int32} {u9 : kS} (hb : kBring u n p fl h Q r u9) : (∃ f, f < n ∧ r = nI f) ∨ r = -1 := by
  rcases hb with ⟨f, h1, -, -, h2, -⟩ | ⟨f, h1, -, -, -, h2, -⟩ | ⟨f, h1, -, -, -, h2, -⟩ | ⟨-, -, -, h2, -⟩
  · exact Or.inl ⟨f, h1, h2⟩
  · exact Or.inl ⟨f, h1, h2⟩
  · exact Or.inl ⟨f, h1, h2⟩
  · exact Or.inr h2
/-- the UPDATE i of transaction t, of the number k, is undone in the frame f: a record behind the last one (z) -/
def kUndP (u : kS) (f i t k z : Nat) : kS := ku (ku (ku (kFol (kApp u (z + 1) 1 (nI t) (u 9 i 2) (u 9 i 3) (u 5 f k) (u 9 i 4) (nI i)) (z + 1) t i) 5 f k (u 9 i 4)) 5 f 8 (nI (z + 1))) 3 f 0 1
def kUip (u : kS) (n p h : Nat) (Q : Nat → Nat) (i t k z : Nat) (r : Int32) (u9 : kS) : Prop := (∃ u1, kBring u n p (u 15 0 0) h Q (-1) u1 ∧ r = 0 ∧ u9 = u1) ∨ (∃ f u1, f < n ∧ kBring u n p (u 15 0 0) h Q (nI f) u1 ∧ r = 1 ∧ u9 = kUndP u1 f i t k z)
set_option maxHeartbeats 4000000 in
set_option maxRecDepth 100000 in
theorem c_X3_undoInPool (l : Launch) (D : va_G) (c : Nat → ClassId) (ad : Nat → Nat → Nat) (n : Nat) (hn : n ≤ 8) (u : kS) (i t q k z h : Nat) (Q : Nat → Nat) (hi : i ≤ z) (hz : z < 400) (hs : u 14 0 0 = nI z) (ht : t < 8) (hT : u 9 i 1 = nI t) (hq : q < 32) (hq9 : u 9 i 2 = nI q) (hk : k < 8) (hk9 : u 9 i 3 = nI k) (hh : h < n) (hH : u 6 0 0 = nI h) (hQ : ∀ f, f < n → u 3 f 0 ≠ 0 → u 1 f 0 = nI (Q f) ∧ Q f < 32) : kC l D c ad n yX3_undoInPool (Cond.code yX3_undoInPool cX3_undoInPool 6 (some .boolean)) 4 126 u [.ref (ad 0 0), .int (nI i)] (fun v u9 => ∃ r, v = some (.int r) ∧ kUip u n q h Q i t k z r u9) := by
  refine kC.mk (by decide) (by simp [Value.category]) (Nat.le_of_ble_eq_true rfl) ?_
  intro p e s m args below meth c9 cx hr
  refine kg_aload_n cx dX3_undoInPool_0 rfl ?_
  refine kg_get (ci := 3) cx 0 0 kfs_X3 rfl (by decide) rfl rfl kf_X3_23 dX3_undoInPool_1 ?_
  refine kg_aload_n cx dX3_undoInPool_4 rfl ?_
  refine kg_get (ci := 3) cx 0 1 kfs_X3 rfl (by decide) rfl rfl kf_X3_30 dX3_undoInPool_5 ?_
  refine kg_iload_n cx dX3_undoInPool_8 rfl ?_
  refine kg_iconst (v := (nI 2)) cx dX3_undoInPool_9 (by decide) ?_
  refine kg_callVN (ci := 1) (na := 2) cx (c_X1_value l D c ad n u i 2 (by omega) (by decide)) 2 rfl rfl kcd_X1_value (kmn_X3_106 cx.2.2.2.2.2.2.2.2) kin_X1 kim_X1_value ksl_X1_value (by decide +kernel) rfl (by decide) (by decide) rfl (Nat.le_of_ble_eq_true rfl) dX3_undoInPool_10 (fun _ => kw_adr _ _) (fun v9 u9 h9 => ?_)
  obtain ⟨rfl, h9⟩ := h9
  subst u9
  refine kg_top (nI q) (hq9) ?_
  refine kg_aload_n cx dX3_undoInPool_13 rfl ?_
  refine kg_get (ci := 3) cx 0 1 kfs_X3 rfl (by decide) rfl rfl kf_X3_30 dX3_undoInPool_14 ?_
  refine kg_getN (ci := 1) cx 2 6 kfs_X1 rfl (by decide) rfl rfl (kfn_X3_45 cx.2.2.2.2.2.2.2.2) dX3_undoInPool_17 ?_
  refine kg_callVN (ci := 2) (na := 2) cx (c_X2_bring l D c ad n hn u q (u 15 0 0) h Q hq hh hH hQ) 1 rfl rfl kcd_X2_bring (kmn_X3_49 cx.2.2.2.2.2.2.2.2) kin_X2 kim_X2_bring ksl_X2_bring (by decide +kernel) rfl (by decide) (by decide) rfl (Nat.le_of_ble_eq_true rfl) dX3_undoInPool_20 (fun _ => kw_adr _ _) (fun v9 u9 h9 => ?_)
  obtain ⟨r9, rfl, hb9⟩ := h9
  rcases kBring_r hb9 with ⟨f, hf, rfl⟩ | rfl
  · refine kg_istore_n cx dX3_undoInPool_23 (by decide) ?_
    refine kg_iload_n cx dX3_undoInPool_24 rfl ?_
    refine kg_if_ge cx 30 dX3_undoInPool_25 (by decide) (fun h1 => ?_) (fun h1 => ?_)
    · refine kg_aload_n cx dX3_undoInPool_30 rfl ?_
      refine kg_get (ci := 3) cx 0 0 kfs_X3 rfl (by decide) rfl rfl kf_X3_23 dX3_undoInPool_31 ?_
      refine kg_getN (ci := 2) cx 1 1 kfs_X2 rfl (by decide) rfl rfl (kfn_X3_52 cx.2.2.2.2.2.2.2.2) dX3_undoInPool_34 ?_
      refine kg_iload_n cx dX3_undoInPool_37 rfl ?_
      refine kg_aaldN cx 4 2 f rfl rfl (rfl) (hf) (by omega) (k_if hf _) dX3_undoInPool_38 ?_
      refine kg_astore_n cx dX3_undoInPool_39 (by decide) ?_
      refine kg_aload_n cx dX3_undoInPool_40 rfl ?_
      refine kg_get (ci := 3) cx 0 1 kfs_X3 rfl (by decide) rfl rfl kf_X3_30 dX3_undoInPool_41 ?_
      refine kg_iload_n cx dX3_undoInPool_44 rfl ?_
      refine kg_iconst (v := (nI 3)) cx dX3_undoInPool_45 (by decide) ?_
      refine kg_callVN (ci := 1) (na := 2) cx (c_X1_value l D c ad n u9 i 3 (by omega) (by decide)) 2 rfl rfl kcd_X1_value (kmn_X3_106 cx.2.2.2.2.2.2.2.2) kin_X1 kim_X1_value ksl_X1_value (by decide +kernel) rfl (by decide) (by decide) rfl (Nat.le_of_ble_eq_true rfl) dX3_undoInPool_46 (fun _ => kw_adr _ _) (fun v9 u9 h9 => ?_)
      obtain ⟨rfl, h9⟩ := h9
      subst h9
      refine kg_top (nI k) (by rw [kBring_F hb9 (by decide)]; exact hk9) ?_
      refine kg_istore cx dX3_undoInPool_49 (by decide) ?_
      refine kg_aload_n cx dX3_undoInPool_51 rfl ?_
      refine kg_get (ci := 3) cx 0 1 kfs_X3 rfl (by decide) rfl rfl kf_X3_30 dX3_undoInPool_52 ?_
      refine kg_iload_n cx dX3_undoInPool_55 rfl ?_
      refine kg_aload_n cx dX3_undoInPool_56 rfl ?_
      refine kg_getN (ci := 0) cx (44 + f) 0 kfs_X0 rfl (by decide) (kw_at_o hf) rfl (kfn_X3_65 cx.2.2.2.2.2.2.2.2) dX3_undoInPool_57 ?_
      refine kg_iload cx dX3_undoInPool_60 rfl ?_
      refine kg_ialdN cx (44 + n + f) 0 k rfl (kw_at_r hf) (rfl) (by omega) (by decide) (rfl) dX3_undoInPool_62 ?_
      refine kg_callVN (ci := 1) (na := 2) cx (c_X1_appendUndo l D c ad n u9 z t i (u9 5 f k) (by rw [kBring_F hb9 (by decide)]; exact hs) hz ht (by omega) (by rw [kBring_F hb9 (by decide)]; exact hT)) 2 rfl rfl kcd_X1_appendUndo (kmn_X3_173 cx.2.2.2.2.2.2.2.2) kin_X1 kim_X1_appendUndo ksl_X1_appendUndo (by decide +kernel) rfl (by decide) (by decide) rfl (Nat.le_of_ble_eq_true rfl) dX3_undoInPool_63 (fun _ => kw_adr _ _) (fun v9 u9 h9 => ?_)
      obtain ⟨rfl, h9⟩ := h9
      subst h9
      refine kg_istore cx dX3_undoInPool_66 (by decide) ?_
      refine kg_aload_n cx dX3_undoInPool_68 rfl ?_
      refine kg_iload cx dX3_undoInPool_69 rfl ?_
      refine kg_aload_n cx dX3_undoInPool_71 rfl ?_
      refine kg_get (ci := 3) cx 0 1 kfs_X3 rfl (by decide) rfl rfl kf_X3_30 dX3_undoInPool_72 ?_
      refine kg_iload cx dX3_undoInPool_75 rfl ?_
      refine kg_iconst (v := (nI 5)) cx dX3_undoInPool_77 (by decide) ?_
      refine kg_callVN (ci := 1) (na := 2) cx (c_X1_value l D c ad n _ (z + 1) 5 (by omega) (by decide)) 2 rfl rfl kcd_X1_value (kmn_X3_106 cx.2.2.2.2.2.2.2.2) kin_X1 kim_X1_value ksl_X1_value (by decide +kernel) rfl (by decide) (by decide) rfl (Nat.le_of_ble_eq_true rfl) dX3_undoInPool_78 (fun _ => kw_adr _ _) (fun v9 u9 h9 => ?_)
      obtain ⟨rfl, h9⟩ := h9
      subst h9
      refine kg_top (u9 9 i 4) (by rw [kFol_F (by decide)]; simp [kApp, ku]) ?_
      refine kg_iload cx dX3_undoInPool_81 rfl ?_
      refine kg_callVN (ci := 0) (na := 3) cx (c_X0_change l D c ad n _ f k (u9 9 i 4) (nI (z + 1)) hf hk) (44 + f) rfl (kw_at_o hf) kcd_X0_change (kmn_X3_87 cx.2.2.2.2.2.2.2.2) kin_X0 kim_X0_change ksl_X0_change (by decide +kernel) rfl (by decide) (by decide) rfl (Nat.le_of_ble_eq_true rfl) dX3_undoInPool_83 (fun _ => kw_adr _ _) (fun v9 u9 h9 => ?_)
      obtain ⟨rfl, h9⟩ := h9
      subst h9
      refine kg_iconst (v := 1) cx dX3_undoInPool_86 (by decide) ?_
      exact kg_ireturn cx hr (nar_1) _ rfl (⟨_, rfl, Or.inr ⟨f, u9, hf, hb9, rfl, rfl⟩⟩) dX3_undoInPool_87
    · exact absurd (nI_ge0 (by omega)) h1
  · refine kg_istore_n cx dX3_undoInPool_23 (by decide) ?_
    refine kg_iload_n cx dX3_undoInPool_24 rfl ?_
    refine kg_if_ge cx 30 dX3_undoInPool_25 (by decide) (fun h1 => ?_) (fun h1 => ?_)
    · exact absurd h1 (by decide)
    · refine kg_iconst (v := 0) cx dX3_undoInPool_28 (by decide) ?_
      exact kg_ireturn cx hr (nar_0) _ rfl (⟨_, rfl, Or.inl ⟨_, hb9, rfl, rfl⟩⟩) dX3_undoInPool_29
end
section
section KX
/-- what a throw needs of the statics of Throwable: null or some reference, outside of A -/
def kZ (A : Nat → Prop) (U : State) (H : Heap) : Prop := vx_Zq Bundle.tN "UNASSIGNED_STACK" Bundle.steD A U H ∧ vx_Zq Bundle.tN "SUPPRESSED_SENTINEL" Bundle.listD A U H
theorem kZ.moved {A : Nat → Prop} {u U : State} {H : Heap} (hvm : u.vm.Alike U.vm) (h : kZ A u H) : kZ A U H := ⟨h.1.moved hvm, h.2.moved hvm⟩
theorem kZ.kept {A : Nat → Prop} {U : State} {H H1 : Heap} (h : kZ A U H) (hq : ∀ a : Nat, a < H.size → ¬ A a → H1[a]? = H[a]?) : kZ A U H1 := ⟨h.1.kept hq, h.2.kept hq⟩
theorem kZ.narrow {A B : Nat → Prop} {U : State} {H : Heap} (h : kZ A U H) (hAB : ∀ q, B q → A q) : kZ B U H := ⟨h.1.narrow hAB, h.2.narrow hAB⟩
def kx_P (D : va_G) (tys : List (ClassId × FieldType)) (w : va_W) (sz : Nat) (av : List Value) : Array Value → State → Prop := va_Pc av (fun U => U.heap.size = sz ∧ va_P D vwCl w U.heap ∧ va_K D vwCl tys U ∧ va_D (fun _ => True) w ∧ kN U ∧ kZ (va_A w sz) U U.heap)
theorem kx_P.blind {D : va_G} {tys : List (ClassId × FieldType)} {w : va_W} {sz : Nat} {av : List Value} : FrameBlind (kx_P D tys w sz av) := by
  intro a U g mk q
  obtain ⟨q0, q1, qP, qK, qD, qN, qZ⟩ := q
  exact ⟨q0, q1, qP, va_K.moved (u := U) (U := U.calling g mk a) (Vm.Alike.refl U.vm) qK, qD, kN_same (s := U) (U := U.calling g mk a) rfl qN, kZ.moved (u := U) (U := U.calling g mk a) (Vm.Alike.refl U.vm) qZ⟩
/-- where a method has thrown E: that is told by pe, its world is as it was -/
def kx_X (pe : String → Prop) (D : va_G) (w : va_W) (A : Nat → Prop) : String → State → State → Prop := fun E st t => pe E ∧ va_P D vwCl w t.heap ∧ va_F A st t
abbrev kx_rm (fr lc mc ms : Nat) : Room := { frames := fr, cells := mc, slots := ms, locals := lc }
/-- the contract of a method that returns, or throws and leaves its world -/
def kx (l : Launch) (y : MethodName) (cd : Cond) (fr lc mc ms : Nat) (D : va_G) (tys : List (ClassId × FieldType)) (w : va_W) (av : List Value) {S : Type} (wo : S → va_W) (post : Option Value → S → Prop) (pe : String → Prop) : Prop :=
  ∀ sz : Nat, vx_Met l y (cd :: kT) (kx_rm fr lc mc ms) (kx_P D tys w sz av) (kc_Q wo D post (va_A w sz)) (kx_X pe D w (va_A w sz)) mc ms (va_A w sz)
theorem kx.mk {l : Launch} {y : MethodName} {cc : ByteArray} {nL fr lc mc ms : Nat} {ret : Option FieldType} {D : va_G} {tys : List (ClassId × FieldType)} {w : va_W} {av : List Value} {S : Type} {wo : S → va_W} {post : Option Value → S → Prop} {pe : String → Prop}
    (hy : plainName y.cls = true) (hav : ∀ v ∈ av, v.category = 1) (hlen : av.length ≤ nL)
    (body : ∀ (p : Program) (e : Env) (s : State) (m : MethodId) (args : Array Value) (below : List Frame) (meth : Method) (c : Code), kg_c p s m args meth c cc nL y.cls D tys (va_A w s.heap.size) → meth.sig.returnType = ret → kZ (va_A w s.heap.size) s s.heap → (∀ x ∈ c.exceptionTable.toList, False) →
      kg p l e (kx_rm fr lc mc ms) s m args below meth c nL D (va_A w s.heap.size) (vx_MQ below (kc_Q wo D post (va_A w s.heap.size)) (kx_X pe D w (va_A w s.heap.size)) args s mc ms (va_A w s.heap.size)) 0 0 w 0 (kg_in av nL) []) :
    kx l y (Cond.code y cc nL ret) fr lc mc ms D tys w av wo post pe := by
  intro sz
  refine vx_ofW (cc := cc) (maxL := nL) (ret := ret) hy rfl ?_
  intro p e s m args below meth c s₁ B hml hno hv
  obtain ⟨rfl, hsz, hP, hK, hD0, hN, hZ⟩ := hv
  subst hsz
  have hts := atoms_spec (ws := Cond.code y cc nL ret :: kT) B.pre
  rw [lg_entry_eq]
  exact body p e s m _ below meth c ⟨B.exec, B.bytes, hml, findClass_of_methodNamed B.named, fun w9 h9 => hts w9 (List.mem_cons_of_mem _ h9), hK, fun q h => Or.inr h, B.notSynchronized, hN⟩ B.returns hZ hno s.heap [] _ hP hD0.self va_S.rf (kg_in_h hav hlen)
variable {p : Program} {l : Launch} {e : Env} {R : Room} {s : State} {m : MethodId} {args : Array Value} {below : List Frame} {meth : Method} {c : Code} {cells slots : Nat}
variable {cc : ByteArray} {nL : Nat} {own : String} {D : va_G} {tys : List (ClassId × FieldType)} {A : Nat → Prop} {ws : va_W} {pc : Nat} {lo : List (Option Value)} {st : List Value}
variable {S0 : Type} {wo0 : S0 → va_W} {post0 : Option Value → S0 → Prop} {pe0 : String → Prop} {mc ms : Nat}
theorem kx_run {S : Type} {wo : S → va_W} {post : Option Value → S → Prop} {pe : String → Prop} {rest : List Value} {a : Array Value} {mc1 ms1 : Nat} (cx : kg_c p s m args meth c cc nL own D tys A) (hno : ∀ x ∈ c.exceptionTable.toList, False)
    (hrun : ∀ (H : Heap) (locs : List Loc) (ls : Array Slot), va_P D vwCl ws H → va_D A ws → va_S A s.heap H locs → kg_h ls nL lo → vx_Run p l e R s m args below meth c H locs cells slots mc1 ms1 (F0 m pc ls st) rest (kc_Q wo D post (va_A ws H.size) a) (kx_X pe D ws (va_A ws H.size)) (va_A ws H.size))
    (hadr : ∀ u, (wo u).map Prod.fst = ws.map Prod.fst) (hpe : ∀ E, pe E → pe0 E) (hmc : cells + mc1 ≤ mc ∧ slots + ms1 ≤ ms)
    (kk : ∀ (v : Option Value) (u : S), post v u → kg p l e R s m args below meth c nL D A (vx_MQ below (kc_Q wo0 D post0 A) (kx_X pe0 D ws A) args s mc ms A) (cells + mc1) (slots + ms1) (wo u) (pc + 3) lo (v.toList ++ rest)) :
    kg p l e R s m args below meth c nL D A (vx_MQ below (kc_Q wo0 D post0 A) (kx_X pe0 D ws A) args s mc ms A) cells slots ws pc lo st := by
  intro H locs ls hP hD hS hl T hT X
  have hf := va_A_in hD hS cx.2.2.2.2.2.2.1
  rcases hrun H locs ls hP hD hS hl T hT X with ⟨v, st₀, t, T', L, h0, X', hL, e1, e2, ⟨⟨v', u, hv, hp, hb⟩, hF⟩, st9⟩ | ⟨q, st₀, t, T', L, E, ce, h0, X', hL, e1, e2, ⟨hp, hb, hF⟩, hce, hcv, hcl, st9⟩
  · cases hv
    obtain ⟨k1, k2, k3⟩ := vx_keep h0 e1 hS (fun q _ h => hf q h) hf hL hF
    obtain ⟨t2, a1, b1⟩ := kk v u hp T'.heap (locs ++ L) ls (by rw [e1]; exact hb) (va_D_adr (hadr u) hD) k3 hl T' rfl X'
    exact ⟨t2, st9 t2 a1, b1⟩
  · obtain ⟨k1, k2, k3⟩ := vx_keep h0 e1 hS (fun q _ h => hf q h) hf hL hF
    obtain ⟨t2, a1, b1⟩ := vx_out (Qc := kc_Q wo0 D post0 A) (XC := kx_X pe0 D ws A) (free := A) (mc := mc) (ms := ms) (args := args) (ls := ls) (rest := rest) (pc := pc) (fun x hx => (hno x hx).elim) cx.2.2.2.2.2.2.2.1 (H := T'.heap) (by rw [e1]; exact hce) hcv hcl (fun t9 ht9 ha9 => ⟨hpe E hp, by rw [ht9, e1]; exact hb, k3.F ht9⟩) k3.2.2 hmc.1 hmc.2 T' rfl X'
    exact ⟨t2, st9.trans a1, b1⟩
theorem kx_pre (cx : kg_c p s m args meth c cc nL own D tys A) (hZ : kZ A s s.heap) {H : Heap} {locs : List Loc} {av : List Value} (hP : va_P D vwCl ws H) (hD : va_D A ws) (hS : va_S A s.heap H locs) : ∀ U : State, U.heap = H → s.WarmedH U.vm → kx_P D tys ws H.size av av.toArray U := by
  intro U hU hW
  exact ⟨rfl, by rw [hU], by rw [hU]; exact hP, va_K.moved hW.alike cx.2.2.2.2.2.1, hD.weaken (fun _ _ _ _ => trivial), kN_moved hW cx.2.2.2.2.2.2.2.2, by rw [hU]; exact ((hZ.kept hS.2.1).moved hW.alike).narrow (va_A_in hD hS cx.2.2.2.2.2.2.1)⟩
theorem kx_callV (cx : kg_c p s m args meth c cc nL own D tys A) (hZ : kZ A s s.heap) (hno : ∀ x ∈ c.exceptionTable.toList, False) {S : Type} {wo : S → va_W} {post : Option Value → S → Prop} {pe : String → Prop} {y : MethodName} {bytes : ByteArray} {maxL fr lc mc1 ms1 index ci N b na : Nat} {ret : Option FieldType} {C : String} {T : u_T} {fs As rest : List Value}
    (hM : kx l y (Cond.code y bytes maxL ret) fr lc mc1 ms1 D tys ws (.ref b :: As) wo post pe) (q0 : Nat) (hc : vwCl[ci]? = some (C, T, N)) (he : ws[q0]? = some (b, .inr (ci, fs)))
    (hcd : Cond.code y bytes maxL ret ∈ kT) (hlk : Cond.methodLink own index y ∈ kT) (hini : Cond.initialized y.cls ∈ kT) (him : Cond.instanceMethod y ∈ kT) (hsl : Cond.selects C y y ∈ kT)
    (hd9 : y.cls ≠ "java/lang/invoke/MethodHandle" ∧ y.cls ≠ "java/lang/invoke/VarHandle" ∧ (parseMethodDescriptor y.desc).map (fun d => d.parameters.length) = some na) (hna : As.length = na)
    (hR : fr + 1 ≤ R.frames ∧ 8 + (maxL + 11) + lc ≤ R.locals) (hf : cells + mc1 ≤ R.cells ∧ slots + ms1 ≤ R.slots) (hmc : cells + mc1 ≤ mc ∧ slots + ms1 ≤ ms) (hst : st = As.reverse ++ .ref b :: rest) (hw : (rest.map fun v => v.category).sum ≤ 8) (hd : decode cc pc = .ok (.invokevirtual index, 3))
    (hadr : ∀ u, (wo u).map Prod.fst = ws.map Prod.fst) (hpe : ∀ E, pe E → pe0 E)
    (kk : ∀ (v : Option Value) (u : S), post v u → kg p l e R s m args below meth c nL D A (vx_MQ below (kc_Q wo0 D post0 A) (kx_X pe0 D ws A) args s mc ms A) (cells + mc1) (slots + ms1) (wo u) (pc + 3) lo (v.toList ++ rest)) :
    kg p l e R s m args below meth c nL D A (vx_MQ below (kc_Q wo0 D post0 A) (kx_X pe0 D ws A) args s mc ms A) cells slots ws pc lo st := by
  refine kx_run (a := (Value.ref b :: As).toArray) cx hno (fun H locs ls hP hD hS hl => ?_) hadr hpe hmc kk
  have ht := cx.2.2.2.2.1
  exact vx_runV (Ts := kT) (C := C) (b := b) (As := As) (rest := rest) ⟨cx.1, cx.2.1, cx.2.2.1, cx.2.2.2.1, ht⟩ (hM H.size) ⟨callB_of (ws' := kT) na ht (kT_good hcd (List.mem_filter.mp hcd).2 (fun _ h => h)) rfl rfl rfl (ht _ hini) (ht _ hlk) hd9 hR, ht _ him, ht _ hsl⟩ ⟨kx_P.blind, va_recv cx.2.2.2.2.2.1 hP hc he, kx_pre cx hZ hP hD hS⟩ rfl hna hl.size hst (lv_room (rest := st) hw) hd hf
theorem kx_callS (cx : kg_c p s m args meth c cc nL own D tys A) (hZ : kZ A s s.heap) (hno : ∀ x ∈ c.exceptionTable.toList, False) {S : Type} {wo : S → va_W} {post : Option Value → S → Prop} {pe : String → Prop} {y : MethodName} {bytes : ByteArray} {maxL fr lc mc1 ms1 index na : Nat} {ret : Option FieldType} {As rest : List Value}
    (hM : kx l y (Cond.code y bytes maxL ret) fr lc mc1 ms1 D tys ws As wo post pe)
    (hcd : Cond.code y bytes maxL ret ∈ kT) (hlk : Cond.methodLink own index y ∈ kT) (hini : Cond.initialized y.cls ∈ kT) (hstt : Cond.static y ∈ kT)
    (hd9 : y.cls ≠ "java/lang/invoke/MethodHandle" ∧ y.cls ≠ "java/lang/invoke/VarHandle" ∧ (parseMethodDescriptor y.desc).map (fun d => d.parameters.length) = some na) (hna : As.length = na)
    (hR : fr + 1 ≤ R.frames ∧ 8 + (maxL + 11) + lc ≤ R.locals) (hf : cells + mc1 ≤ R.cells ∧ slots + ms1 ≤ R.slots) (hmc : cells + mc1 ≤ mc ∧ slots + ms1 ≤ ms) (hst : st = As.reverse ++ rest) (hw : (rest.map fun v => v.category).sum ≤ 8) (hd : decode cc pc = .ok (.invokestatic index, 3))
    (hadr : ∀ u, (wo u).map Prod.fst = ws.map Prod.fst) (hpe : ∀ E, pe E → pe0 E)
    (kk : ∀ (v : Option Value) (u : S), post v u → kg p l e R s m args below meth c nL D A (vx_MQ below (kc_Q wo0 D post0 A) (kx_X pe0 D ws A) args s mc ms A) (cells + mc1) (slots + ms1) (wo u) (pc + 3) lo (v.toList ++ rest)) :
    kg p l e R s m args below meth c nL D A (vx_MQ below (kc_Q wo0 D post0 A) (kx_X pe0 D ws A) args s mc ms A) cells slots ws pc lo st := by
  refine kx_run (a := As.toArray) cx hno (fun H locs ls hP hD hS hl => ?_) hadr hpe hmc kk
  have ht := cx.2.2.2.2.1
  exact vx_runS (Ts := kT) (As := As) (rest := rest) ⟨cx.1, cx.2.1, cx.2.2.1, cx.2.2.2.1, ht⟩ (hM H.size) ⟨callB_of (ws' := kT) na ht (kT_good hcd (List.mem_filter.mp hcd).2 (fun _ h => h)) rfl rfl rfl (ht _ hini) (ht _ hlk) hd9 hR, ht _ hstt⟩ ⟨kx_P.blind, kx_pre cx hZ hP hD hS⟩ rfl hna hl.size hst (lv_room (rest := st) hw) hd hf
/-- the superclasses of the two exceptions, up to Exception -/
abbrev kx_n : List String := ["java/lang/RuntimeException", "java/lang/Exception"]
/-- 'throw new E()', in the world with which the method began -/
theorem kx_throw (cx : kg_c p s m args meth c cc nL own D tys A) (hZ : kZ A s s.heap) (hno : ∀ x ∈ c.exceptionTable.toList, False) (hl : l.stackTraces = false) {cls : String} {ik ic : Nat}
    (hcls : Bundle.fit cls = true) (hnames : ∀ n ∈ kx_n, Bundle.fit n = true) (hik : Cond.classLink own ik cls ∈ kT) (hini : Cond.initialized cls ∈ kT) (hg : ∀ w ∈ (vx_at0 own ic cls kx_n).filter goodWord, w ∈ kT) (hb : ∀ w ∈ (vx_at0 own ic cls kx_n).filter (fun w => !goodWord w), w ∈ tables_1 ∧ kN_is w = true ∧ w.onTables = true)
    (hgood : ∀ w ∈ Cond.classLink own ik cls :: Cond.initialized cls :: vx_at0 own ic cls kx_n, vx_ot w = true)
    (d0 : decode cc pc = .ok (.new ik, 3)) (d3 : decode cc (pc + 3) = .ok (.dup, 1)) (d4 : decode cc (pc + 4) = .ok (.invokespecial ic, 3)) (d7 : decode cc (pc + 7) = .ok (.athrow, 1))
    (hR : 5 < R.frames ∧ (st.map fun v => v.category).sum + 81 ≤ R.locals) (hf : cells + 1 ≤ R.cells ∧ slots + 6 ≤ R.slots) (hmc : cells + 1 ≤ mc ∧ slots + 6 ≤ ms) (hpe : pe0 cls) :
    kg p l e R s m args below meth c nL D A (vx_MQ below (kc_Q wo0 D post0 A) (kx_X pe0 D ws A) args s mc ms A) cells slots ws pc lo st := by
  intro H locs ls hP hD hS hl9
  have ht := cx.2.2.2.2.1
  refine vx_throw0 (names := kx_n) cx.1 cx.2.1 hl cx.2.2.2.1 hcls hnames (ht _ hik) (ht _ hini) (fun w hw => ?_) hgood hZ.1 hZ.2 hS (hl9.size.trans cx.2.2.1.symm) d0 d3 d4 d7 (fun x hx => (hno x hx).elim) hR.1 hR.2 hf.1 hf.2 cx.2.2.2.2.2.2.2.1 (fun t ha h1 h2 => ⟨hpe, hP.kept (fun k q hk => h2 q.1 (hP k q hk).lt), ?_⟩) hS.2.2 hmc.1 hmc.2
  · by_cases g : goodWord w = true
    · exact ht _ (hg w (List.mem_filter.mpr ⟨hw, g⟩))
    · have h9 := hb w (List.mem_filter.mpr ⟨hw, by simpa using g⟩)
      exact va_Nw.use h9.2.2 (cx.2.2.2.2.2.2.2.2 w h9.1 h9.2.1)
  · exact ⟨Nat.le_trans hS.1 h1, fun q g1 g2 => by rw [h2 q (Nat.lt_of_lt_of_le g1 hS.1)]; exact hS.2.1 q g1 g2⟩
theorem kx_ireturn (cx : kg_c p s m args meth c cc nL own D tys A) {X : String → State → State → Prop} {S : Type} {wo : S → va_W} {post : Option Value → S → Prop} {ty : FieldType} {v : Int32} (hr : meth.sig.returnType = some ty) (hn : narrow ty (.int v) = .int v) (u : S) (hu : ws = wo u) (hp : post (some (.int v)) u) (hd : decode cc pc = .ok (.ireturn, 1)) (hmc : cells ≤ mc ∧ slots ≤ ms) : kg p l e R s m args below meth c nL D A (vx_MQ below (kc_Q wo D post A) X args s mc ms A) cells slots ws pc lo [.int v] := by
  subst hu
  intro H locs ls hP hD hS hl
  refine W.widen hmc.1 hmc.2 (vx_ret ?_)
  exact W.zret cx.1 cx.2.1 hr hn (fun t ht hW => ⟨⟨_, u, rfl, hp, by rw [ht]; exact hP⟩, hS.F ht⟩) hS.2.2 hd cx.2.2.2.2.2.2.2.1
theorem kx_return (cx : kg_c p s m args meth c cc nL own D tys A) {X : String → State → State → Prop} {S : Type} {wo : S → va_W} {post : Option Value → S → Prop} (hr : meth.sig.returnType = none) (u : S) (hu : ws = wo u) (hp : post none u) (hd : decode cc pc = .ok (.return_, 1)) (hmc : cells ≤ mc ∧ slots ≤ ms) : kg p l e R s m args below meth c nL D A (vx_MQ below (kc_Q wo D post A) X args s mc ms A) cells slots ws pc lo [] := by
  subst hu
  intro H locs ls hP hD hS hl
  refine W.widen hmc.1 hmc.2 (vx_ret ?_)
  exact W.vret cx.1 cx.2.1 hr (fun t ht hW => ⟨⟨_, u, rfl, hp, by rw [ht]; exact hP⟩, hS.F ht⟩) hS.2.2 hd cx.2.2.2.2.2.2.2.1
theorem kx_areturn (cx : kg_c p s m args meth c cc nL own D tys A) {X : String → State → State → Prop} {S : Type} {wo : S → va_W} {post : Option Value → S → Prop} {C : String} {a : Nat} (hr : meth.sig.returnType = some (.object C)) (u : S) (hu : ws = wo u) (hp : post (some (.ref a)) u) (hd : decode cc pc = .ok (.areturn, 1)) (hmc : cells ≤ mc ∧ slots ≤ ms) : kg p l e R s m args below meth c nL D A (vx_MQ below (kc_Q wo D post A) X args s mc ms A) cells slots ws pc lo [.ref a] := by
  subst hu
  intro H locs ls hP hD hS hl
  refine W.widen hmc.1 hmc.2 (vx_ret ?_)
  exact W.aret cx.1 cx.2.1 hr (Or.inl ⟨_, rfl⟩) (Or.inr ⟨_, rfl⟩) (fun t ht hW => ⟨⟨_, u, rfl, hp, by rw [ht]; exact hP⟩, hS.F ht⟩) hS.2.2 hd cx.2.2.2.2.2.2.2.1
end KX
theorem kx_gA : ∀ w ∈ (vx_at0 RX3 114 "java/lang/IllegalArgumentException" kx_n).filter goodWord, w ∈ kT := by
  have h : ∀ w ∈ (vx_at0 RX3 114 "java/lang/IllegalArgumentException" kx_n).filter goodWord, w ∈ lw_tbl := by decide +kernel
  exact fun w hw => List.mem_filter.mpr ⟨h w hw, (List.mem_filter.mp hw).2⟩
theorem kx_gS : ∀ w ∈ (vx_at0 RX3 172 "java/lang/IllegalStateException" kx_n).filter goodWord, w ∈ kT := by
  have h : ∀ w ∈ (vx_at0 RX3 172 "java/lang/IllegalStateException" kx_n).filter goodWord, w ∈ lw_tbl := by decide +kernel
  exact fun w hw => List.mem_filter.mpr ⟨h w hw, (List.mem_filter.mp hw).2⟩
theorem kx_bA : ∀ w ∈ (vx_at0 RX3 114 "java/lang/IllegalArgumentException" kx_n).filter (fun w => !goodWord w), w ∈ tables_1 ∧ kN_is w = true ∧ w.onTables = true := by decide +kernel
theorem kx_bS : ∀ w ∈ (vx_at0 RX3 172 "java/lang/IllegalStateException" kx_n).filter (fun w => !goodWord w), w ∈ tables_1 ∧ kN_is w = true ∧ w.onTables = true := by decide +kernel
theorem kx_oA : ∀ w ∈ Cond.classLink RX3 112 "java/lang/IllegalArgumentException" :: Cond.initialized "java/lang/IllegalArgumentException" :: vx_at0 RX3 114 "java/lang/IllegalArgumentException" kx_n, vx_ot w = true := by decide +kernel
theorem kx_oS : ∀ w ∈ Cond.classLink RX3 170 "java/lang/IllegalStateException" :: Cond.initialized "java/lang/IllegalStateException" :: vx_at0 RX3 172 "java/lang/IllegalStateException" kx_n, vx_ot w = true := by decide +kernel
theorem kx_f : ∀ n ∈ kx_n, Bundle.fit n = true := by decide +kernel
theorem kx_fA : Bundle.fit "java/lang/IllegalArgumentException" = true := by decide +kernel
theorem kx_fS : Bundle.fit "java/lang/IllegalStateException" = true := by decide +kernel
end
section
/-- a contract over ClockPool's cells, of a method that may throw -/
abbrev kX (l : Launch) (D : va_G) (c : Nat → ClassId) (ad : Nat → Nat → Nat) (n : Nat) (y : MethodName) (cd : Cond) (fr lc mc ms : Nat) (u : kS) (av : List Value) (post : Option Value → kS → Prop) (pe : String → Prop) : Prop := kx l y cd fr lc mc ms D (kty c) (kw ad c n u) av (kw ad c n) post pe
abbrev sA : String := "java/lang/IllegalArgumentException"
abbrev sS : String := "java/lang/IllegalStateException"
/-- x is one of 0 .. B - 1 -/
def kIn (x : Int32) (B : Nat) : Prop := ∃ j, j < B ∧ x = nI j
theorem kIn_of {x : Int32} {B : Nat} (hB : B < 2 ^ 31) (h1 : ¬ x < 0) (h2 : x < nI B) : kIn x B := by
  rcases pk_ix x hB with h | h | h
  · exact absurd h h1
  · exact absurd h2 (Int32.not_lt.mpr h)
  · exact h
theorem kIn_lo {x : Int32} {B : Nat} (hB : B < 2 ^ 31) (h1 : x < 0) : ¬ kIn x B := by
  rintro ⟨j, hj, rfl⟩
  exact nI_pos (by omega) h1
theorem kIn_hi {x : Int32} {B : Nat} (hB : B < 2 ^ 31) (h1 : ¬ x < nI B) : ¬ kIn x B := by
  rintro ⟨j, hj, rfl⟩
  exact h1 (nI_lt hj hB)
/-- the page pg is in the frame f, and has pins -/
def kPin (u : kS) (n : Nat) (pg : Int32) (f : Nat) : Prop := f < n ∧ u 1 f 0 = pg ∧ (∀ j, j < f → u 1 j 0 ≠ pg) ∧ u 2 f 0 ≠ 0
set_option maxHeartbeats 4000000 in
set_option maxRecDepth 100000 in
/-- checkBelow -/
theorem c_X3_checkBelow (l : Launch) (hl : l.stackTraces = false) (D : va_G) (c : Nat → ClassId) (ad : Nat → Nat → Nat) (n : Nat) (u : kS) (x : Int32) (B : Nat) (hB : B < 2 ^ 31) : kX l D c ad n yX3_checkBelow (Cond.code yX3_checkBelow cX3_checkBelow 2 none) 6 82 1 6 u [.int x, .int (nI B)] (fun v u9 => (v = none ∧ kIn x B) ∧ u9 = u) (fun E => E = sA ∧ ¬ kIn x B) := by
  refine kx.mk (by decide) (by simp [Value.category]) (Nat.le_of_ble_eq_true rfl) ?_
  intro p e s m args below meth c9 cx hr hZ hno9
  refine kg_iload_n cx dX3_checkBelow_0 rfl ?_
  refine kg_if_lt cx 9 dX3_checkBelow_1 (by decide) (fun h1 => ?_) (fun h1 => ?_)
  · exact kx_throw cx hZ hno9 hl kx_fA kx_f kcl_X3_112 kin_IllegalArgumentException kx_gA kx_bA kx_oA dX3_checkBelow_9 dX3_checkBelow_12 dX3_checkBelow_13 dX3_checkBelow_16 ⟨Nat.le_of_ble_eq_true rfl, Nat.le_of_ble_eq_true rfl⟩ (by decide) (by decide) (⟨rfl, kIn_lo hB h1⟩)
  · refine kg_iload_n cx dX3_checkBelow_4 rfl ?_
    refine kg_iload_n cx dX3_checkBelow_5 rfl ?_
    refine kg_icmp_lt cx 17 dX3_checkBelow_6 (by decide) (fun h2 => ?_) (fun h2 => ?_)
    · exact kx_return cx hr _ rfl (⟨⟨rfl, kIn_of hB h1 h2⟩, rfl⟩) dX3_checkBelow_17 (by decide)
    · exact kx_throw cx hZ hno9 hl kx_fA kx_f kcl_X3_112 kin_IllegalArgumentException kx_gA kx_bA kx_oA dX3_checkBelow_9 dX3_checkBelow_12 dX3_checkBelow_13 dX3_checkBelow_16 ⟨Nat.le_of_ble_eq_true rfl, Nat.le_of_ble_eq_true rfl⟩ (by decide) (by decide) (⟨rfl, kIn_hi hB h2⟩)
set_option maxHeartbeats 4000000 in
set_option maxRecDepth 100000 in
theorem c_X3_checkActive (l : Launch) (hl : l.stackTraces = false) (D : va_G) (c : Nat → ClassId) (ad : Nat → Nat → Nat) (n : Nat) (u : kS) (t : Nat) (ht : t < 8) : kX l D c ad n yX3_checkActive (Cond.code yX3_checkActive cX3_checkActive 2 none) 6 82 1 6 u [.ref (ad 0 0), .int (nI t)] (fun v u9 => (v = none ∧ u 16 t 0 ≠ 0) ∧ u9 = u) (fun E => E = sS ∧ u 16 t 0 = 0) := by
  refine kx.mk (by decide) (by simp [Value.category]) (Nat.le_of_ble_eq_true rfl) ?_
  intro p e s m args below meth c9 cx hr hZ hno9
  refine kg_aload_n cx dX3_checkActive_0 rfl ?_
  refine kg_get (ci := 3) cx 0 2 kfs_X3 rfl (by decide) rfl rfl kf_X3_34 dX3_checkActive_1 ?_
  refine kg_iload_n cx dX3_checkActive_4 rfl ?_
  refine kg_zaldN cx 5 1 t rfl rfl (rfl) (ht) (by decide) (rfl) dX3_checkActive_5 ?_
  refine kg_if_ne cx 17 dX3_checkActive_6 (by decide) (fun h1 => ?_) (fun h1 => ?_)
  · exact kx_return cx hr _ rfl (⟨⟨rfl, h1⟩, rfl⟩) dX3_checkActive_17 (by decide)
  · exact kx_throw cx hZ hno9 hl kx_fS kx_f kcl_X3_170 kin_IllegalStateException kx_gS kx_bS kx_oS dX3_checkActive_9 dX3_checkActive_12 dX3_checkActive_13 dX3_checkActive_16 ⟨Nat.le_of_ble_eq_true rfl, Nat.le_of_ble_eq_true rfl⟩ (by decide) (by decide) (⟨rfl, h1⟩)
set_option maxHeartbeats 4000000 in
set_option maxRecDepth 100000 in
theorem c_X3_checkGoesOn (l : Launch) (hl : l.stackTraces = false) (D : va_G) (c : Nat → ClassId) (ad : Nat → Nat → Nat) (n : Nat) (u : kS) (t : Nat) (ht : t < 8) : kX l D c ad n yX3_checkGoesOn (Cond.code yX3_checkGoesOn cX3_checkGoesOn 2 none) 7 103 2 12 u [.ref (ad 0 0), .int (nI t)] (fun v u9 => (v = none ∧ u 16 t 0 ≠ 0 ∧ u 17 t 0 = 0) ∧ u9 = u) (fun E => E = sS ∧ ¬ (u 16 t 0 ≠ 0 ∧ u 17 t 0 = 0)) := by
  refine kx.mk (by decide) (by simp [Value.category]) (Nat.le_of_ble_eq_true rfl) ?_
  intro p e s m args below meth c9 cx hr hZ hno9
  refine kg_aload_n cx dX3_checkGoesOn_0 rfl ?_
  refine kg_iload_n cx dX3_checkGoesOn_1 rfl ?_
  refine kx_callV (ci := 3) (na := 1) cx hZ hno9 (c_X3_checkActive l hl D c ad n u t ht) 0 rfl rfl kcd_X3_checkActive km_X3_97 kin_X3 kim_X3_checkActive ksl_X3_checkActive (by decide +kernel) rfl (by decide) (by decide) (by decide) rfl (Nat.le_of_ble_eq_true rfl) dX3_checkGoesOn_2 (fun _ => kw_adr _ _) (fun E h => ⟨h.1, fun q => q.1 h.2⟩) (fun v9 u9 h9 => ?_)
  obtain ⟨⟨rfl, ha⟩, h9⟩ := h9
  subst u9
  refine kg_aload_n cx dX3_checkGoesOn_5 rfl ?_
  refine kg_get (ci := 3) cx 0 3 kfs_X3 rfl (by decide) rfl rfl kf_X3_38 dX3_checkGoesOn_6 ?_
  refine kg_iload_n cx dX3_checkGoesOn_9 rfl ?_
  refine kg_zaldN cx 6 1 t rfl rfl (rfl) (ht) (by decide) (rfl) dX3_checkGoesOn_10 ?_
  refine kg_if_eq cx 22 dX3_checkGoesOn_11 (by decide) (fun h1 => ?_) (fun h1 => ?_)
  · exact kx_return cx hr _ rfl (⟨⟨rfl, ha, h1⟩, rfl⟩) dX3_checkGoesOn_22 (by decide)
  · exact kx_throw cx hZ hno9 hl kx_fS kx_f kcl_X3_170 kin_IllegalStateException kx_gS kx_bS kx_oS dX3_checkGoesOn_14 dX3_checkGoesOn_17 dX3_checkGoesOn_18 dX3_checkGoesOn_21 ⟨Nat.le_of_ble_eq_true rfl, Nat.le_of_ble_eq_true rfl⟩ (by decide) (by decide) (⟨rfl, fun q => h1 q.2⟩)
set_option maxHeartbeats 4000000 in
set_option maxRecDepth 100000 in
theorem c_X3_pinnedFrame (l : Launch) (hl : l.stackTraces = false) (D : va_G) (c : Nat → ClassId) (ad : Nat → Nat → Nat) (n : Nat) (hn : n ≤ 8) (u : kS) (pg : Int32) : kX l D c ad n yX3_pinnedFrame (Cond.code yX3_pinnedFrame cX3_pinnedFrame 3 (some (.object "ClockPool$Frame"))) 6 82 1 6 u [.ref (ad 0 0), .int pg] (fun v u9 => (∃ f, kPin u n pg f ∧ v = some (.ref (ad 13 f))) ∧ u9 = u) (fun E => E = sS ∧ ¬ ∃ f, kPin u n pg f) := by
  refine kx.mk (by decide) (by simp [Value.category]) (Nat.le_of_ble_eq_true rfl) ?_
  intro p e s m args below meth c9 cx hr hZ hno9
  refine kg_aload_n cx dX3_pinnedFrame_0 rfl ?_
  refine kg_get (ci := 3) cx 0 0 kfs_X3 rfl (by decide) rfl rfl kf_X3_23 dX3_pinnedFrame_1 ?_
  refine kg_iload_n cx dX3_pinnedFrame_4 rfl ?_
  refine kg_callVN (ci := 2) (na := 1) cx (c_X2_find l D c ad n hn u pg) 1 rfl rfl kcd_X2_find (kmn_X3_115 cx.2.2.2.2.2.2.2.2) kin_X2 kim_X2_find ksl_X2_find (by decide +kernel) rfl (by decide) (by decide) rfl (Nat.le_of_ble_eq_true rfl) dX3_pinnedFrame_5 (fun _ => kw_adr _ _) (fun v9 u9 h9 => ?_)
  obtain ⟨⟨r9, rfl, hr9⟩, h9⟩ := h9
  subst u9
  rcases hr9 with ⟨f, hf, rfl, hpf, hlf⟩ | ⟨rfl, hno⟩
  · refine kg_istore_n cx dX3_pinnedFrame_8 (by decide) ?_
    refine kg_iload_n cx dX3_pinnedFrame_9 rfl ?_
    refine kg_if_lt cx 28 dX3_pinnedFrame_10 (by decide) (fun h1 => ?_) (fun h1 => ?_)
    · exact absurd h1 (nI_pos (by omega))
    · refine kg_aload_n cx dX3_pinnedFrame_13 rfl ?_
      refine kg_get (ci := 3) cx 0 0 kfs_X3 rfl (by decide) rfl rfl kf_X3_23 dX3_pinnedFrame_14 ?_
      refine kg_getN (ci := 2) cx 1 1 kfs_X2 rfl (by decide) rfl rfl (kfn_X3_52 cx.2.2.2.2.2.2.2.2) dX3_pinnedFrame_17 ?_
      refine kg_iload_n cx dX3_pinnedFrame_20 rfl ?_
      refine kg_aaldN cx 4 2 f rfl rfl (rfl) (hf) (by omega) (k_if hf _) dX3_pinnedFrame_21 ?_
      refine kg_getN (ci := 0) cx (44 + f) 2 kfs_X0 rfl (by decide) (kw_at_o hf) rfl (kfn_X3_56 cx.2.2.2.2.2.2.2.2) dX3_pinnedFrame_22 ?_
      refine kg_if_ne cx 36 dX3_pinnedFrame_25 (by decide) (fun h2 => ?_) (fun h2 => ?_)
      · refine kg_aload_n cx dX3_pinnedFrame_36 rfl ?_
        refine kg_get (ci := 3) cx 0 0 kfs_X3 rfl (by decide) rfl rfl kf_X3_23 dX3_pinnedFrame_37 ?_
        refine kg_getN (ci := 2) cx 1 1 kfs_X2 rfl (by decide) rfl rfl (kfn_X3_52 cx.2.2.2.2.2.2.2.2) dX3_pinnedFrame_40 ?_
        refine kg_iload_n cx dX3_pinnedFrame_43 rfl ?_
        refine kg_aaldN cx 4 2 f rfl rfl (rfl) (hf) (by omega) (k_if hf _) dX3_pinnedFrame_44 ?_
        exact kx_areturn cx hr _ rfl (⟨⟨f, ⟨hf, hpf, hlf, h2⟩, rfl⟩, rfl⟩) dX3_pinnedFrame_45 (by decide)
      · exact kx_throw cx hZ hno9 hl kx_fS kx_f kcl_X3_170 kin_IllegalStateException kx_gS kx_bS kx_oS dX3_pinnedFrame_28 dX3_pinnedFrame_31 dX3_pinnedFrame_32 dX3_pinnedFrame_35 ⟨Nat.le_of_ble_eq_true rfl, Nat.le_of_ble_eq_true rfl⟩ (by decide) (by decide) (⟨rfl, fun ⟨g, g1, g2, g3, g4⟩ => by
            have e : g = f := by
              rcases Nat.lt_trichotomy g f with q | q | q
              · exact absurd g2 (hlf g q)
              · exact q
              · exact absurd hpf (g3 f q)
            subst e
            exact g4 h2⟩)
  · refine kg_istore_n cx dX3_pinnedFrame_8 (by decide) ?_
    refine kg_iload_n cx dX3_pinnedFrame_9 rfl ?_
    refine kg_if_lt cx 28 dX3_pinnedFrame_10 (by decide) (fun h1 => ?_) (fun h1 => ?_)
    · exact kx_throw cx hZ hno9 hl kx_fS kx_f kcl_X3_170 kin_IllegalStateException kx_gS kx_bS kx_oS dX3_pinnedFrame_28 dX3_pinnedFrame_31 dX3_pinnedFrame_32 dX3_pinnedFrame_35 ⟨Nat.le_of_ble_eq_true rfl, Nat.le_of_ble_eq_true rfl⟩ (by decide) (by decide) (⟨rfl, fun ⟨g, g1, g2, g3, g4⟩ => hno g g1 g2⟩)
    · exact absurd (by decide) h1
set_option maxHeartbeats 4000000 in
set_option maxRecDepth 100000 in
theorem c_X3_release (l : Launch) (hl : l.stackTraces = false) (D : va_G) (c : Nat → ClassId) (ad : Nat → Nat → Nat) (n : Nat) (hn : n ≤ 8) (u : kS) (x : Int32) : kX l D c ad n yX3_release (Cond.code yX3_release cX3_release 3 (some .int)) 7 104 2 12 u [.ref (ad 0 0), .int x] (fun v u9 => ∃ f, kIn x 32 ∧ kPin u n x f ∧ v = some (.int (u 2 f 0 - 1)) ∧ u9 = ku u 2 f 0 (u 2 f 0 - 1)) (fun E => (E = sA ∧ ¬ kIn x 32) ∨ (E = sS ∧ kIn x 32 ∧ ¬ ∃ f, kPin u n x f)) := by
  refine kx.mk (by decide) (by simp [Value.category]) (Nat.le_of_ble_eq_true rfl) ?_
  intro p e s m args below meth c9 cx hr hZ hno9
  refine kg_iload_n cx dX3_release_0 rfl ?_
  refine kg_bipush (v := (nI 32)) cx dX3_release_1 (by decide) ?_
  refine kx_callS (na := 2) cx hZ hno9 (c_X3_checkBelow l hl D c ad n u x 32 (by decide)) kcd_X3_checkBelow km_X3_41 kin_X3 kst_X3_checkBelow (by decide +kernel) rfl (by decide) (by decide) (by decide) rfl (Nat.le_of_ble_eq_true rfl) dX3_release_3 (fun _ => kw_adr _ _) (fun E h => Or.inl h) (fun v9 u9 h9 => ?_)
  obtain ⟨⟨rfl, hi⟩, h9⟩ := h9
  subst u9
  refine kg_aload_n cx dX3_release_6 rfl ?_
  refine kg_iload_n cx dX3_release_7 rfl ?_
  refine kx_callV (ci := 3) (na := 1) cx hZ hno9 (c_X3_pinnedFrame l hl D c ad n hn u x) 0 rfl rfl kcd_X3_pinnedFrame km_X3_61 kin_X3 kim_X3_pinnedFrame ksl_X3_pinnedFrame (by decide +kernel) rfl (by decide) (by decide) (by decide) rfl (Nat.le_of_ble_eq_true rfl) dX3_release_8 (fun _ => kw_adr _ _) (fun E h => Or.inr ⟨h.1, hi, h.2⟩) (fun v9 u9 h9 => ?_)
  obtain ⟨⟨f, hf, rfl⟩, h9⟩ := h9
  subst u9
  refine kg_astore_n cx dX3_release_11 (by decide) ?_
  refine kg_aload_n cx dX3_release_12 rfl ?_
  refine kg_dup cx dX3_release_13 rfl ?_
  refine kg_getN (ci := 0) cx (44 + f) 2 kfs_X0 rfl (by decide) (kw_at_o hf.1) rfl (kfn_X3_56 cx.2.2.2.2.2.2.2.2) dX3_release_14 ?_
  refine kg_iconst (v := 1) cx dX3_release_17 (by decide) ?_
  refine kg_isub cx dX3_release_18 ?_
  refine kg_putN (ci := 0) (ty := .int) cx (44 + f) 2 kfs_X0 tyX0 tyX0_ok nmX0 rfl (by decide) (kw_at_o hf.1) (Nat.le_of_ble_eq_true rfl) (kfn_X3_56 cx.2.2.2.2.2.2.2.2) rfl (by decide +kernel) rfl rfl (ks_pins hf.1 _) dX3_release_19 ?_
  refine kg_aload_n cx dX3_release_22 rfl ?_
  refine kg_getN (ci := 0) cx (44 + f) 2 kfs_X0 rfl (by decide) (kw_at_o hf.1) rfl (kfn_X3_56 cx.2.2.2.2.2.2.2.2) dX3_release_23 ?_
  refine kg_top (u 2 f 0 - 1) (ku_s _ _ _ _ _) ?_
  exact kx_ireturn cx hr (rfl) _ rfl (⟨f, hi, hf, rfl, rfl⟩) dX3_release_26 (by decide)
set_option maxHeartbeats 4000000 in
set_option maxRecDepth 100000 in
theorem c_X3_get (l : Launch) (hl : l.stackTraces = false) (D : va_G) (c : Nat → ClassId) (ad : Nat → Nat → Nat) (n : Nat) (hn : n ≤ 8) (u : kS) (x y : Int32) : kX l D c ad n yX3_get (Cond.code yX3_get cX3_get 3 (some .int)) 7 104 3 18 u [.ref (ad 0 0), .int x, .int y] (fun v u9 => (∃ f k, kIn x 32 ∧ kPin u n x f ∧ k < 8 ∧ y = nI k ∧ v = some (.int (u 5 f k))) ∧ u9 = u) (fun E => (E = sA ∧ ¬ (kIn x 32 ∧ kIn y 8)) ∨ (E = sS ∧ kIn x 32 ∧ kIn y 8 ∧ ¬ ∃ f, kPin u n x f)) := by
  refine kx.mk (by decide) (by simp [Value.category]) (Nat.le_of_ble_eq_true rfl) ?_
  intro p e s m args below meth c9 cx hr hZ hno9
  refine kg_iload_n cx dX3_get_0 rfl ?_
  refine kg_bipush (v := (nI 32)) cx dX3_get_1 (by decide) ?_
  refine kx_callS (na := 2) cx hZ hno9 (c_X3_checkBelow l hl D c ad n u x 32 (by decide)) kcd_X3_checkBelow km_X3_41 kin_X3 kst_X3_checkBelow (by decide +kernel) rfl (by decide) (by decide) (by decide) rfl (Nat.le_of_ble_eq_true rfl) dX3_get_3 (fun _ => kw_adr _ _) (fun E h => Or.inl ⟨h.1, fun q => h.2 q.1⟩) (fun v9 u9 h9 => ?_)
  obtain ⟨⟨rfl, hi⟩, h9⟩ := h9
  subst u9
  refine kg_iload_n cx dX3_get_6 rfl ?_
  refine kg_bipush (v := (nI 8)) cx dX3_get_7 (by decide) ?_
  refine kx_callS (na := 2) cx hZ hno9 (c_X3_checkBelow l hl D c ad n u y 8 (by decide)) kcd_X3_checkBelow km_X3_41 kin_X3 kst_X3_checkBelow (by decide +kernel) rfl (by decide) (by decide) (by decide) rfl (Nat.le_of_ble_eq_true rfl) dX3_get_9 (fun _ => kw_adr _ _) (fun E h => Or.inl ⟨h.1, fun q => h.2 q.2⟩) (fun v9 u9 h9 => ?_)
  obtain ⟨⟨rfl, hj⟩, h9⟩ := h9
  subst u9
  refine kg_aload_n cx dX3_get_12 rfl ?_
  refine kg_iload_n cx dX3_get_13 rfl ?_
  refine kx_callV (ci := 3) (na := 1) cx hZ hno9 (c_X3_pinnedFrame l hl D c ad n hn u x) 0 rfl rfl kcd_X3_pinnedFrame km_X3_61 kin_X3 kim_X3_pinnedFrame ksl_X3_pinnedFrame (by decide +kernel) rfl (by decide) (by decide) (by decide) rfl (Nat.le_of_ble_eq_true rfl) dX3_get_14 (fun _ => kw_adr _ _) (fun E h => Or.inr ⟨h.1, hi, hj, h.2⟩) (fun v9 u9 h9 => ?_)
  obtain ⟨⟨f, hf, rfl⟩, h9⟩ := h9
  subst u9
  have hj2 := hj
  obtain ⟨k, hk⟩ := hj2
  refine kg_getN (ci := 0) cx (44 + f) 0 kfs_X0 rfl (by decide) (kw_at_o hf.1) rfl (kfn_X3_65 cx.2.2.2.2.2.2.2.2) dX3_get_17 ?_
  refine kg_iload_n cx dX3_get_20 rfl ?_
  refine kg_ialdN cx (44 + n + f) 0 k rfl (kw_at_r hf.1) (hk.2) (Nat.lt_succ_of_lt hk.1) (by decide) (rfl) dX3_get_21 ?_
  exact kx_ireturn cx hr (rfl) _ rfl (⟨⟨f, k, hi, hf, hk.1, hk.2, rfl⟩, rfl⟩) dX3_get_22 (by decide)
set_option maxHeartbeats 4000000 in
set_option maxRecDepth 100000 in
theorem c_X3_disk (l : Launch) (hl : l.stackTraces = false) (D : va_G) (c : Nat → ClassId) (ad : Nat → Nat → Nat) (n : Nat) (u : kS) (x y : Int32) : kX l D c ad n yX3_disk (Cond.code yX3_disk cX3_disk 3 (some .int)) 7 103 2 12 u [.ref (ad 0 0), .int x, .int y] (fun v u9 => (∃ q k, q < 32 ∧ x = nI q ∧ k < 9 ∧ y = nI k ∧ v = some (.int (u 0 q k))) ∧ u9 = u) (fun E => E = sA ∧ ¬ (kIn x 32 ∧ kIn y 9)) := by
  refine kx.mk (by decide) (by simp [Value.category]) (Nat.le_of_ble_eq_true rfl) ?_
  intro p e s m args below meth c9 cx hr hZ hno9
  refine kg_iload_n cx dX3_disk_0 rfl ?_
  refine kg_bipush (v := (nI 32)) cx dX3_disk_1 (by decide) ?_
  refine kx_callS (na := 2) cx hZ hno9 (c_X3_checkBelow l hl D c ad n u x 32 (by decide)) kcd_X3_checkBelow km_X3_41 kin_X3 kst_X3_checkBelow (by decide +kernel) rfl (by decide) (by decide) (by decide) rfl (Nat.le_of_ble_eq_true rfl) dX3_disk_3 (fun _ => kw_adr _ _) (fun E h => ⟨h.1, fun q => h.2 q.1⟩) (fun v9 u9 h9 => ?_)
  obtain ⟨⟨rfl, hi⟩, h9⟩ := h9
  subst u9
  refine kg_iload_n cx dX3_disk_6 rfl ?_
  refine kg_bipush (v := (nI 9)) cx dX3_disk_7 (by decide) ?_
  refine kx_callS (na := 2) cx hZ hno9 (c_X3_checkBelow l hl D c ad n u y 9 (by decide)) kcd_X3_checkBelow km_X3_41 kin_X3 kst_X3_checkBelow (by decide +kernel) rfl (by decide) (by decide) (by decide) rfl (Nat.le_of_ble_eq_true rfl) dX3_disk_9 (fun _ => kw_adr _ _) (fun E h => ⟨h.1, fun q => h.2 q.2⟩) (fun v9 u9 h9 => ?_)
  obtain ⟨⟨rfl, hj⟩, h9⟩ := h9
  subst u9
  obtain ⟨q, hq⟩ := hi
  obtain ⟨k, hk⟩ := hj
  refine kg_aload_n cx dX3_disk_12 rfl ?_
  refine kg_get (ci := 3) cx 0 0 kfs_X3 rfl (by decide) rfl rfl kf_X3_23 dX3_disk_13 ?_
  refine kg_getN (ci := 2) cx 1 0 kfs_X2 rfl (by decide) rfl rfl (kfn_X3_151 cx.2.2.2.2.2.2.2.2) dX3_disk_16 ?_
  refine kg_iload_n cx dX3_disk_19 rfl ?_
  refine kg_aaldAN cx 3 3 q rfl rfl (hq.2) (hq.1) (by decide) (k_if hq.1 _) dX3_disk_20 ?_
  refine kg_iload_n cx dX3_disk_21 rfl ?_
  refine kg_ialdN cx (12 + q) 0 k rfl (kw_at_d hq.1) (hk.2) (hk.1) (by decide) (rfl) dX3_disk_22 ?_
  exact kx_ireturn cx hr (rfl) _ rfl (⟨⟨q, k, hq.1, hq.2, hk.1, hk.2, rfl⟩, rfl⟩) dX3_disk_23 (by decide)
set_option maxHeartbeats 4000000 in
set_option maxRecDepth 100000 in
theorem c_X3_flush (l : Launch) (hl : l.stackTraces = false) (D : va_G) (c : Nat → ClassId) (ad : Nat → Nat → Nat) (n : Nat) (u : kS) (x : Int32) : kX l D c ad n yX3_flush (Cond.code yX3_flush cX3_flush 2 (some .int)) 6 82 1 6 u [.ref (ad 0 0), .int x] (fun v u9 => (¬ x < 0 ∧ v = some (.int (kFlu u x 15 0 0))) ∧ u9 = kFlu u x) (fun E => E = sA ∧ x < 0) := by
  refine kx.mk (by decide) (by simp [Value.category]) (Nat.le_of_ble_eq_true rfl) ?_
  intro p e s m args below meth c9 cx hr hZ hno9
  refine kg_iload_n cx dX3_flush_0 rfl ?_
  refine kg_if_ge cx 12 dX3_flush_1 (by decide) (fun h1 => ?_) (fun h1 => ?_)
  · refine kg_aload_n cx dX3_flush_12 rfl ?_
    refine kg_get (ci := 3) cx 0 1 kfs_X3 rfl (by decide) rfl rfl kf_X3_30 dX3_flush_13 ?_
    refine kg_iload_n cx dX3_flush_16 rfl ?_
    refine kg_callVN (ci := 1) (na := 1) cx (c_X1_flushTo l D c ad n u x) 2 rfl rfl kcd_X1_flushTo (kmn_X3_94 cx.2.2.2.2.2.2.2.2) kin_X1 kim_X1_flushTo ksl_X1_flushTo (by decide +kernel) rfl (by decide) (by decide) rfl (Nat.le_of_ble_eq_true rfl) dX3_flush_17 (fun _ => kw_adr _ _) (fun v9 u9 h9 => ?_)
    obtain ⟨rfl, h9⟩ := h9
    subst u9
    refine kg_aload_n cx dX3_flush_20 rfl ?_
    refine kg_get (ci := 3) cx 0 1 kfs_X3 rfl (by decide) rfl rfl kf_X3_30 dX3_flush_21 ?_
    refine kg_getN (ci := 1) cx 2 6 kfs_X1 rfl (by decide) rfl rfl (kfn_X3_45 cx.2.2.2.2.2.2.2.2) dX3_flush_24 ?_
    exact kx_ireturn cx hr (rfl) _ rfl (⟨⟨Int32.not_lt.mpr h1, rfl⟩, rfl⟩) dX3_flush_27 (by decide)
  · exact kx_throw cx hZ hno9 hl kx_fA kx_f kcl_X3_112 kin_IllegalArgumentException kx_gA kx_bA kx_oA dX3_flush_4 dX3_flush_7 dX3_flush_8 dX3_flush_11 ⟨Nat.le_of_ble_eq_true rfl, Nat.le_of_ble_eq_true rfl⟩ (by decide) (by decide) (⟨rfl, Int32.not_le.mp h1⟩)
set_option maxHeartbeats 4000000 in
set_option maxRecDepth 100000 in
theorem c_X3_clean (l : Launch) (hl : l.stackTraces = false) (D : va_G) (c : Nat → ClassId) (ad : Nat → Nat → Nat) (n : Nat) (hn : n ≤ 8) (u : kS) (x : Int32) (hQ : ∀ f, f < n → u 3 f 0 ≠ 0 → u 1 f 0 = x → kIn x 32 → True) : kX l D c ad n yX3_clean (Cond.code yX3_clean cX3_clean 4 (some .boolean)) 7 103 1 6 u [.ref (ad 0 0), .int x] (fun v u9 => ∃ q, q < 32 ∧ x = nI q ∧ ((∃ f, f < n ∧ u 1 f 0 = x ∧ (∀ j, j < f → u 1 j 0 ≠ x) ∧ u 3 f 0 ≠ 0 ∧ u 5 f 8 ≤ u 15 0 0 ∧ v = some (.int 1) ∧ u9 = kBack u f q) ∨ ((∀ f, f < n → u 1 f 0 = x → (∀ j, j < f → u 1 j 0 ≠ x) → ¬ (u 3 f 0 ≠ 0 ∧ u 5 f 8 ≤ u 15 0 0)) ∧ v = some (.int 0) ∧ u9 = u))) (fun E => E = sA ∧ ¬ kIn x 32) := by
  refine kx.mk (by decide) (by simp [Value.category]) (Nat.le_of_ble_eq_true rfl) ?_
  intro p e s m args below meth c9 cx hr hZ hno9
  refine kg_iload_n cx dX3_clean_0 rfl ?_
  refine kg_bipush (v := (nI 32)) cx dX3_clean_1 (by decide) ?_
  refine kx_callS (na := 2) cx hZ hno9 (c_X3_checkBelow l hl D c ad n u x 32 (by decide)) kcd_X3_checkBelow km_X3_41 kin_X3 kst_X3_checkBelow (by decide +kernel) rfl (by decide) (by decide) (by decide) rfl (Nat.le_of_ble_eq_true rfl) dX3_clean_3 (fun _ => kw_adr _ _) (fun E h => h) (fun v9 u9 h9 => ?_)
  obtain ⟨⟨rfl, hi⟩, h9⟩ := h9
  subst u9
  refine kg_aload_n cx dX3_clean_6 rfl ?_
  refine kg_get (ci := 3) cx 0 0 kfs_X3 rfl (by decide) rfl rfl kf_X3_23 dX3_clean_7 ?_
  refine kg_iload_n cx dX3_clean_10 rfl ?_
  refine kg_callVN (ci := 2) (na := 1) cx (c_X2_find l D c ad n hn u x) 1 rfl rfl kcd_X2_find (kmn_X3_115 cx.2.2.2.2.2.2.2.2) kin_X2 kim_X2_find ksl_X2_find (by decide +kernel) rfl (by decide) (by decide) rfl (Nat.le_of_ble_eq_true rfl) dX3_clean_11 (fun _ => kw_adr _ _) (fun v9 u9 h9 => ?_)
  obtain ⟨⟨r9, rfl, hr9⟩, h9⟩ := h9
  subst u9
  obtain ⟨q, hq, hq2⟩ := hi
  rcases hr9 with ⟨f, hf, rfl, hpf, hlf⟩ | ⟨rfl, hno⟩
  · refine kg_istore_n cx dX3_clean_14 (by decide) ?_
    refine kg_iload_n cx dX3_clean_15 rfl ?_
    refine kg_if_ge cx 21 dX3_clean_16 (by decide) (fun h1 => ?_) (fun h1 => ?_)
    · refine kg_aload_n cx dX3_clean_21 rfl ?_
      refine kg_get (ci := 3) cx 0 0 kfs_X3 rfl (by decide) rfl rfl kf_X3_23 dX3_clean_22 ?_
      refine kg_getN (ci := 2) cx 1 1 kfs_X2 rfl (by decide) rfl rfl (kfn_X3_52 cx.2.2.2.2.2.2.2.2) dX3_clean_25 ?_
      refine kg_iload_n cx dX3_clean_28 rfl ?_
      refine kg_aaldN cx 4 2 f rfl rfl (rfl) (hf) (by omega) (k_if hf _) dX3_clean_29 ?_
      refine kg_astore_n cx dX3_clean_30 (by decide) ?_
      refine kg_aload_n cx dX3_clean_31 rfl ?_
      refine kg_getN (ci := 0) cx (44 + f) 3 kfs_X0 rfl (by decide) (kw_at_o hf) rfl (kfn_X3_119 cx.2.2.2.2.2.2.2.2) dX3_clean_32 ?_
      refine kg_if_eq cx 55 dX3_clean_35 (by decide) (fun h2 => ?_) (fun h2 => ?_)
      · refine kg_iconst (v := 0) cx dX3_clean_55 (by decide) ?_
        exact kx_ireturn cx hr (nar_0) _ rfl (⟨q, hq, hq2, Or.inr ⟨fun g g1 g2 g3 ⟨g4, g5⟩ => by
            have e : g = f := by
              rcases Nat.lt_trichotomy g f with q9 | q9 | q9
              · exact absurd g2 (hlf g q9)
              · exact q9
              · exact absurd hpf (g3 f q9)
            subst e
            exact g4 h2, rfl, rfl⟩⟩) dX3_clean_56 (by decide)
      · refine kg_aload_n cx dX3_clean_38 rfl ?_
        refine kg_getN (ci := 0) cx (44 + f) 0 kfs_X0 rfl (by decide) (kw_at_o hf) rfl (kfn_X3_65 cx.2.2.2.2.2.2.2.2) dX3_clean_39 ?_
        refine kg_bipush (v := (nI 8)) cx dX3_clean_42 (by decide) ?_
        refine kg_ialdN cx (44 + n + f) 0 8 rfl (kw_at_r hf) (rfl) (by decide) (by decide) (rfl) dX3_clean_44 ?_
        refine kg_aload_n cx dX3_clean_45 rfl ?_
        refine kg_get (ci := 3) cx 0 1 kfs_X3 rfl (by decide) rfl rfl kf_X3_30 dX3_clean_46 ?_
        refine kg_getN (ci := 1) cx 2 6 kfs_X1 rfl (by decide) rfl rfl (kfn_X3_45 cx.2.2.2.2.2.2.2.2) dX3_clean_49 ?_
        refine kg_icmp_le cx 57 dX3_clean_52 (by decide) (fun h3 => ?_) (fun h3 => ?_)
        · refine kg_aload_n cx dX3_clean_57 rfl ?_
          refine kg_get (ci := 3) cx 0 0 kfs_X3 rfl (by decide) rfl rfl kf_X3_23 dX3_clean_58 ?_
          refine kg_aload_n cx dX3_clean_61 rfl ?_
          refine kg_callVN (ci := 2) (na := 1) cx (c_X2_writeBack l D c ad n hn u f q hf hq (hpf.trans hq2)) 1 rfl rfl kcd_X2_writeBack (kmn_X3_123 cx.2.2.2.2.2.2.2.2) kin_X2 kim_X2_writeBack ksl_X2_writeBack (by decide +kernel) rfl (by decide) (by decide) rfl (Nat.le_of_ble_eq_true rfl) dX3_clean_62 (fun _ => kw_adr _ _) (fun v9 u9 h9 => ?_)
          obtain ⟨rfl, h9⟩ := h9
          subst u9
          refine kg_iconst (v := 1) cx dX3_clean_65 (by decide) ?_
          exact kx_ireturn cx hr (nar_1) _ rfl (⟨q, hq, hq2, Or.inl ⟨f, hf, hpf, hlf, h2, h3, rfl, rfl⟩⟩) dX3_clean_66 (by decide)
        · refine kg_iconst (v := 0) cx dX3_clean_55 (by decide) ?_
          exact kx_ireturn cx hr (nar_0) _ rfl (⟨q, hq, hq2, Or.inr ⟨fun g g1 g2 g3 ⟨g4, g5⟩ => by
              have e : g = f := by
                rcases Nat.lt_trichotomy g f with q9 | q9 | q9
                · exact absurd g2 (hlf g q9)
                · exact q9
                · exact absurd hpf (g3 f q9)
              subst e
              exact h3 g5, rfl, rfl⟩⟩) dX3_clean_56 (by decide)
    · exact absurd (nI_ge0 (by omega)) h1
  · refine kg_istore_n cx dX3_clean_14 (by decide) ?_
    refine kg_iload_n cx dX3_clean_15 rfl ?_
    refine kg_if_ge cx 21 dX3_clean_16 (by decide) (fun h1 => ?_) (fun h1 => ?_)
    · exact absurd h1 (by decide)
    · refine kg_iconst (v := 0) cx dX3_clean_19 (by decide) ?_
      exact kx_ireturn cx hr (nar_0) _ rfl (⟨q, hq, hq2, Or.inr ⟨fun g g1 g2 _ _ => hno g g1 g2, rfl, rfl⟩⟩) dX3_clean_20 (by decide)
end
section
/-- x is the LSN of one of z records -/
def kLsn (x : Int32) (z : Nat) : Prop := ∃ i, 1 ≤ i ∧ i ≤ z ∧ x = nI i
theorem kLsn_of {x : Int32} {z : Nat} (hz : z ≤ 400) (h1 : ¬ x < 1) (h2 : x ≤ nI z) : kLsn x z := by
  rcases pk_ix x (n := z + 1) (by omega) with h | h | ⟨j, hj, rfl⟩
  · exact absurd (Int32.lt_trans h (by decide)) h1
  · exact absurd (Int32.le_trans h h2) (nI_ge (show z < z + 1 by omega) (by omega))
  · refine ⟨j, ?_, by omega, rfl⟩
    rcases Nat.lt_or_ge j 1 with q | q
    · have e : j = 0 := by omega
      subst e
      exact absurd (by decide) h1
    · exact q
theorem kLsn_lo {x : Int32} {z : Nat} (hz : z ≤ 400) (h1 : x < 1) : ¬ kLsn x z := by
  rintro ⟨i, hi, hz2, rfl⟩
  exact absurd h1 (nI_nlt hi (by omega))
theorem kLsn_hi {x : Int32} {z : Nat} (hz : z ≤ 400) (h1 : ¬ x ≤ nI z) : ¬ kLsn x z := by
  rintro ⟨i, hi, hz2, rfl⟩
  exact h1 (nI_le hz2 (by omega))
theorem k_ltT {x : Int32} (h : x < 0) : x.toInt < 0 := by simpa using Int32.lt_iff_toInt_lt.mp h
theorem k_geT {x : Int32} {B : Nat} (hB : B < 2 ^ 30) (h : nI (B + 1) ≤ x) : (B : Int) < x.toInt := by
  have h1 := Int32.le_iff_toInt_le.mp h
  rw [nI_toInt (by omega)] at h1
  omega
def kCnt (u : kS) : Nat → Int32
  | 0 => u 14 0 0
  | 1 => u 15 0 0
  | 2 => nI (kct (fun t => u 16 t 0) 8)
  | 3 => u 6 0 0
  | 4 => u 7 0 0
  | 5 => u 8 0 0
  | 6 => u 18 0 0
  | _ => u 19 0 0
def kFrm (u : kS) (f : Nat) : Nat → Int32
  | 0 => u 1 f 0
  | 1 => u 2 f 0
  | 2 => kb (u 3 f 0 ≠ 0)
  | 3 => kb (u 4 f 0 ≠ 0)
  | _ => u 5 f 8
set_option maxHeartbeats 4000000 in
set_option maxRecDepth 100000 in
theorem c_X3_log (l : Launch) (hl : l.stackTraces = false) (D : va_G) (c : Nat → ClassId) (ad : Nat → Nat → Nat) (n : Nat) (u : kS) (x y : Int32) (z : Nat) (hs : u 14 0 0 = nI z) (hz : z ≤ 400) : kX l D c ad n yX3_log (Cond.code yX3_log cX3_log 3 (some .int)) 7 103 2 12 u [.ref (ad 0 0), .int x, .int y] (fun v u9 => (∃ i k, 1 ≤ i ∧ i ≤ z ∧ x = nI i ∧ k < 7 ∧ y = nI k ∧ v = some (.int (u 9 i k))) ∧ u9 = u) (fun E => E = sA ∧ ¬ (kIn y 7 ∧ kLsn x z)) := by
  refine kx.mk (by decide) (by simp [Value.category]) (Nat.le_of_ble_eq_true rfl) ?_
  intro p e s m args below meth c9 cx hr hZ hno9
  refine kg_iload_n cx dX3_log_0 rfl ?_
  refine kg_bipush (v := (nI 7)) cx dX3_log_1 (by decide) ?_
  refine kx_callS (na := 2) cx hZ hno9 (c_X3_checkBelow l hl D c ad n u y 7 (by decide)) kcd_X3_checkBelow km_X3_41 kin_X3 kst_X3_checkBelow (by decide +kernel) rfl (by decide) (by decide) (by decide) rfl (Nat.le_of_ble_eq_true rfl) dX3_log_3 (fun _ => kw_adr _ _) (fun E h => ⟨h.1, fun q => h.2 q.1⟩) (fun v9 u9 h9 => ?_)
  obtain ⟨⟨rfl, hj⟩, h9⟩ := h9
  subst u9
  refine kg_iload_n cx dX3_log_6 rfl ?_
  refine kg_iconst (v := 1) cx dX3_log_7 (by decide) ?_
  refine kg_icmp_lt cx 22 dX3_log_8 (by decide) (fun h1 => ?_) (fun h1 => ?_)
  · exact kx_throw cx hZ hno9 hl kx_fA kx_f kcl_X3_112 kin_IllegalArgumentException kx_gA kx_bA kx_oA dX3_log_22 dX3_log_25 dX3_log_26 dX3_log_29 ⟨Nat.le_of_ble_eq_true rfl, Nat.le_of_ble_eq_true rfl⟩ (by decide) (by decide) (⟨rfl, fun q => kLsn_lo hz h1 q.2⟩)
  · refine kg_iload_n cx dX3_log_11 rfl ?_
    refine kg_aload_n cx dX3_log_12 rfl ?_
    refine kg_get (ci := 3) cx 0 1 kfs_X3 rfl (by decide) rfl rfl kf_X3_30 dX3_log_13 ?_
    refine kg_getN (ci := 1) cx 2 5 kfs_X1 rfl (by decide) rfl rfl (kfn_X3_100 cx.2.2.2.2.2.2.2.2) dX3_log_16 ?_
    refine kg_top (nI z) (hs) ?_
    refine kg_icmp_le cx 30 dX3_log_19 (by decide) (fun h2 => ?_) (fun h2 => ?_)
    · obtain ⟨i, h3, h4, rfl⟩ := kLsn_of hz h1 h2
      obtain ⟨k, hk, rfl⟩ := hj
      refine kg_aload_n cx dX3_log_30 rfl ?_
      refine kg_get (ci := 3) cx 0 1 kfs_X3 rfl (by decide) rfl rfl kf_X3_30 dX3_log_31 ?_
      refine kg_iload_n cx dX3_log_34 rfl ?_
      refine kg_iload_n cx dX3_log_35 rfl ?_
      refine kg_callVN (ci := 1) (na := 2) cx (c_X1_value l D c ad n u i k (by omega) hk) 2 rfl rfl kcd_X1_value (kmn_X3_106 cx.2.2.2.2.2.2.2.2) kin_X1 kim_X1_value ksl_X1_value (by decide +kernel) rfl (by decide) (by decide) rfl (Nat.le_of_ble_eq_true rfl) dX3_log_36 (fun _ => kw_adr _ _) (fun v9 u9 h9 => ?_)
      obtain ⟨rfl, h9⟩ := h9
      subst u9
      exact kx_ireturn cx hr (rfl) _ rfl (⟨⟨i, k, h3, h4, rfl, hk, rfl, rfl⟩, rfl⟩) dX3_log_39 (by decide)
    · exact kx_throw cx hZ hno9 hl kx_fA kx_f kcl_X3_112 kin_IllegalArgumentException kx_gA kx_bA kx_oA dX3_log_22 dX3_log_25 dX3_log_26 dX3_log_29 ⟨Nat.le_of_ble_eq_true rfl, Nat.le_of_ble_eq_true rfl⟩ (by decide) (by decide) (⟨rfl, fun q => kLsn_hi hz h2 q.2⟩)
set_option maxHeartbeats 4000000 in
set_option maxRecDepth 100000 in
theorem c_X3_count (l : Launch) (hl : l.stackTraces = false) (D : va_G) (c : Nat → ClassId) (ad : Nat → Nat → Nat) (n : Nat) (u : kS) (x : Int32) : kX l D c ad n yX3_count (Cond.code yX3_count cX3_count 2 (some .int)) 6 82 1 6 u [.ref (ad 0 0), .int x] (fun v u9 => (∃ j, j < 8 ∧ x = nI j ∧ v = some (.int (kCnt u j))) ∧ u9 = u) (fun E => E = sA ∧ ¬ kIn x 8) := by
  refine kx.mk (by decide) (by simp [Value.category]) (Nat.le_of_ble_eq_true rfl) ?_
  intro p e s m args below meth c9 cx hr hZ hno9
  refine kg_iload_n cx dX3_count_0 rfl ?_
  rcases pk_ix x (n := 8) (by decide) with h9 | h9 | ⟨j, hj, e9⟩
  · refine kg_tableOut cx 103 dX3_count_1 (Or.inl (k_ltT h9)) (by decide) ?_
    exact kx_throw cx hZ hno9 hl kx_fA kx_f kcl_X3_112 kin_IllegalArgumentException kx_gA kx_bA kx_oA dX3_count_103 dX3_count_106 dX3_count_107 dX3_count_110 ⟨Nat.le_of_ble_eq_true rfl, Nat.le_of_ble_eq_true rfl⟩ (by decide) (by decide) (⟨rfl, kIn_lo (by decide) h9⟩)
  · refine kg_tableOut cx 103 dX3_count_1 (Or.inr (k_geT (B := 7) (by decide) h9)) (by decide) ?_
    exact kx_throw cx hZ hno9 hl kx_fA kx_f kcl_X3_112 kin_IllegalArgumentException kx_gA kx_bA kx_oA dX3_count_103 dX3_count_106 dX3_count_107 dX3_count_110 ⟨Nat.le_of_ble_eq_true rfl, Nat.le_of_ble_eq_true rfl⟩ (by decide) (by decide) (⟨rfl, kIn_hi (by decide) (Int32.not_lt.mpr h9)⟩)
  · subst e9
    match j, hj with
    | 0, hj =>
      refine kg_tableIn (off := 47) cx 48 dX3_count_1 (by decide) (by decide) (by decide +kernel) (by decide) ?_
      refine kg_aload_n cx dX3_count_48 rfl ?_
      refine kg_get (ci := 3) cx 0 1 kfs_X3 rfl (by decide) rfl rfl kf_X3_30 dX3_count_49 ?_
      refine kg_getN (ci := 1) cx 2 5 kfs_X1 rfl (by decide) rfl rfl (kfn_X3_100 cx.2.2.2.2.2.2.2.2) dX3_count_52 ?_
      exact kx_ireturn cx hr (rfl) _ rfl (⟨⟨0, hj, rfl, rfl⟩, rfl⟩) dX3_count_55 (by decide)
    | 1, hj =>
      refine kg_tableIn (off := 55) cx 56 dX3_count_1 (by decide) (by decide) (by decide +kernel) (by decide) ?_
      refine kg_aload_n cx dX3_count_56 rfl ?_
      refine kg_get (ci := 3) cx 0 1 kfs_X3 rfl (by decide) rfl rfl kf_X3_30 dX3_count_57 ?_
      refine kg_getN (ci := 1) cx 2 6 kfs_X1 rfl (by decide) rfl rfl (kfn_X3_45 cx.2.2.2.2.2.2.2.2) dX3_count_60 ?_
      exact kx_ireturn cx hr (rfl) _ rfl (⟨⟨1, hj, rfl, rfl⟩, rfl⟩) dX3_count_63 (by decide)
    | 2, hj =>
      refine kg_tableIn (off := 63) cx 64 dX3_count_1 (by decide) (by decide) (by decide +kernel) (by decide) ?_
      refine kg_aload_n cx dX3_count_64 rfl ?_
      refine kg_callV (ci := 3) (na := 0) cx (c_X3_activeOnes l D c ad n u) 0 rfl rfl kcd_X3_activeOnes km_X3_73 kin_X3 kim_X3_activeOnes ksl_X3_activeOnes (by decide +kernel) rfl (by decide) (by decide) rfl (Nat.le_of_ble_eq_true rfl) dX3_count_65 (fun _ => kw_adr _ _) (fun v9 u9 h9 => ?_)
      obtain ⟨rfl, h9⟩ := h9
      subst u9
      exact kx_ireturn cx hr (rfl) _ rfl (⟨⟨2, hj, rfl, rfl⟩, rfl⟩) dX3_count_68 (by decide)
    | 3, hj =>
      refine kg_tableIn (off := 68) cx 69 dX3_count_1 (by decide) (by decide) (by decide +kernel) (by decide) ?_
      refine kg_aload_n cx dX3_count_69 rfl ?_
      refine kg_get (ci := 3) cx 0 0 kfs_X3 rfl (by decide) rfl rfl kf_X3_23 dX3_count_70 ?_
      refine kg_getN (ci := 2) cx 1 2 kfs_X2 rfl (by decide) rfl rfl (kfn_X3_161 cx.2.2.2.2.2.2.2.2) dX3_count_73 ?_
      exact kx_ireturn cx hr (rfl) _ rfl (⟨⟨3, hj, rfl, rfl⟩, rfl⟩) dX3_count_76 (by decide)
    | 4, hj =>
      refine kg_tableIn (off := 76) cx 77 dX3_count_1 (by decide) (by decide) (by decide +kernel) (by decide) ?_
      refine kg_aload_n cx dX3_count_77 rfl ?_
      refine kg_get (ci := 3) cx 0 0 kfs_X3 rfl (by decide) rfl rfl kf_X3_23 dX3_count_78 ?_
      refine kg_getN (ci := 2) cx 1 3 kfs_X2 rfl (by decide) rfl rfl (kfn_X3_164 cx.2.2.2.2.2.2.2.2) dX3_count_81 ?_
      exact kx_ireturn cx hr (rfl) _ rfl (⟨⟨4, hj, rfl, rfl⟩, rfl⟩) dX3_count_84 (by decide)
    | 5, hj =>
      refine kg_tableIn (off := 84) cx 85 dX3_count_1 (by decide) (by decide) (by decide +kernel) (by decide) ?_
      refine kg_aload_n cx dX3_count_85 rfl ?_
      refine kg_get (ci := 3) cx 0 0 kfs_X3 rfl (by decide) rfl rfl kf_X3_23 dX3_count_86 ?_
      refine kg_getN (ci := 2) cx 1 4 kfs_X2 rfl (by decide) rfl rfl (kfn_X3_167 cx.2.2.2.2.2.2.2.2) dX3_count_89 ?_
      exact kx_ireturn cx hr (rfl) _ rfl (⟨⟨5, hj, rfl, rfl⟩, rfl⟩) dX3_count_92 (by decide)
    | 6, hj =>
      refine kg_tableIn (off := 92) cx 93 dX3_count_1 (by decide) (by decide) (by decide +kernel) (by decide) ?_
      refine kg_aload_n cx dX3_count_93 rfl ?_
      refine kg_get (ci := 3) cx 0 4 kfs_X3 rfl (by decide) rfl rfl kf_X3_148 dX3_count_94 ?_
      exact kx_ireturn cx hr (rfl) _ rfl (⟨⟨6, hj, rfl, rfl⟩, rfl⟩) dX3_count_97 (by decide)
    | 7, hj =>
      refine kg_tableIn (off := 97) cx 98 dX3_count_1 (by decide) (by decide) (by decide +kernel) (by decide) ?_
      refine kg_aload_n cx dX3_count_98 rfl ?_
      refine kg_get (ci := 3) cx 0 5 kfs_X3 rfl (by decide) rfl rfl kf_X3_142 dX3_count_99 ?_
      exact kx_ireturn cx hr (rfl) _ rfl (⟨⟨7, hj, rfl, rfl⟩, rfl⟩) dX3_count_102 (by decide)
    | j + 8, hj => exact absurd hj (by omega)
set_option maxHeartbeats 4000000 in
set_option maxRecDepth 100000 in
theorem c_X3_frame (l : Launch) (hl : l.stackTraces = false) (D : va_G) (c : Nat → ClassId) (ad : Nat → Nat → Nat) (n : Nat) (hn : n ≤ 8) (u : kS) (x y : Int32) : kX l D c ad n yX3_frame (Cond.code yX3_frame cX3_frame 4 (some .int)) 7 103 2 12 u [.ref (ad 0 0), .int x, .int y] (fun v u9 => (∃ f j, f < n ∧ x = nI f ∧ j < 5 ∧ y = nI j ∧ v = some (.int (kFrm u f j))) ∧ u9 = u) (fun E => E = sA ∧ ¬ (kIn x n ∧ kIn y 5)) := by
  refine kx.mk (by decide) (by simp [Value.category]) (Nat.le_of_ble_eq_true rfl) ?_
  intro p e s m args below meth c9 cx hr hZ hno9
  refine kg_iload_n cx dX3_frame_0 rfl ?_
  refine kg_aload_n cx dX3_frame_1 rfl ?_
  refine kg_get (ci := 3) cx 0 0 kfs_X3 rfl (by decide) rfl rfl kf_X3_23 dX3_frame_2 ?_
  refine kg_getN (ci := 2) cx 1 1 kfs_X2 rfl (by decide) rfl rfl (kfn_X3_52 cx.2.2.2.2.2.2.2.2) dX3_frame_5 ?_
  refine kg_alen (v := nI n) cx 4 2 rfl rfl rfl dX3_frame_8 ?_
  refine kx_callS (na := 2) cx hZ hno9 (c_X3_checkBelow l hl D c ad n u x n (by omega)) kcd_X3_checkBelow km_X3_41 kin_X3 kst_X3_checkBelow (by decide +kernel) rfl (by decide) (by decide) (by decide) rfl (Nat.le_of_ble_eq_true rfl) dX3_frame_9 (fun _ => kw_adr _ _) (fun E h => ⟨h.1, fun q => h.2 q.1⟩) (fun v9 u9 h9 => ?_)
  obtain ⟨⟨rfl, hi⟩, h9⟩ := h9
  subst u9
  obtain ⟨f, hi2⟩ := hi
  have hf := hi2.1
  refine kg_aload_n cx dX3_frame_12 rfl ?_
  refine kg_get (ci := 3) cx 0 0 kfs_X3 rfl (by decide) rfl rfl kf_X3_23 dX3_frame_13 ?_
  refine kg_getN (ci := 2) cx 1 1 kfs_X2 rfl (by decide) rfl rfl (kfn_X3_52 cx.2.2.2.2.2.2.2.2) dX3_frame_16 ?_
  refine kg_iload_n cx dX3_frame_19 rfl ?_
  refine kg_aaldN cx 4 2 f rfl rfl (hi2.2) (hf) (by omega) (k_if hf _) dX3_frame_20 ?_
  refine kg_astore_n cx dX3_frame_21 (by decide) ?_
  refine kg_iload_n cx dX3_frame_22 rfl ?_
  rcases pk_ix y (n := 5) (by decide) with h9 | h9 | ⟨j, hj, e9⟩
  · refine kg_tableOut cx 100 dX3_frame_23 (Or.inl (k_ltT h9)) (by decide) ?_
    exact kx_throw cx hZ hno9 hl kx_fA kx_f kcl_X3_112 kin_IllegalArgumentException kx_gA kx_bA kx_oA dX3_frame_100 dX3_frame_103 dX3_frame_104 dX3_frame_107 ⟨Nat.le_of_ble_eq_true rfl, Nat.le_of_ble_eq_true rfl⟩ (by decide) (by decide) (⟨rfl, fun q => kIn_lo (by decide) h9 q.2⟩)
  · refine kg_tableOut cx 100 dX3_frame_23 (Or.inr (k_geT (B := 4) (by decide) h9)) (by decide) ?_
    exact kx_throw cx hZ hno9 hl kx_fA kx_f kcl_X3_112 kin_IllegalArgumentException kx_gA kx_bA kx_oA dX3_frame_100 dX3_frame_103 dX3_frame_104 dX3_frame_107 ⟨Nat.le_of_ble_eq_true rfl, Nat.le_of_ble_eq_true rfl⟩ (by decide) (by decide) (⟨rfl, fun q => kIn_hi (by decide) (Int32.not_lt.mpr h9) q.2⟩)
  · subst e9
    match j, hj with
    | 0, hj =>
      refine kg_tableIn (off := 33) cx 56 dX3_frame_23 (by decide) (by decide) (by decide +kernel) (by decide) ?_
      refine kg_aload_n cx dX3_frame_56 rfl ?_
      refine kg_getN (ci := 0) cx (44 + f) 1 kfs_X0 rfl (by decide) (kw_at_o hf) rfl (kfn_X3_155 cx.2.2.2.2.2.2.2.2) dX3_frame_57 ?_
      exact kx_ireturn cx hr (rfl) _ rfl (⟨⟨f, 0, hf, hi2.2, hj, rfl, rfl⟩, rfl⟩) dX3_frame_60 (by decide)
    | 1, hj =>
      refine kg_tableIn (off := 38) cx 61 dX3_frame_23 (by decide) (by decide) (by decide +kernel) (by decide) ?_
      refine kg_aload_n cx dX3_frame_61 rfl ?_
      refine kg_getN (ci := 0) cx (44 + f) 2 kfs_X0 rfl (by decide) (kw_at_o hf) rfl (kfn_X3_56 cx.2.2.2.2.2.2.2.2) dX3_frame_62 ?_
      exact kx_ireturn cx hr (rfl) _ rfl (⟨⟨f, 1, hf, hi2.2, hj, rfl, rfl⟩, rfl⟩) dX3_frame_65 (by decide)
    | 2, hj =>
      refine kg_tableIn (off := 43) cx 66 dX3_frame_23 (by decide) (by decide) (by decide +kernel) (by decide) ?_
      refine kg_aload_n cx dX3_frame_66 rfl ?_
      refine kg_getN (ci := 0) cx (44 + f) 3 kfs_X0 rfl (by decide) (kw_at_o hf) rfl (kfn_X3_119 cx.2.2.2.2.2.2.2.2) dX3_frame_67 ?_
      refine kg_if_eq cx 77 dX3_frame_70 (by decide) (fun h7 => ?_) (fun h7 => ?_)
      · refine kg_iconst (v := 0) cx dX3_frame_77 (by decide) ?_
        exact kx_ireturn cx hr (rfl) _ rfl (⟨⟨f, 2, hf, hi2.2, hj, rfl, congrArg (fun x => some (Value.int x)) (kb_0 (P := u 3 f 0 ≠ 0) (fun q => q h7)).symm⟩, rfl⟩) dX3_frame_78 (by decide)
      · refine kg_iconst (v := 1) cx dX3_frame_73 (by decide) ?_
        refine kg_goto cx 78 dX3_frame_74 (by decide) ?_
        exact kx_ireturn cx hr (rfl) _ rfl (⟨⟨f, 2, hf, hi2.2, hj, rfl, congrArg (fun x => some (Value.int x)) (kb_1 (P := u 3 f 0 ≠ 0) h7).symm⟩, rfl⟩) dX3_frame_78 (by decide)
    | 3, hj =>
      refine kg_tableIn (off := 56) cx 79 dX3_frame_23 (by decide) (by decide) (by decide +kernel) (by decide) ?_
      refine kg_aload_n cx dX3_frame_79 rfl ?_
      refine kg_getN (ci := 0) cx (44 + f) 4 kfs_X0 rfl (by decide) (kw_at_o hf) rfl (kfn_X3_158 cx.2.2.2.2.2.2.2.2) dX3_frame_80 ?_
      refine kg_if_eq cx 90 dX3_frame_83 (by decide) (fun h7 => ?_) (fun h7 => ?_)
      · refine kg_iconst (v := 0) cx dX3_frame_90 (by decide) ?_
        exact kx_ireturn cx hr (rfl) _ rfl (⟨⟨f, 3, hf, hi2.2, hj, rfl, congrArg (fun x => some (Value.int x)) (kb_0 (P := u 4 f 0 ≠ 0) (fun q => q h7)).symm⟩, rfl⟩) dX3_frame_91 (by decide)
      · refine kg_iconst (v := 1) cx dX3_frame_86 (by decide) ?_
        refine kg_goto cx 91 dX3_frame_87 (by decide) ?_
        exact kx_ireturn cx hr (rfl) _ rfl (⟨⟨f, 3, hf, hi2.2, hj, rfl, congrArg (fun x => some (Value.int x)) (kb_1 (P := u 4 f 0 ≠ 0) h7).symm⟩, rfl⟩) dX3_frame_91 (by decide)
    | 4, hj =>
      refine kg_tableIn (off := 69) cx 92 dX3_frame_23 (by decide) (by decide) (by decide +kernel) (by decide) ?_
      refine kg_aload_n cx dX3_frame_92 rfl ?_
      refine kg_getN (ci := 0) cx (44 + f) 0 kfs_X0 rfl (by decide) (kw_at_o hf) rfl (kfn_X3_65 cx.2.2.2.2.2.2.2.2) dX3_frame_93 ?_
      refine kg_bipush (v := (nI 8)) cx dX3_frame_96 (by decide) ?_
      refine kg_ialdN cx (44 + n + f) 0 8 rfl (kw_at_r hf) (rfl) (by decide) (by decide) (rfl) dX3_frame_98 ?_
      exact kx_ireturn cx hr (rfl) _ rfl (⟨⟨f, 4, hf, hi2.2, hj, rfl, rfl⟩, rfl⟩) dX3_frame_99 (by decide)
    | j + 5, hj => exact absurd hj (by omega)
set_option maxHeartbeats 4000000 in
set_option maxRecDepth 100000 in
theorem c_X3_fetch (l : Launch) (hl : l.stackTraces = false) (D : va_G) (c : Nat → ClassId) (ad : Nat → Nat → Nat) (n : Nat) (hn : n ≤ 8) (u : kS) (x : Int32) (h : Nat) (Q : Nat → Nat) (hh : h < n) (hH : u 6 0 0 = nI h) (hQ : ∀ f, f < n → u 3 f 0 ≠ 0 → u 1 f 0 = nI (Q f) ∧ Q f < 32) : kX l D c ad n yX3_fetch (Cond.code yX3_fetch cX3_fetch 3 (some .int)) 7 126 1 6 u [.ref (ad 0 0), .int x] (fun v u9 => ∃ q, q < 32 ∧ x = nI q ∧ ((kBring u n q (u 15 0 0) h Q (-1) u9 ∧ v = some (.int (-2))) ∨ (∃ f u1, f < n ∧ kBring u n q (u 15 0 0) h Q (nI f) u1 ∧ v = some (.int (nI f)) ∧ u9 = ku u1 2 f 0 (u1 2 f 0 + 1)))) (fun E => E = sA ∧ ¬ kIn x 32) := by
  refine kx.mk (by decide) (by simp [Value.category]) (Nat.le_of_ble_eq_true rfl) ?_
  intro p e s m args below meth c9 cx hr hZ hno9
  refine kg_iload_n cx dX3_fetch_0 rfl ?_
  refine kg_bipush (v := (nI 32)) cx dX3_fetch_1 (by decide) ?_
  refine kx_callS (na := 2) cx hZ hno9 (c_X3_checkBelow l hl D c ad n u x 32 (by decide)) kcd_X3_checkBelow km_X3_41 kin_X3 kst_X3_checkBelow (by decide +kernel) rfl (by decide) (by decide) (by decide) rfl (Nat.le_of_ble_eq_true rfl) dX3_fetch_3 (fun _ => kw_adr _ _) (fun E h => h) (fun v9 u9 h9 => ?_)
  obtain ⟨⟨rfl, hi⟩, h9⟩ := h9
  subst u9
  obtain ⟨q, hq, rfl⟩ := hi
  refine kg_aload_n cx dX3_fetch_6 rfl ?_
  refine kg_get (ci := 3) cx 0 0 kfs_X3 rfl (by decide) rfl rfl kf_X3_23 dX3_fetch_7 ?_
  refine kg_iload_n cx dX3_fetch_10 rfl ?_
  refine kg_aload_n cx dX3_fetch_11 rfl ?_
  refine kg_get (ci := 3) cx 0 1 kfs_X3 rfl (by decide) rfl rfl kf_X3_30 dX3_fetch_12 ?_
  refine kg_getN (ci := 1) cx 2 6 kfs_X1 rfl (by decide) rfl rfl (kfn_X3_45 cx.2.2.2.2.2.2.2.2) dX3_fetch_15 ?_
  refine kg_callVN (ci := 2) (na := 2) cx (c_X2_bring l D c ad n hn u q (u 15 0 0) h Q hq hh hH hQ) 1 rfl rfl kcd_X2_bring (kmn_X3_49 cx.2.2.2.2.2.2.2.2) kin_X2 kim_X2_bring ksl_X2_bring (by decide +kernel) rfl (by decide) (by decide) rfl (Nat.le_of_ble_eq_true rfl) dX3_fetch_18 (fun _ => kw_adr _ _) (fun v9 u9 h9 => ?_)
  obtain ⟨r9, rfl, hb9⟩ := h9
  rcases kBring_r hb9 with ⟨f, hf, rfl⟩ | rfl
  · refine kg_istore_n cx dX3_fetch_21 (by decide) ?_
    refine kg_iload_n cx dX3_fetch_22 rfl ?_
    refine kg_if_ge cx 29 dX3_fetch_23 (by decide) (fun h1 => ?_) (fun h1 => ?_)
    · refine kg_aload_n cx dX3_fetch_29 rfl ?_
      refine kg_get (ci := 3) cx 0 0 kfs_X3 rfl (by decide) rfl rfl kf_X3_23 dX3_fetch_30 ?_
      refine kg_getN (ci := 2) cx 1 1 kfs_X2 rfl (by decide) rfl rfl (kfn_X3_52 cx.2.2.2.2.2.2.2.2) dX3_fetch_33 ?_
      refine kg_iload_n cx dX3_fetch_36 rfl ?_
      refine kg_aaldN cx 4 2 f rfl rfl (rfl) (hf) (by omega) (k_if hf _) dX3_fetch_37 ?_
      refine kg_dup cx dX3_fetch_38 rfl ?_
      refine kg_getN (ci := 0) cx (44 + f) 2 kfs_X0 rfl (by decide) (kw_at_o hf) rfl (kfn_X3_56 cx.2.2.2.2.2.2.2.2) dX3_fetch_39 ?_
      refine kg_iconst (v := 1) cx dX3_fetch_42 (by decide) ?_
      refine kg_iadd cx dX3_fetch_43 ?_
      refine kg_putN (ci := 0) (ty := .int) cx (44 + f) 2 kfs_X0 tyX0 tyX0_ok nmX0 rfl (by decide) (kw_at_o hf) (Nat.le_of_ble_eq_true rfl) (kfn_X3_56 cx.2.2.2.2.2.2.2.2) rfl (by decide +kernel) rfl rfl (ks_pins hf _) dX3_fetch_44 ?_
      refine kg_iload_n cx dX3_fetch_47 rfl ?_
      exact kx_ireturn cx hr (rfl) _ rfl (⟨q, hq, rfl, Or.inr ⟨f, u9, hf, hb9, rfl, rfl⟩⟩) dX3_fetch_48 (by decide)
    · exact absurd (nI_ge0 (by omega)) h1
  · refine kg_istore_n cx dX3_fetch_21 (by decide) ?_
    refine kg_iload_n cx dX3_fetch_22 rfl ?_
    refine kg_if_ge cx 29 dX3_fetch_23 (by decide) (fun h1 => ?_) (fun h1 => ?_)
    · exact absurd h1 (by decide)
    · refine kg_bipush (v := (-2)) cx dX3_fetch_26 (by decide) ?_
      exact kx_ireturn cx hr (rfl) _ rfl (⟨q, hq, rfl, Or.inl ⟨hb9, rfl⟩⟩) dX3_fetch_28 (by decide)
/-- an UPDATE: the number k of the page q in the frame f becomes x, by the transaction t, behind z records -/
def kSet (u : kS) (f t q k : Nat) (x : Int32) (z : Nat) : kS := ku (ku (ku (kFol (kApp u (z + 1) 0 (nI t) (nI q) (nI k) (u 5 f k) x (-1)) (z + 1) t 0) 5 f k x) 5 f 8 (nI (z + 1))) 3 f 0 1
set_option maxHeartbeats 4000000 in
set_option maxRecDepth 100000 in
theorem c_X3_set (l : Launch) (hl : l.stackTraces = false) (D : va_G) (c : Nat → ClassId) (ad : Nat → Nat → Nat) (n : Nat) (hn : n ≤ 8) (u : kS) (a x y val : Int32) (z : Nat) (hs : u 14 0 0 = nI z) (hrm : kRm u (3 + kct (fun t => u 16 t 0) 8) → z < 400) : kX l D c ad n yX3_set (Cond.code yX3_set cX3_set 7 (some .int)) 8 124 6 36 u [.ref (ad 0 0), .int a, .int x, .int y, .int val] (fun v u9 => ∃ t q k f, t < 8 ∧ a = nI t ∧ q < 32 ∧ x = nI q ∧ k < 8 ∧ y = nI k ∧ u 16 t 0 ≠ 0 ∧ u 17 t 0 = 0 ∧ kPin u n x f ∧ ((¬ kRm u (3 + kct (fun t => u 16 t 0) 8) ∧ v = some (.int (-2)) ∧ u9 = u) ∨ (kRm u (3 + kct (fun t => u 16 t 0) 8) ∧ v = some (.int (nI (z + 1))) ∧ u9 = kSet u f t q k val z))) (fun E => (E = sA ∧ ¬ (kIn a 8 ∧ kIn x 32 ∧ kIn y 8)) ∨ (E = sS ∧ ∃ t, t < 8 ∧ a = nI t ∧ kIn x 32 ∧ kIn y 8 ∧ ¬ (u 16 t 0 ≠ 0 ∧ u 17 t 0 = 0 ∧ ∃ f, kPin u n x f))) := by
  refine kx.mk (by decide) (by simp [Value.category]) (Nat.le_of_ble_eq_true rfl) ?_
  intro p e s m args below meth c9 cx hr hZ hno9
  refine kg_iload_n cx dX3_set_0 rfl ?_
  refine kg_bipush (v := (nI 8)) cx dX3_set_1 (by decide) ?_
  refine kx_callS (na := 2) cx hZ hno9 (c_X3_checkBelow l hl D c ad n u a 8 (by decide)) kcd_X3_checkBelow km_X3_41 kin_X3 kst_X3_checkBelow (by decide +kernel) rfl (by decide) (by decide) (by decide) rfl (Nat.le_of_ble_eq_true rfl) dX3_set_3 (fun _ => kw_adr _ _) (fun E h => Or.inl ⟨h.1, fun q => h.2 q.1⟩) (fun v9 u9 h9 => ?_)
  obtain ⟨⟨rfl, hi⟩, h9⟩ := h9
  subst u9
  refine kg_iload_n cx dX3_set_6 rfl ?_
  refine kg_bipush (v := (nI 32)) cx dX3_set_7 (by decide) ?_
  refine kx_callS (na := 2) cx hZ hno9 (c_X3_checkBelow l hl D c ad n u x 32 (by decide)) kcd_X3_checkBelow km_X3_41 kin_X3 kst_X3_checkBelow (by decide +kernel) rfl (by decide) (by decide) (by decide) rfl (Nat.le_of_ble_eq_true rfl) dX3_set_9 (fun _ => kw_adr _ _) (fun E h => Or.inl ⟨h.1, fun q => h.2 q.2.1⟩) (fun v9 u9 h9 => ?_)
  obtain ⟨⟨rfl, hj⟩, h9⟩ := h9
  subst u9
  refine kg_iload_n cx dX3_set_12 rfl ?_
  refine kg_bipush (v := (nI 8)) cx dX3_set_13 (by decide) ?_
  refine kx_callS (na := 2) cx hZ hno9 (c_X3_checkBelow l hl D c ad n u y 8 (by decide)) kcd_X3_checkBelow km_X3_41 kin_X3 kst_X3_checkBelow (by decide +kernel) rfl (by decide) (by decide) (by decide) rfl (Nat.le_of_ble_eq_true rfl) dX3_set_15 (fun _ => kw_adr _ _) (fun E h => Or.inl ⟨h.1, fun q => h.2 q.2.2⟩) (fun v9 u9 h9 => ?_)
  obtain ⟨⟨rfl, hm⟩, h9⟩ := h9
  subst u9
  obtain ⟨t, ht, rfl⟩ := hi
  refine kg_aload_n cx dX3_set_18 rfl ?_
  refine kg_iload_n cx dX3_set_19 rfl ?_
  refine kx_callV (ci := 3) (na := 1) cx hZ hno9 (c_X3_checkGoesOn l hl D c ad n u t ht) 0 rfl rfl kcd_X3_checkGoesOn km_X3_80 kin_X3 kim_X3_checkGoesOn ksl_X3_checkGoesOn (by decide +kernel) rfl (by decide) (by decide) (by decide) rfl (Nat.le_of_ble_eq_true rfl) dX3_set_20 (fun _ => kw_adr _ _) (fun E h => Or.inr ⟨h.1, t, ht, rfl, hj, hm, fun q => h.2 ⟨q.1, q.2.1⟩⟩) (fun v9 u9 h9 => ?_)
  obtain ⟨⟨rfl, ha, hg⟩, h9⟩ := h9
  subst u9
  refine kg_aload_n cx dX3_set_23 rfl ?_
  refine kg_iload_n cx dX3_set_24 rfl ?_
  refine kx_callV (ci := 3) (na := 1) cx hZ hno9 (c_X3_pinnedFrame l hl D c ad n hn u x) 0 rfl rfl kcd_X3_pinnedFrame km_X3_61 kin_X3 kim_X3_pinnedFrame ksl_X3_pinnedFrame (by decide +kernel) rfl (by decide) (by decide) (by decide) rfl (Nat.le_of_ble_eq_true rfl) dX3_set_25 (fun _ => kw_adr _ _) (fun E h => Or.inr ⟨h.1, t, ht, rfl, hj, hm, fun q => h.2 q.2.2⟩) (fun v9 u9 h9 => ?_)
  obtain ⟨⟨f, hf, rfl⟩, h9⟩ := h9
  subst u9
  obtain ⟨q, hq, rfl⟩ := hj
  obtain ⟨k, hk, rfl⟩ := hm
  refine kg_astore cx dX3_set_28 (by decide) ?_
  refine kg_aload_n cx dX3_set_30 rfl ?_
  refine kg_get (ci := 3) cx 0 1 kfs_X3 rfl (by decide) rfl rfl kf_X3_30 dX3_set_31 ?_
  refine kg_iconst (v := (nI 3)) cx dX3_set_34 (by decide) ?_
  refine kg_aload_n cx dX3_set_35 rfl ?_
  refine kg_callV (ci := 3) (na := 0) cx (c_X3_activeOnes l D c ad n u) 0 rfl rfl kcd_X3_activeOnes km_X3_73 kin_X3 kim_X3_activeOnes ksl_X3_activeOnes (by decide +kernel) rfl (by decide) (by decide) rfl (Nat.le_of_ble_eq_true rfl) dX3_set_36 (fun _ => kw_adr _ _) (fun v9 u9 h9 => ?_)
  obtain ⟨rfl, h9⟩ := h9
  subst u9
  refine kg_iadd cx dX3_set_39 ?_
  refine kg_top (nI (3 + kct (fun t => u 16 t 0) 8)) (nI_add _ _) ?_
  refine kg_callVN (ci := 1) (na := 1) cx (c_X1_hasRoomFor l D c ad n u (nI (3 + kct (fun t => u 16 t 0) 8))) 2 rfl rfl kcd_X1_hasRoomFor (kmn_X3_76 cx.2.2.2.2.2.2.2.2) kin_X1 kim_X1_hasRoomFor ksl_X1_hasRoomFor (by decide +kernel) rfl (by decide) (by decide) rfl (Nat.le_of_ble_eq_true rfl) dX3_set_40 (fun _ => kw_adr _ _) (fun v9 u9 h9 => ?_)
  obtain ⟨rfl, h9⟩ := h9
  subst u9
  refine kg_if_ne cx 49 dX3_set_43 (by decide) (fun h2 => ?_) (fun h2 => ?_)
  · have hr3 : kRm u (3 + kct (fun t => u 16 t 0) 8) := by
      by_cases q9 : kRm u (3 + kct (fun t => u 16 t 0) 8)
      · exact q9
      · exact absurd (kb_0 q9) h2
    refine kg_aload_n cx dX3_set_49 rfl ?_
    refine kg_get (ci := 3) cx 0 1 kfs_X3 rfl (by decide) rfl rfl kf_X3_30 dX3_set_50 ?_
    refine kg_iconst (v := 0) cx dX3_set_53 (by decide) ?_
    refine kg_iload_n cx dX3_set_54 rfl ?_
    refine kg_iload_n cx dX3_set_55 rfl ?_
    refine kg_iload_n cx dX3_set_56 rfl ?_
    refine kg_aload cx dX3_set_57 rfl ?_
    refine kg_getN (ci := 0) cx (44 + f) 0 kfs_X0 rfl (by decide) (kw_at_o hf.1) rfl (kfn_X3_65 cx.2.2.2.2.2.2.2.2) dX3_set_59 ?_
    refine kg_iload_n cx dX3_set_62 rfl ?_
    refine kg_ialdN cx (44 + n + f) 0 k rfl (kw_at_r hf.1) (rfl) (Nat.lt_succ_of_lt hk) (by decide) (rfl) dX3_set_63 ?_
    refine kg_iload cx dX3_set_64 rfl ?_
    refine kg_iconst (v := (-1)) cx dX3_set_66 (by decide) ?_
    refine kg_callVN (ci := 1) (na := 7) cx (c_X1_append l D c ad n u z t 0 0 (nI q) (nI k) (u 5 f k) val (-1) hs (hrm hr3) ht (by decide) (fun h => absurd h (by decide))) 2 rfl rfl kcd_X1_append (kmn_X3_83 cx.2.2.2.2.2.2.2.2) kin_X1 kim_X1_append ksl_X1_append (by decide +kernel) rfl (by decide) (by decide) rfl (Nat.le_of_ble_eq_true rfl) dX3_set_67 (fun _ => kw_adr _ _) (fun v9 u9 h9 => ?_)
    obtain ⟨rfl, h9⟩ := h9
    subst u9
    refine kg_istore cx dX3_set_70 (by decide) ?_
    refine kg_aload cx dX3_set_72 rfl ?_
    refine kg_iload_n cx dX3_set_74 rfl ?_
    refine kg_iload cx dX3_set_75 rfl ?_
    refine kg_iload cx dX3_set_77 rfl ?_
    refine kg_callVN (ci := 0) (na := 3) cx (c_X0_change l D c ad n _ f k val (nI (z + 1)) hf.1 hk) (44 + f) rfl (kw_at_o hf.1) kcd_X0_change (kmn_X3_87 cx.2.2.2.2.2.2.2.2) kin_X0 kim_X0_change ksl_X0_change (by decide +kernel) rfl (by decide) (by decide) rfl (Nat.le_of_ble_eq_true rfl) dX3_set_79 (fun _ => kw_adr _ _) (fun v9 u9 h9 => ?_)
    obtain ⟨rfl, h9⟩ := h9
    subst u9
    refine kg_iload cx dX3_set_82 rfl ?_
    exact kx_ireturn cx hr (rfl) _ rfl (⟨t, q, k, f, ht, rfl, hq, rfl, hk, rfl, ha, hg, hf, Or.inr ⟨hr3, rfl, rfl⟩⟩) dX3_set_84 (by decide)
  · refine kg_bipush (v := (-2)) cx dX3_set_46 (by decide) ?_
    exact kx_ireturn cx hr (rfl) _ rfl (⟨t, q, k, f, ht, rfl, hq, rfl, hk, rfl, ha, hg, hf, Or.inl ⟨fun q9 => absurd ((kb_1 q9).symm.trans h2) (by decide), rfl, rfl⟩⟩) dX3_set_48 (by decide)
def kCom (u : kS) (t z : Nat) : kS := ku (kFlu (kFol (kApp u (z + 1) (nI 2) (nI t) (-1) (-1) (-1) (-1) (-1)) (z + 1) t 0) (nI (z + 1))) 16 t 0 0
set_option maxHeartbeats 4000000 in
set_option maxRecDepth 100000 in
theorem c_X3_commit (l : Launch) (hl : l.stackTraces = false) (D : va_G) (c : Nat → ClassId) (ad : Nat → Nat → Nat) (n : Nat) (u : kS) (a : Int32) (z : Nat) (hs : u 14 0 0 = nI z) (hz : ∀ t, t < 8 → u 16 t 0 ≠ 0 → z < 400) : kX l D c ad n yX3_commit (Cond.code yX3_commit cX3_commit 3 (some .int)) 8 124 3 18 u [.ref (ad 0 0), .int a] (fun v u9 => ∃ t, t < 8 ∧ a = nI t ∧ u 16 t 0 ≠ 0 ∧ u 17 t 0 = 0 ∧ v = some (.int (nI (z + 1))) ∧ u9 = kCom u t z) (fun E => (E = sA ∧ ¬ kIn a 8) ∨ (E = sS ∧ ∃ t, t < 8 ∧ a = nI t ∧ ¬ (u 16 t 0 ≠ 0 ∧ u 17 t 0 = 0))) := by
  refine kx.mk (by decide) (by simp [Value.category]) (Nat.le_of_ble_eq_true rfl) ?_
  intro p e s m args below meth c9 cx hr hZ hno9
  refine kg_iload_n cx dX3_commit_0 rfl ?_
  refine kg_bipush (v := (nI 8)) cx dX3_commit_1 (by decide) ?_
  refine kx_callS (na := 2) cx hZ hno9 (c_X3_checkBelow l hl D c ad n u a 8 (by decide)) kcd_X3_checkBelow km_X3_41 kin_X3 kst_X3_checkBelow (by decide +kernel) rfl (by decide) (by decide) (by decide) rfl (Nat.le_of_ble_eq_true rfl) dX3_commit_3 (fun _ => kw_adr _ _) (fun E h => Or.inl h) (fun v9 u9 h9 => ?_)
  obtain ⟨⟨rfl, hi⟩, h9⟩ := h9
  subst u9
  obtain ⟨t, ht, rfl⟩ := hi
  refine kg_aload_n cx dX3_commit_6 rfl ?_
  refine kg_iload_n cx dX3_commit_7 rfl ?_
  refine kx_callV (ci := 3) (na := 1) cx hZ hno9 (c_X3_checkGoesOn l hl D c ad n u t ht) 0 rfl rfl kcd_X3_checkGoesOn km_X3_80 kin_X3 kim_X3_checkGoesOn ksl_X3_checkGoesOn (by decide +kernel) rfl (by decide) (by decide) (by decide) rfl (Nat.le_of_ble_eq_true rfl) dX3_commit_8 (fun _ => kw_adr _ _) (fun E h => Or.inr ⟨h.1, t, ht, rfl, h.2⟩) (fun v9 u9 h9 => ?_)
  obtain ⟨⟨rfl, ha, hg⟩, h9⟩ := h9
  subst u9
  refine kg_aload_n cx dX3_commit_11 rfl ?_
  refine kg_get (ci := 3) cx 0 1 kfs_X3 rfl (by decide) rfl rfl kf_X3_30 dX3_commit_12 ?_
  refine kg_iconst (v := (nI 2)) cx dX3_commit_15 (by decide) ?_
  refine kg_iload_n cx dX3_commit_16 rfl ?_
  refine kg_callVN (ci := 1) (na := 2) cx (c_X1_appendLast l D c ad n u z t (nI 2) hs (hz t ht ha) ht (by decide)) 2 rfl rfl kcd_X1_appendLast (kmn_X3_91 cx.2.2.2.2.2.2.2.2) kin_X1 kim_X1_appendLast ksl_X1_appendLast (by decide +kernel) rfl (by decide) (by decide) rfl (Nat.le_of_ble_eq_true rfl) dX3_commit_17 (fun _ => kw_adr _ _) (fun v9 u9 h9 => ?_)
  obtain ⟨rfl, h9⟩ := h9
  subst u9
  refine kg_istore_n cx dX3_commit_20 (by decide) ?_
  refine kg_aload_n cx dX3_commit_21 rfl ?_
  refine kg_get (ci := 3) cx 0 1 kfs_X3 rfl (by decide) rfl rfl kf_X3_30 dX3_commit_22 ?_
  refine kg_iload_n cx dX3_commit_25 rfl ?_
  refine kg_callVN (ci := 1) (na := 1) cx (c_X1_flushTo l D c ad n _ (nI (z + 1))) 2 rfl rfl kcd_X1_flushTo (kmn_X3_94 cx.2.2.2.2.2.2.2.2) kin_X1 kim_X1_flushTo ksl_X1_flushTo (by decide +kernel) rfl (by decide) (by decide) rfl (Nat.le_of_ble_eq_true rfl) dX3_commit_26 (fun _ => kw_adr _ _) (fun v9 u9 h9 => ?_)
  obtain ⟨rfl, h9⟩ := h9
  subst u9
  refine kg_aload_n cx dX3_commit_29 rfl ?_
  refine kg_get (ci := 3) cx 0 2 kfs_X3 rfl (by decide) rfl rfl kf_X3_34 dX3_commit_30 ?_
  refine kg_iload_n cx dX3_commit_33 rfl ?_
  refine kg_iconst (v := 0) cx dX3_commit_34 (by decide) ?_
  refine kg_zastN cx 5 1 t rfl rfl (rfl) (ht) (by decide) (by decide) (ks_active t _) dX3_commit_35 ?_
  refine kg_iload_n cx dX3_commit_36 rfl ?_
  exact kx_ireturn cx hr (rfl) _ rfl (⟨t, ht, rfl, ha, hg, rfl, rfl⟩) dX3_commit_37 (by decide)
end
section
abbrev kNat (x : Int32) : Nat := x.toNatClampNeg
theorem kNat_n {i : Nat} (h : i < 2 ^ 31) : kNat (nI i) = i := nI_clamp h
def kfnd (u : kS) (n : Nat) (pg : Int32) : Option Nat := (List.range n).find? (fun f => decide (u 1 f 0 = pg))
theorem kfnd_some {u : kS} {n : Nat} {pg : Int32} {f : Nat} (hf : f < n) (h1 : u 1 f 0 = pg) (h2 : ∀ j, j < f → u 1 j 0 ≠ pg) : kfnd u n pg = some f := by
  unfold kfnd
  rw [List.find?_range_eq_some]
  exact ⟨by simpa using h1, by simpa using hf, fun j hj => by simpa using h2 j hj⟩
theorem kfnd_none {u : kS} {n : Nat} {pg : Int32} (h : ∀ j, j < n → u 1 j 0 ≠ pg) : kfnd u n pg = none := by
  unfold kfnd
  rw [List.find?_eq_none]
  intro x hx
  simpa using h x (by simpa using hx)
/-- a page is brought, as a function -/
def kBr (u : kS) (n p : Nat) : kS × Option Nat :=
  match kfnd u n (nI p) with
  | some f => (ku u 4 f 0 1, some f)
  | none =>
    match kfnd u n (-1) with
    | some f => (ku (kLoad u p f (kNat (u 1 f 0))) 4 f 0 1, some f)
    | none =>
      match (kTurn n (u 15 0 0) (2 * n) u (kNat (u 6 0 0))).2 with
      | some f => (ku (kLoad (kTurn n (u 15 0 0) (2 * n) u (kNat (u 6 0 0))).1 p f (kNat (u 1 f 0))) 4 f 0 1, some f)
      | none => ((kTurn n (u 15 0 0) (2 * n) u (kNat (u 6 0 0))).1, none)
theorem kBring_fn {u : kS} {n p : Nat} {r : Int32} {u9 : kS} (hb : kBring u n p (u 15 0 0) (kNat (u 6 0 0)) (fun f => kNat (u 1 f 0)) r u9) : u9 = (kBr u n p).1 ∧ r = kO (kBr u n p).2 := by
  unfold kBr
  rcases hb with ⟨f, h1, h2, h3, rfl, rfl⟩ | ⟨f, h1, h2, h3, h4, rfl, rfl⟩ | ⟨f, h1, h2, h3, h4, rfl, rfl⟩ | ⟨h2, h3, h4, rfl, rfl⟩
  · rw [kfnd_some h1 h2 h3]
    exact ⟨rfl, rfl⟩
  · rw [kfnd_none h2, kfnd_some h1 h3 h4]
    exact ⟨rfl, rfl⟩
  · rw [kfnd_none h2, kfnd_none h3]
    dsimp only
    rw [h4]
    exact ⟨rfl, rfl⟩
  · rw [kfnd_none h2, kfnd_none h3]
    dsimp only
    rw [h4]
    exact ⟨rfl, rfl⟩
theorem kO_none {o : Option Nat} (h : -1 = kO o) (hl : ∀ f, o = some f → f < 2 ^ 30) : o = none := by
  cases o with
  | none => rfl
  | some f =>
    exfalso
    have h1 : (-1 : Int32) = nI f := h
    have h2 := nI_pos (n := f) (by have := hl f rfl; omega)
    rw [← h1] at h2
    exact h2 (by decide)
theorem kO_some {o : Option Nat} {f : Nat} (hf : f < 2 ^ 30) (h : nI f = kO o) (hl : ∀ g, o = some g → g < 2 ^ 30) : o = some f := by
  cases o with
  | none =>
    exfalso
    have h1 : nI f = -1 := h
    have h2 := nI_pos (n := f) (by omega)
    rw [h1] at h2
    exact h2 (by decide)
  | some g =>
    have h1 : nI f = nI g := h
    rw [(nI_eq (by omega) (by have := hl g rfl; omega)).mp h1]
theorem kfnd_lt {u : kS} {n : Nat} {pg : Int32} {f : Nat} (h : kfnd u n pg = some f) : f < n := by
  unfold kfnd at h
  rw [List.find?_range_eq_some] at h
  simpa using h.2.1
theorem kBr_lt {u : kS} {n p f : Nat} (hh : kNat (u 6 0 0) < n) (h : (kBr u n p).2 = some f) : f < n := by
  unfold kBr at h
  split at h
  · rename_i g hg
    cases h
    exact kfnd_lt hg
  · split at h
    · rename_i g hg
      cases h
      exact kfnd_lt hg
    · split at h
      · rename_i g hg
        cases h
        exact kTurn_lt _ _ _ _ hh hg
      · cases h
/-- undoing the transaction t in the pool, from the record i back: what then is, and how many, or none where a page can't be brought -/
def kAb (n t : Nat) : Nat → kS → Nat → kS × Option Nat
  | 0, u, d => (u, some d)
  | i + 1, u, d =>
    if kOpen u (i + 1) (kNat (u 9 (i + 1) 1)) ∧ u 9 (i + 1) 1 = nI t then
      match (kBr u n (kNat (u 9 (i + 1) 2))).2 with
      | none => ((kBr u n (kNat (u 9 (i + 1) 2))).1, none)
      | some f => kAb n t i (kUndP (kBr u n (kNat (u 9 (i + 1) 2))).1 f (i + 1) t (kNat (u 9 (i + 1) 3)) (kNat (u 14 0 0))) (d + 1)
    else kAb n t i u d
theorem kAb_no {n t i : Nat} {u : kS} {d : Nat} (h : ¬ (kOpen u (i + 1) (kNat (u 9 (i + 1) 1)) ∧ u 9 (i + 1) 1 = nI t)) : kAb n t (i + 1) u d = kAb n t i u d := if_neg h
theorem kAb_none {n t i : Nat} {u : kS} {d : Nat} (h : kOpen u (i + 1) (kNat (u 9 (i + 1) 1)) ∧ u 9 (i + 1) 1 = nI t) (h2 : (kBr u n (kNat (u 9 (i + 1) 2))).2 = none) : kAb n t (i + 1) u d = ((kBr u n (kNat (u 9 (i + 1) 2))).1, none) := by
  show (if _ then _ else _) = _
  rw [if_pos h, h2]
theorem kAb_some {n t i f : Nat} {u : kS} {d : Nat} (h : kOpen u (i + 1) (kNat (u 9 (i + 1) 1)) ∧ u 9 (i + 1) 1 = nI t) (h2 : (kBr u n (kNat (u 9 (i + 1) 2))).2 = some f) : kAb n t (i + 1) u d = kAb n t i (kUndP (kBr u n (kNat (u 9 (i + 1) 2))).1 f (i + 1) t (kNat (u 9 (i + 1) 3)) (kNat (u 14 0 0))) (d + 1) := by
  show (if _ then _ else _) = _
  rw [if_pos h, h2]
/-- what the pool's methods need of the frames -/
def kFr (u : kS) (n : Nat) : Prop := (∃ h, h < n ∧ u 6 0 0 = nI h) ∧ ∀ f, f < n → u 3 f 0 ≠ 0 → ∃ q, q < 32 ∧ u 1 f 0 = nI q
theorem kFr.h {u : kS} {n : Nat} (hn : n ≤ 8) (h : kFr u n) : kNat (u 6 0 0) < n ∧ u 6 0 0 = nI (kNat (u 6 0 0)) := by
  obtain ⟨⟨h9, h1, h2⟩, -⟩ := h
  rw [h2, kNat_n (by omega)]
  exact ⟨h1, rfl⟩
theorem kFr.q {u : kS} {n : Nat} (h : kFr u n) : ∀ f, f < n → u 3 f 0 ≠ 0 → u 1 f 0 = nI (kNat (u 1 f 0)) ∧ kNat (u 1 f 0) < 32 := by
  intro f hf hd
  obtain ⟨q, h1, h2⟩ := h.2 f hf hd
  rw [h2, kNat_n (by omega)]
  exact ⟨rfl, h1⟩
/-- I is kept while t is undone, and gives what each step needs -/
def kAbI (n t : Nat) (I : Nat → kS → Prop) : Prop :=
  (∀ v, I 0 v → ∃ z, v 14 0 0 = nI z ∧ z < 400) ∧
  ∀ i v, I (i + 1) v → ∃ z t9, v 14 0 0 = nI z ∧ i + 1 ≤ z ∧ z ≤ 400 ∧ t9 < 8 ∧ v 9 (i + 1) 1 = nI t9 ∧
    (¬ (kOpen v (i + 1) t9 ∧ v 9 (i + 1) 1 = nI t) → I i v) ∧
    (kOpen v (i + 1) t9 ∧ v 9 (i + 1) 1 = nI t → z < 400 ∧ kFr v n ∧ ∃ q k, q < 32 ∧ v 9 (i + 1) 2 = nI q ∧ k < 8 ∧ v 9 (i + 1) 3 = nI k ∧ ∀ f, (kBr v n q).2 = some f → I i (kUndP (kBr v n q).1 f (i + 1) t k z))
/-- .. and its end -/
def kAbE (u : kS) (t : Nat) : kS := ku (ku (kFol (kApp u (kNat (u 14 0 0) + 1) (nI 3) (nI t) (-1) (-1) (-1) (-1) (-1)) (kNat (u 14 0 0) + 1) t 0) 16 t 0 0) 17 t 0 0
abbrev kgX (p : Program) (l : Launch) (e : Env) (fr lc mc ms : Nat) (s : State) (m : MethodId) (args : Array Value) (below : List Frame) (meth : Method) (c9 : Code) (nL : Nat) (D : va_G) (c : Nat → ClassId) (ad : Nat → Nat → Nat) (n : Nat) (u0 : kS) (post : Option Value → kS → Prop) (pe : String → Prop) (cells slots : Nat) (u : kS) (pc : Nat) (lo : List (Option Value)) (st : List Value) : Prop :=
  kg p l e (kx_rm fr lc mc ms) s m args below meth c9 nL D (va_A (kw ad c n u0) s.heap.size) (vx_MQ below (kc_Q (kw ad c n) D post (va_A (kw ad c n u0) s.heap.size)) (kx_X pe D (kw ad c n u0) (va_A (kw ad c n u0) s.heap.size)) args s mc ms (va_A (kw ad c n u0) s.heap.size)) cells slots (kw ad c n u) pc lo st
set_option maxHeartbeats 4000000 in
set_option maxRecDepth 100000 in
theorem c_X3_abort (l : Launch) (hl : l.stackTraces = false) (D : va_G) (c : Nat → ClassId) (ad : Nat → Nat → Nat) (n : Nat) (hn : n ≤ 8) (u : kS) (a : Int32) (z : Nat) (I : Nat → Nat → kS → Prop) (hs : u 14 0 0 = nI z) (hz4 : z ≤ 400) (hI : ∀ t, t < 8 → a = nI t → u 16 t 0 ≠ 0 → kAbI n t (I t) ∧ I t z (ku u 17 t 0 1)) : kX l D c ad n yX3_abort (Cond.code yX3_abort cX3_abort 4 (some .int)) 7 151 2 12 u [.ref (ad 0 0), .int a] (fun v u9 => ∃ t, t < 8 ∧ a = nI t ∧ u 16 t 0 ≠ 0 ∧ (((kAb n t z (ku u 17 t 0 1) 0).2 = none ∧ v = some (.int (-2)) ∧ u9 = (kAb n t z (ku u 17 t 0 1) 0).1) ∨ (∃ d, (kAb n t z (ku u 17 t 0 1) 0).2 = some d ∧ v = some (.int (nI d)) ∧ u9 = kAbE (kAb n t z (ku u 17 t 0 1) 0).1 t))) (fun E => (E = sA ∧ ¬ kIn a 8) ∨ (E = sS ∧ ∃ t, t < 8 ∧ a = nI t ∧ u 16 t 0 = 0)) := by
  refine kx.mk (by decide) (by simp [Value.category]) (Nat.le_of_ble_eq_true rfl) ?_
  intro p e s m args below meth c9 cx hr hZ hno9
  refine kg_iload_n cx dX3_abort_0 rfl ?_
  refine kg_bipush (v := (nI 8)) cx dX3_abort_1 (by decide) ?_
  refine kx_callS (na := 2) cx hZ hno9 (c_X3_checkBelow l hl D c ad n u a 8 (by decide)) kcd_X3_checkBelow km_X3_41 kin_X3 kst_X3_checkBelow (by decide +kernel) rfl (by decide) (by decide) (by decide) rfl (Nat.le_of_ble_eq_true rfl) dX3_abort_3 (fun _ => kw_adr _ _) (fun E h => Or.inl h) (fun v9 u9 h9 => ?_)
  obtain ⟨⟨rfl, hi⟩, h9⟩ := h9
  subst u9
  obtain ⟨t, ht, rfl⟩ := hi
  refine kg_aload_n cx dX3_abort_6 rfl ?_
  refine kg_iload_n cx dX3_abort_7 rfl ?_
  refine kx_callV (ci := 3) (na := 1) cx hZ hno9 (c_X3_checkActive l hl D c ad n u t ht) 0 rfl rfl kcd_X3_checkActive km_X3_97 kin_X3 kim_X3_checkActive ksl_X3_checkActive (by decide +kernel) rfl (by decide) (by decide) (by decide) rfl (Nat.le_of_ble_eq_true rfl) dX3_abort_8 (fun _ => kw_adr _ _) (fun E h => Or.inr ⟨h.1, t, ht, rfl, h.2⟩) (fun v9 u9 h9 => ?_)
  obtain ⟨⟨rfl, ha⟩, h9⟩ := h9
  subst u9
  refine kg_aload_n cx dX3_abort_11 rfl ?_
  refine kg_get (ci := 3) cx 0 3 kfs_X3 rfl (by decide) rfl rfl kf_X3_38 dX3_abort_12 ?_
  refine kg_iload_n cx dX3_abort_15 rfl ?_
  refine kg_iconst (v := 1) cx dX3_abort_16 (by decide) ?_
  refine kg_zastN cx 6 1 t rfl rfl (rfl) (ht) (by decide) (by decide) (ks_abortBegun t _) dX3_abort_17 ?_
  refine kg_iconst (v := 0) cx dX3_abort_18 (by decide) ?_
  refine kg_istore_n cx dX3_abort_19 (by decide) ?_
  refine kg_aload_n cx dX3_abort_20 rfl ?_
  refine kg_get (ci := 3) cx 0 1 kfs_X3 rfl (by decide) rfl rfl kf_X3_30 dX3_abort_21 ?_
  refine kg_getN (ci := 1) cx 2 5 kfs_X1 rfl (by decide) rfl rfl (kfn_X3_100 cx.2.2.2.2.2.2.2.2) dX3_abort_24 ?_
  refine kg_top (nI z) ((ku_F (by decide)).trans hs) ?_
  refine kg_istore_n cx dX3_abort_27 (by decide) ?_
  obtain ⟨⟨hI0, hIs⟩, hIz⟩ := hI t ht rfl ha
  have loop : ∀ (k : Nat) (v : kS) (d : Nat), I t k v → kAb n t z (ku u 17 t 0 1) 0 = kAb n t k v d → kgX p l e 7 151 2 12 s m args below meth c9 4 D c ad n u (fun v u9 => ∃ t9, t9 < 8 ∧ nI t = nI t9 ∧ u 16 t9 0 ≠ 0 ∧ (((kAb n t9 z (ku u 17 t9 0 1) 0).2 = none ∧ v = some (.int (-2)) ∧ u9 = (kAb n t9 z (ku u 17 t9 0 1) 0).1) ∨ (∃ d, (kAb n t9 z (ku u 17 t9 0 1) 0).2 = some d ∧ v = some (.int (nI d)) ∧ u9 = kAbE (kAb n t9 z (ku u 17 t9 0 1) 0).1 t9))) (fun E => (E = sA ∧ ¬ kIn (nI t) 8) ∨ (E = sS ∧ ∃ t9, t9 < 8 ∧ nI t = nI t9 ∧ u 16 t9 0 = 0)) 2 12 v 28 [some (.ref (ad 0 0)), some (.int (nI t)), some (.int (nI d)), some (.int (nI k))] [] := by
    intro k
    induction k with
    | zero =>
      intro v d hv he
      obtain ⟨y, hy, hy4⟩ := hI0 v hv
      refine kg_iload_n cx dX3_abort_28 rfl ?_
      refine kg_iconst (v := 1) cx dX3_abort_29 (by decide) ?_
      refine kg_icmp_lt cx 77 dX3_abort_30 (by decide) (fun h1 => ?_) (fun h1 => ?_)
      · refine kg_aload_n cx dX3_abort_77 rfl ?_
        refine kg_get (ci := 3) cx 0 1 kfs_X3 rfl (by decide) rfl rfl kf_X3_30 dX3_abort_78 ?_
        refine kg_iconst (v := (nI 3)) cx dX3_abort_81 (by decide) ?_
        refine kg_iload_n cx dX3_abort_82 rfl ?_
        refine kg_callVN (ci := 1) (na := 2) cx (c_X1_appendLast l D c ad n v y t (nI 3) hy hy4 ht (by decide)) 2 rfl rfl kcd_X1_appendLast (kmn_X3_91 cx.2.2.2.2.2.2.2.2) kin_X1 kim_X1_appendLast ksl_X1_appendLast (by decide +kernel) rfl (by decide) (by decide) rfl (Nat.le_of_ble_eq_true rfl) dX3_abort_83 (fun _ => kw_adr _ _) (fun v9 u9 h9 => ?_)
        obtain ⟨rfl, h9⟩ := h9
        subst u9
        refine kg_pop cx dX3_abort_86 rfl ?_
        refine kg_aload_n cx dX3_abort_87 rfl ?_
        refine kg_get (ci := 3) cx 0 2 kfs_X3 rfl (by decide) rfl rfl kf_X3_34 dX3_abort_88 ?_
        refine kg_iload_n cx dX3_abort_91 rfl ?_
        refine kg_iconst (v := 0) cx dX3_abort_92 (by decide) ?_
        refine kg_zastN cx 5 1 t rfl rfl (rfl) (ht) (by decide) (by decide) (ks_active t _) dX3_abort_93 ?_
        refine kg_aload_n cx dX3_abort_94 rfl ?_
        refine kg_get (ci := 3) cx 0 3 kfs_X3 rfl (by decide) rfl rfl kf_X3_38 dX3_abort_95 ?_
        refine kg_iload_n cx dX3_abort_98 rfl ?_
        refine kg_iconst (v := 0) cx dX3_abort_99 (by decide) ?_
        refine kg_zastN cx 6 1 t rfl rfl (rfl) (ht) (by decide) (by decide) (ks_abortBegun t _) dX3_abort_100 ?_
        refine kg_iload_n cx dX3_abort_101 rfl ?_
        exact kx_ireturn cx hr (rfl) _ rfl (⟨t, ht, rfl, ha, Or.inr ⟨d, by rw [he]; rfl, rfl, by
            rw [he]
            show _ = kAbE v t
            unfold kAbE
            rw [hy, kNat_n (by omega)]⟩⟩) dX3_abort_102 (by decide)
      · exact absurd (by decide) h1
    | succ k ih =>
      intro v d hv he
      obtain ⟨y, t9, hy, hky, hy4, ht9, hT9, hno, hyes⟩ := hIs k v hv
      have hTn : kNat (v 9 (k + 1) 1) = t9 := by rw [hT9, kNat_n (by omega)]
      refine kg_iload_n cx dX3_abort_28 rfl ?_
      refine kg_iconst (v := 1) cx dX3_abort_29 (by decide) ?_
      refine kg_icmp_lt cx 77 dX3_abort_30 (by decide) (fun h1 => ?_) (fun h1 => ?_)
      · exact absurd h1 (nI_nlt (show 1 ≤ k + 1 by omega) (by omega))
      · refine kg_aload_n cx dX3_abort_33 rfl ?_
        refine kg_get (ci := 3) cx 0 1 kfs_X3 rfl (by decide) rfl rfl kf_X3_30 dX3_abort_34 ?_
        refine kg_iload_n cx dX3_abort_37 rfl ?_
        refine kg_callVN (ci := 1) (na := 1) cx (c_X1_isOpen l D c ad n v (k + 1) t9 (by omega) ht9 hT9) 2 rfl rfl kcd_X1_isOpen (kmn_X3_103 cx.2.2.2.2.2.2.2.2) kin_X1 kim_X1_isOpen ksl_X1_isOpen (by decide +kernel) rfl (by decide) (by decide) rfl (Nat.le_of_ble_eq_true rfl) dX3_abort_38 (fun _ => kw_adr _ _) (fun v9 u9 h9 => ?_)
        obtain ⟨rfl, h9⟩ := h9
        subst u9
        refine kg_if_eq cx 71 dX3_abort_41 (by decide) (fun h2 => ?_) (fun h2 => ?_)
        · have hn9 : ¬ (kOpen v (k + 1) t9 ∧ v 9 (k + 1) 1 = nI t) := fun q9 => absurd ((kb_1 q9.1).symm.trans h2) (by decide)
          refine kg_iinc (v := nI k) cx dX3_abort_71 rfl (pk_m1 k) (by decide) ?_
          refine kg_goto cx 28 dX3_abort_74 (by decide) ?_
          exact ih v d (hno hn9) (by rw [he, kAb_no (by rw [hTn]; exact hn9)])
        · have hop1 : kOpen v (k + 1) t9 := by
            by_cases q9 : kOpen v (k + 1) t9
            · exact q9
            · exact absurd (kb_0 q9) h2
          refine kg_aload_n cx dX3_abort_44 rfl ?_
          refine kg_get (ci := 3) cx 0 1 kfs_X3 rfl (by decide) rfl rfl kf_X3_30 dX3_abort_45 ?_
          refine kg_iload_n cx dX3_abort_48 rfl ?_
          refine kg_iconst (v := 1) cx dX3_abort_49 (by decide) ?_
          refine kg_callVN (ci := 1) (na := 2) cx (c_X1_value l D c ad n v (k + 1) 1 (by omega) (by decide)) 2 rfl rfl kcd_X1_value (kmn_X3_106 cx.2.2.2.2.2.2.2.2) kin_X1 kim_X1_value ksl_X1_value (by decide +kernel) rfl (by decide) (by decide) rfl (Nat.le_of_ble_eq_true rfl) dX3_abort_50 (fun _ => kw_adr _ _) (fun v9 u9 h9 => ?_)
          obtain ⟨rfl, h9⟩ := h9
          subst u9
          refine kg_iload_n cx dX3_abort_53 rfl ?_
          refine kg_icmp_ne cx 71 dX3_abort_54 (by decide) (fun h3 => ?_) (fun h3 => ?_)
          · have hn9 : ¬ (kOpen v (k + 1) t9 ∧ v 9 (k + 1) 1 = nI t) := fun q9 => h3 q9.2
            refine kg_iinc (v := nI k) cx dX3_abort_71 rfl (pk_m1 k) (by decide) ?_
            refine kg_goto cx 28 dX3_abort_74 (by decide) ?_
            exact ih v d (hno hn9) (by rw [he, kAb_no (by rw [hTn]; exact hn9)])
          · have hop : kOpen v (k + 1) t9 ∧ v 9 (k + 1) 1 = nI t := ⟨hop1, h3⟩
            obtain ⟨hy5, hfr, q, k9, hq, hq9, hk9, hk99, hnx⟩ := hyes hop
            have hop2 : kOpen v (k + 1) (kNat (v 9 (k + 1) 1)) ∧ v 9 (k + 1) 1 = nI t := by rw [hTn]; exact hop
            have eq9 : kNat (v 9 (k + 1) 2) = q := by rw [hq9, kNat_n (by omega)]
            have ek9 : kNat (v 9 (k + 1) 3) = k9 := by rw [hk99, kNat_n (by omega)]
            have ey9 : kNat (v 14 0 0) = y := by rw [hy, kNat_n (by omega)]
            refine kg_aload_n cx dX3_abort_57 rfl ?_
            refine kg_iload_n cx dX3_abort_58 rfl ?_
            refine kg_callV (ci := 3) (na := 1) cx (c_X3_undoInPool l D c ad n hn v (k + 1) t q k9 y (kNat (v 6 0 0)) (fun f => kNat (v 1 f 0)) hky hy5 hy ht h3 hq hq9 hk9 hk99 (hfr.h hn).1 (hfr.h hn).2 hfr.q) 0 rfl rfl kcd_X3_undoInPool km_X3_109 kin_X3 kim_X3_undoInPool ksl_X3_undoInPool (by decide +kernel) rfl (by decide) (by decide) rfl (Nat.le_of_ble_eq_true rfl) dX3_abort_59 (fun _ => kw_adr _ _) (fun v9 u9 h9 => ?_)
            obtain ⟨r9, rfl, hu9⟩ := h9
            rcases hu9 with ⟨u1, hb9, rfl, h9⟩ | ⟨f, u1, hf, hb9, rfl, h9⟩
            · obtain ⟨rfl, e2⟩ := kBring_fn hb9
              have e3 := kO_none e2 (fun f hf => by have := kBr_lt (hfr.h hn).1 hf; omega)
              subst u9
              refine kg_if_ne cx 68 dX3_abort_62 (by decide) (fun h5 => ?_) (fun h5 => ?_)
              · exact absurd rfl h5
              · refine kg_bipush (v := (-2)) cx dX3_abort_65 (by decide) ?_
                exact kx_ireturn cx hr (rfl) _ rfl (⟨t, ht, rfl, ha, Or.inl ⟨by rw [he, kAb_none hop2 (by rw [eq9]; exact e3)], rfl, by rw [he, kAb_none hop2 (by rw [eq9]; exact e3), eq9]⟩⟩) dX3_abort_67 (by decide)
            · obtain ⟨rfl, e2⟩ := kBring_fn hb9
              have e3 := kO_some (by omega) e2 (fun f hf => by have := kBr_lt (hfr.h hn).1 hf; omega)
              subst u9
              refine kg_if_ne cx 68 dX3_abort_62 (by decide) (fun h5 => ?_) (fun h5 => ?_)
              · refine kg_iinc (v := nI (d + 1)) cx dX3_abort_68 rfl (nI_1 d) (by decide) ?_
                refine kg_iinc (v := nI k) cx dX3_abort_71 rfl (pk_m1 k) (by decide) ?_
                refine kg_goto cx 28 dX3_abort_74 (by decide) ?_
                exact ih _ (d + 1) (hnx f e3) (by rw [he, kAb_some hop2 (by rw [eq9]; exact e3), eq9, ek9, ey9])
              · exact absurd h5 (by decide)
  exact loop z _ 0 hIz rfl
end
section
theorem kEmp_F {u : kS} {f F a b : Nat} (h : 6 ≤ F ∨ F = 0) : kEmp u f F a b = u F a b := by
  have h1 : F ≠ 1 := by omega
  have h2 : F ≠ 2 := by omega
  have h3 : F ≠ 3 := by omega
  have h4 : F ≠ 4 := by omega
  have h5 : F ≠ 5 := by omega
  simp [kEmp, ku, kfr, h1, h2, h3, h4, h5]
theorem kClr_F {u : kS} {F a b : Nat} (h : 6 ≤ F ∨ F = 0) : ∀ k, kClr u k F a b = u F a b
  | 0 => rfl
  | k + 1 => by
    show kEmp _ _ F a b = _
    rw [kEmp_F h]
    exact kClr_F h k
/-- a crash up to its redoing: the log cut at fl, the pool empty, none active, the records laid on the disk -/
def kCr (u : kS) (n fl : Nat) (T Wd Pg Nb : Nat → Nat) : kS := kRedo (kfl (kfl (ku (kClr (kFols (kCut u fl) T Wd fl) n) 6 0 0 0) 16 8 0) 17 8 0) Pg Nb fl
theorem kCr_9 {u : kS} {n fl a b : Nat} {T Wd Pg Nb : Nat → Nat} : kCr u n fl T Wd Pg Nb 9 a b = u 9 a b := by
  unfold kCr
  rw [kRedo_F (by decide)]
  simp only [kfl]
  rw [if_neg (by simp), if_neg (by simp), ku_F (by decide), kClr_F (by omega), kFols_F (by decide), kCut_F (by decide)]
theorem kCr_14 {u : kS} {n fl : Nat} {T Wd Pg Nb : Nat → Nat} : kCr u n fl T Wd Pg Nb 14 0 0 = nI fl := by
  unfold kCr
  rw [kRedo_F (by decide)]
  simp only [kfl]
  rw [if_neg (by simp), if_neg (by simp), ku_F (by decide), kClr_F (by omega), kFols_F (by decide)]
  simp [kCut, kfl, ku]
theorem kUnd_14 {T Pg Nb : Nat → Nat} : ∀ (i : Nat) (u : kS) (z d : Nat), u 14 0 0 = nI z → (kUnd T Pg Nb i u z d).1 14 0 0 = nI (kUnd T Pg Nb i u z d).2.1
  | 0, _, _, _, h => h
  | i + 1, u, z, d, h => by
    rw [kUnd_s]
    split
    · exact kUnd_14 i _ _ _ kUnd1_14
    · exact kUnd_14 i _ _ _ h
/-- the undoing of a crash, and how many it undid -/
def kCr2 (u : kS) (n fl : Nat) (T Wd Pg Nb : Nat → Nat) : kS := ku (kUnd T Pg Nb fl (kCr u n fl T Wd Pg Nb) fl 0).1 19 0 0 (nI (kUnd T Pg Nb fl (kCr u n fl T Wd Pg Nb) fl 0).2.2)
def kCr3 (u : kS) (n fl : Nat) (T Wd Pg Nb : Nat → Nat) : kS := (kEnds (kCr2 u n fl T Wd Pg Nb) (kUnd T Pg Nb fl (kCr u n fl T Wd Pg Nb) fl 0).2.1 8).1
def kCr4 (u : kS) (n fl : Nat) (T Wd Pg Nb : Nat → Nat) : kS := kFlu (kCr3 u n fl T Wd Pg Nb) (kCr3 u n fl T Wd Pg Nb 14 0 0)
def kCrash (u : kS) (n fl : Nat) (T Wd Pg Nb : Nat → Nat) : kS := ku (kCr4 u n fl T Wd Pg Nb) 18 0 0 (kCr4 u n fl T Wd Pg Nb 18 0 0 + 1)
set_option maxHeartbeats 4000000 in
set_option maxRecDepth 100000 in
theorem c_X3_crash (l : Launch) (D : va_G) (c : Nat → ClassId) (ad : Nat → Nat → Nat) (n : Nat) (hn : n ≤ 8) (u : kS) (fl : Nat) (T Wd Pg Nb : Nat → Nat) (hf : u 15 0 0 = nI fl) (hl4 : fl ≤ 400) (hT : ∀ i, i ≤ fl → 1 ≤ i → u 9 i 1 = nI (T i) ∧ T i < 8) (hW : ∀ i, i ≤ fl → 1 ≤ i → u 9 i 0 = 1 → u 9 i 6 = nI (Wd i)) (hW4 : ∀ i, Wd i ≤ 400) (hP : ∀ i, i ≤ fl → 1 ≤ i → (u 9 i 0 = 0 ∨ u 9 i 0 = 1) → u 9 i 2 = nI (Pg i) ∧ Pg i < 32 ∧ u 9 i 3 = nI (Nb i) ∧ Nb i < 8) (hOk1 : kUndOk T Pg Nb fl (kCr u n fl T Wd Pg Nb) fl) (hOk2 : ∀ t, t < 8 → (kEnds (kCr2 u n fl T Wd Pg Nb) (kUnd T Pg Nb fl (kCr u n fl T Wd Pg Nb) fl 0).2.1 t).1 12 t 0 < (kEnds (kCr2 u n fl T Wd Pg Nb) (kUnd T Pg Nb fl (kCr u n fl T Wd Pg Nb) fl 0).2.1 t).1 11 t 0 → (kEnds (kCr2 u n fl T Wd Pg Nb) (kUnd T Pg Nb fl (kCr u n fl T Wd Pg Nb) fl 0).2.1 t).2 < 400) : kC l D c ad n yX3_crash (Cond.code yX3_crash cX3_crash 2 (some .int)) 5 118 u [.ref (ad 0 0)] (fun v u9 => v = some (.int (u 14 0 0 - u 15 0 0)) ∧ u9 = kCrash u n fl T Wd Pg Nb) := by
  refine kC.mk (by decide) (by simp [Value.category]) (Nat.le_of_ble_eq_true rfl) ?_
  intro p e s m args below meth c9 cx hr
  refine kg_aload_n cx dX3_crash_0 rfl ?_
  refine kg_get (ci := 3) cx 0 1 kfs_X3 rfl (by decide) rfl rfl kf_X3_30 dX3_crash_1 ?_
  refine kg_callVN (ci := 1) (na := 0) cx (c_X1_dropUnflushed l D c ad n u fl T Wd hf hl4 hT hW hW4) 2 rfl rfl kcd_X1_dropUnflushed (kmn_X3_127 cx.2.2.2.2.2.2.2.2) kin_X1 kim_X1_dropUnflushed ksl_X1_dropUnflushed (by decide +kernel) rfl (by decide) (by decide) rfl (Nat.le_of_ble_eq_true rfl) dX3_crash_4 (fun _ => kw_adr _ _) (fun v9 u9 h9 => ?_)
  obtain ⟨rfl, h9⟩ := h9
  subst u9
  refine kg_istore_n cx dX3_crash_7 (by decide) ?_
  refine kg_aload_n cx dX3_crash_8 rfl ?_
  refine kg_get (ci := 3) cx 0 0 kfs_X3 rfl (by decide) rfl rfl kf_X3_23 dX3_crash_9 ?_
  refine kg_callVN (ci := 2) (na := 0) cx (c_X2_clear l D c ad n hn _) 1 rfl rfl kcd_X2_clear (kmn_X3_130 cx.2.2.2.2.2.2.2.2) kin_X2 kim_X2_clear ksl_X2_clear (by decide +kernel) rfl (by decide) (by decide) rfl (Nat.le_of_ble_eq_true rfl) dX3_crash_12 (fun _ => kw_adr _ _) (fun v9 u9 h9 => ?_)
  obtain ⟨rfl, h9⟩ := h9
  subst u9
  refine kg_aload_n cx dX3_crash_15 rfl ?_
  refine kg_callV (ci := 3) (na := 0) cx (c_X3_forgetActiveOnes l D c ad n _) 0 rfl rfl kcd_X3_forgetActiveOnes km_X3_133 kin_X3 kim_X3_forgetActiveOnes ksl_X3_forgetActiveOnes (by decide +kernel) rfl (by decide) (by decide) rfl (Nat.le_of_ble_eq_true rfl) dX3_crash_16 (fun _ => kw_adr _ _) (fun v9 u9 h9 => ?_)
  obtain ⟨rfl, h9⟩ := h9
  subst u9
  refine kg_aload_n cx dX3_crash_19 rfl ?_
  refine kg_callV (ci := 3) (na := 0) cx (c_X3_redoOnDisk l D c ad n (kfl (kfl (ku (kClr (kFols (kCut u fl) T Wd fl) n) 6 0 0 0) 16 8 0) 17 8 0) fl Pg Nb (by simp only [kfl]; rw [if_neg (by simp), if_neg (by simp), ku_F (by decide), kClr_F (by omega), kFols_F (by decide)]; simp [kCut, kfl, ku]) hl4 (fun i h1 h2 h3 => by
      have e : ∀ b, (kfl (kfl (ku (kClr (kFols (kCut u fl) T Wd fl) n) 6 0 0 0) 16 8 0) 17 8 0) 9 i b = u 9 i b := fun b => by simp only [kfl]; rw [if_neg (by simp), if_neg (by simp), ku_F (by decide), kClr_F (by omega), kFols_F (by decide), kCut_F (by decide)]
      rw [e, e] at *
      exact hP i h1 h2 h3)) 0 rfl rfl kcd_X3_redoOnDisk km_X3_136 kin_X3 kim_X3_redoOnDisk ksl_X3_redoOnDisk (by decide +kernel) rfl (by decide) (by decide) rfl (Nat.le_of_ble_eq_true rfl) dX3_crash_20 (fun _ => kw_adr _ _) (fun v9 u9 h9 => ?_)
  obtain ⟨rfl, h9⟩ := h9
  subst u9
  refine kg_aload_n cx dX3_crash_23 rfl ?_
  refine kg_aload_n cx dX3_crash_24 rfl ?_
  refine kg_callV (ci := 3) (na := 0) cx (c_X3_undoOnDisk l D c ad n (kCr u n fl T Wd Pg Nb) fl T Pg Nb kCr_14 hl4 (fun i h1 h2 => by rw [kCr_9]; exact hT i h1 h2) (fun i h1 h2 h3 => by
      rw [kCr_9, kCr_9] at *
      exact hP i h1 h2 h3) hOk1) 0 rfl rfl kcd_X3_undoOnDisk km_X3_139 kin_X3 kim_X3_undoOnDisk ksl_X3_undoOnDisk (by decide +kernel) rfl (by decide) (by decide) rfl (Nat.le_of_ble_eq_true rfl) dX3_crash_25 (fun _ => kw_adr _ _) (fun v9 u9 h9 => ?_)
  obtain ⟨rfl, h9⟩ := h9
  subst u9
  refine kg_put (ci := 3) (ty := .int) cx 0 5 kfs_X3 tyX3 tyX3_ok nmX3 rfl (by decide) rfl (Nat.le_of_ble_eq_true rfl) kf_X3_142 rfl (by decide +kernel) rfl rfl (ks_undoneByCrash _) dX3_crash_28 ?_
  refine kg_aload_n cx dX3_crash_31 rfl ?_
  refine kg_callV (ci := 3) (na := 0) cx (c_X3_endUnended l D c ad n (kCr2 u n fl T Wd Pg Nb) (kUnd T Pg Nb fl (kCr u n fl T Wd Pg Nb) fl 0).2.1 ((ku_F (by decide)).trans (kUnd_14 _ _ _ _ kCr_14)) hOk2) 0 rfl rfl kcd_X3_endUnended km_X3_145 kin_X3 kim_X3_endUnended ksl_X3_endUnended (by decide +kernel) rfl (by decide) (by decide) rfl (Nat.le_of_ble_eq_true rfl) dX3_crash_32 (fun _ => kw_adr _ _) (fun v9 u9 h9 => ?_)
  obtain ⟨rfl, h9⟩ := h9
  subst u9
  refine kg_aload_n cx dX3_crash_35 rfl ?_
  refine kg_get (ci := 3) cx 0 1 kfs_X3 rfl (by decide) rfl rfl kf_X3_30 dX3_crash_36 ?_
  refine kg_aload_n cx dX3_crash_39 rfl ?_
  refine kg_get (ci := 3) cx 0 1 kfs_X3 rfl (by decide) rfl rfl kf_X3_30 dX3_crash_40 ?_
  refine kg_getN (ci := 1) cx 2 5 kfs_X1 rfl (by decide) rfl rfl (kfn_X3_100 cx.2.2.2.2.2.2.2.2) dX3_crash_43 ?_
  refine kg_callVN (ci := 1) (na := 1) cx (c_X1_flushTo l D c ad n _ _) 2 rfl rfl kcd_X1_flushTo (kmn_X3_94 cx.2.2.2.2.2.2.2.2) kin_X1 kim_X1_flushTo ksl_X1_flushTo (by decide +kernel) rfl (by decide) (by decide) rfl (Nat.le_of_ble_eq_true rfl) dX3_crash_46 (fun _ => kw_adr _ _) (fun v9 u9 h9 => ?_)
  obtain ⟨rfl, h9⟩ := h9
  subst u9
  refine kg_aload_n cx dX3_crash_49 rfl ?_
  refine kg_dup cx dX3_crash_50 rfl ?_
  refine kg_get (ci := 3) cx 0 4 kfs_X3 rfl (by decide) rfl rfl kf_X3_148 dX3_crash_51 ?_
  refine kg_iconst (v := 1) cx dX3_crash_54 (by decide) ?_
  refine kg_iadd cx dX3_crash_55 ?_
  refine kg_put (ci := 3) (ty := .int) cx 0 4 kfs_X3 tyX3 tyX3_ok nmX3 rfl (by decide) rfl (Nat.le_of_ble_eq_true rfl) kf_X3_148 rfl (by decide +kernel) rfl rfl (ks_crashes _) dX3_crash_56 ?_
  refine kg_iload_n cx dX3_crash_59 rfl ?_
  exact kg_ireturn cx hr (rfl) _ rfl (⟨rfl, rfl⟩) dX3_crash_60
end
section
/-- the reference's cells. Fields as ClockPool's; 20 refusal, 21 frames, 22 isUndone, 23 number -/
def kr (rd : Nat → Nat) (c : Nat → ClassId) (u : kS) : va_W := [
  (rd 0, .inr (4, [.int (u 20 0 0), .int (u 21 0 0), .ref (rd 1), .ref (rd 2), .ref (rd 3), .ref (rd 4), .ref (rd 5), .ref (rd 6), .ref (rd 7), .ref (rd 8), .int (u 6 0 0), .int (u 14 0 0), .int (u 15 0 0), .ref (rd 9), .ref (rd 10), .ref (rd 11), .ref (rd 12), .ref (rd 13), .ref (rd 14), .ref (rd 15), .ref (rd 16), .ref (rd 17), .ref (rd 18), .int (u 7 0 0), .int (u 8 0 0), .int (u 18 0 0), .int (u 19 0 0)])),
  (rd 1, .inl (c 0, 256, .inl (fun j => u 0 (j / 8) (j % 8)))),
  (rd 2, .inl (c 0, 32, .inl (fun j => u 0 j 8))),
  (rd 3, .inl (c 0, 8, .inl (fun j => u 1 j 0))),
  (rd 4, .inl (c 0, 64, .inl (fun j => u 23 (j / 8) (j % 8)))),
  (rd 5, .inl (c 0, 8, .inl (fun j => u 5 j 8))),
  (rd 6, .inl (c 0, 8, .inl (fun j => u 2 j 0))),
  (rd 7, .inl (c 1, 8, .inl (fun j => u 3 j 0))),
  (rd 8, .inl (c 1, 8, .inl (fun j => u 4 j 0))),
  (rd 9, .inl (c 0, 401, .inl (fun j => u 9 j 0))),
  (rd 10, .inl (c 0, 401, .inl (fun j => u 9 j 1))),
  (rd 11, .inl (c 0, 401, .inl (fun j => u 9 j 2))),
  (rd 12, .inl (c 0, 401, .inl (fun j => u 9 j 3))),
  (rd 13, .inl (c 0, 401, .inl (fun j => u 9 j 4))),
  (rd 14, .inl (c 0, 401, .inl (fun j => u 9 j 5))),
  (rd 15, .inl (c 0, 401, .inl (fun j => u 9 j 6))),
  (rd 16, .inl (c 1, 401, .inl (fun j => u 22 j 0))),
  (rd 17, .inl (c 1, 8, .inl (fun j => u 16 j 0))),
  (rd 18, .inl (c 1, 8, .inl (fun j => u 17 j 0)))]
section KR
variable {rd : Nat → Nat} {c : Nat → ClassId} {u : kS}
theorem kr_adr (u v : kS) : (kr rd c u).map Prod.fst = (kr rd c v).map Prod.fst := by simp [kr]
theorem kq_refusal (x : Int32) : (kr rd c u).set 0 (rd 0, .inr (4, [.int x, .int (u 21 0 0), .ref (rd 1), .ref (rd 2), .ref (rd 3), .ref (rd 4), .ref (rd 5), .ref (rd 6), .ref (rd 7), .ref (rd 8), .int (u 6 0 0), .int (u 14 0 0), .int (u 15 0 0), .ref (rd 9), .ref (rd 10), .ref (rd 11), .ref (rd 12), .ref (rd 13), .ref (rd 14), .ref (rd 15), .ref (rd 16), .ref (rd 17), .ref (rd 18), .int (u 7 0 0), .int (u 8 0 0), .int (u 18 0 0), .int (u 19 0 0)])) = kr rd c (ku u 20 0 0 x) := by simp [kr, ku]
theorem kq_hand (x : Int32) : (kr rd c u).set 0 (rd 0, .inr (4, [.int (u 20 0 0), .int (u 21 0 0), .ref (rd 1), .ref (rd 2), .ref (rd 3), .ref (rd 4), .ref (rd 5), .ref (rd 6), .ref (rd 7), .ref (rd 8), .int x, .int (u 14 0 0), .int (u 15 0 0), .ref (rd 9), .ref (rd 10), .ref (rd 11), .ref (rd 12), .ref (rd 13), .ref (rd 14), .ref (rd 15), .ref (rd 16), .ref (rd 17), .ref (rd 18), .int (u 7 0 0), .int (u 8 0 0), .int (u 18 0 0), .int (u 19 0 0)])) = kr rd c (ku u 6 0 0 x) := by simp [kr, ku]
theorem kq_records (x : Int32) : (kr rd c u).set 0 (rd 0, .inr (4, [.int (u 20 0 0), .int (u 21 0 0), .ref (rd 1), .ref (rd 2), .ref (rd 3), .ref (rd 4), .ref (rd 5), .ref (rd 6), .ref (rd 7), .ref (rd 8), .int (u 6 0 0), .int x, .int (u 15 0 0), .ref (rd 9), .ref (rd 10), .ref (rd 11), .ref (rd 12), .ref (rd 13), .ref (rd 14), .ref (rd 15), .ref (rd 16), .ref (rd 17), .ref (rd 18), .int (u 7 0 0), .int (u 8 0 0), .int (u 18 0 0), .int (u 19 0 0)])) = kr rd c (ku u 14 0 0 x) := by simp [kr, ku]
theorem kq_flushed (x : Int32) : (kr rd c u).set 0 (rd 0, .inr (4, [.int (u 20 0 0), .int (u 21 0 0), .ref (rd 1), .ref (rd 2), .ref (rd 3), .ref (rd 4), .ref (rd 5), .ref (rd 6), .ref (rd 7), .ref (rd 8), .int (u 6 0 0), .int (u 14 0 0), .int x, .ref (rd 9), .ref (rd 10), .ref (rd 11), .ref (rd 12), .ref (rd 13), .ref (rd 14), .ref (rd 15), .ref (rd 16), .ref (rd 17), .ref (rd 18), .int (u 7 0 0), .int (u 8 0 0), .int (u 18 0 0), .int (u 19 0 0)])) = kr rd c (ku u 15 0 0 x) := by simp [kr, ku]
theorem kq_written (x : Int32) : (kr rd c u).set 0 (rd 0, .inr (4, [.int (u 20 0 0), .int (u 21 0 0), .ref (rd 1), .ref (rd 2), .ref (rd 3), .ref (rd 4), .ref (rd 5), .ref (rd 6), .ref (rd 7), .ref (rd 8), .int (u 6 0 0), .int (u 14 0 0), .int (u 15 0 0), .ref (rd 9), .ref (rd 10), .ref (rd 11), .ref (rd 12), .ref (rd 13), .ref (rd 14), .ref (rd 15), .ref (rd 16), .ref (rd 17), .ref (rd 18), .int x, .int (u 8 0 0), .int (u 18 0 0), .int (u 19 0 0)])) = kr rd c (ku u 7 0 0 x) := by simp [kr, ku]
theorem kq_come (x : Int32) : (kr rd c u).set 0 (rd 0, .inr (4, [.int (u 20 0 0), .int (u 21 0 0), .ref (rd 1), .ref (rd 2), .ref (rd 3), .ref (rd 4), .ref (rd 5), .ref (rd 6), .ref (rd 7), .ref (rd 8), .int (u 6 0 0), .int (u 14 0 0), .int (u 15 0 0), .ref (rd 9), .ref (rd 10), .ref (rd 11), .ref (rd 12), .ref (rd 13), .ref (rd 14), .ref (rd 15), .ref (rd 16), .ref (rd 17), .ref (rd 18), .int (u 7 0 0), .int x, .int (u 18 0 0), .int (u 19 0 0)])) = kr rd c (ku u 8 0 0 x) := by simp [kr, ku]
theorem kq_crashes (x : Int32) : (kr rd c u).set 0 (rd 0, .inr (4, [.int (u 20 0 0), .int (u 21 0 0), .ref (rd 1), .ref (rd 2), .ref (rd 3), .ref (rd 4), .ref (rd 5), .ref (rd 6), .ref (rd 7), .ref (rd 8), .int (u 6 0 0), .int (u 14 0 0), .int (u 15 0 0), .ref (rd 9), .ref (rd 10), .ref (rd 11), .ref (rd 12), .ref (rd 13), .ref (rd 14), .ref (rd 15), .ref (rd 16), .ref (rd 17), .ref (rd 18), .int (u 7 0 0), .int (u 8 0 0), .int x, .int (u 19 0 0)])) = kr rd c (ku u 18 0 0 x) := by simp [kr, ku]
theorem kq_undone (x : Int32) : (kr rd c u).set 0 (rd 0, .inr (4, [.int (u 20 0 0), .int (u 21 0 0), .ref (rd 1), .ref (rd 2), .ref (rd 3), .ref (rd 4), .ref (rd 5), .ref (rd 6), .ref (rd 7), .ref (rd 8), .int (u 6 0 0), .int (u 14 0 0), .int (u 15 0 0), .ref (rd 9), .ref (rd 10), .ref (rd 11), .ref (rd 12), .ref (rd 13), .ref (rd 14), .ref (rd 15), .ref (rd 16), .ref (rd 17), .ref (rd 18), .int (u 7 0 0), .int (u 8 0 0), .int (u 18 0 0), .int x])) = kr rd c (ku u 19 0 0 x) := by simp [kr, ku]
theorem kq_disk (i k : Nat) (hk : k < 8) (x : Int32) : (kr rd c u).set 1 (rd 1, .inl (c 0, 256, .inl (upd (fun j => u 0 (j / 8) (j % 8)) (8 * i + k) x))) = kr rd c (ku u 0 i k x) := by
  have e : upd (fun j => u 0 (j / 8) (j % 8)) (8 * i + k) x = fun j => ku u 0 i k x 0 (j / 8) (j % 8) := by
    funext j
    by_cases h : j = 8 * i + k
    · have h1 : j / 8 = i := by omega
      have h2 : j % 8 = k := by omega
      simp [upd, ku, h1, h2, h]
      intro h3
      omega
    · have h1 : ¬ (j / 8 = i ∧ j % 8 = k) := by omega
      simp [upd, ku, h, h1]
  rw [e]
  have e2 : (fun j => ku u 0 i k x 0 j 8) = fun j => u 0 j 8 := by
    funext j
    simp [ku]
    try omega
  have h8 : ¬ 8 = k := by omega
  simp [kr, ku, h8]
theorem kq_diskLsn (i : Nat) (x : Int32) : (kr rd c u).set 2 (rd 2, .inl (c 0, 32, .inl (upd (fun j => u 0 j 8) i x))) = kr rd c (ku u 0 i 8 x) := by
  have e : (fun j : Nat => ku u 0 i 8 x 0 (j / 8) (j % 8)) = fun j => u 0 (j / 8) (j % 8) := by
    funext j
    have h9 : ¬ j % 8 = 8 := by omega
    simp [ku, h9]
  have e2 : upd (fun j => u 0 j 8) i x = fun j => ku u 0 i 8 x 0 j 8 := by
    funext j
    simp [upd, ku]
  unfold kr
  rw [e, e2]
  simp [ku]
theorem kq_held (i : Nat) (x : Int32) : (kr rd c u).set 3 (rd 3, .inl (c 0, 8, .inl (upd (fun j => u 1 j 0) i x))) = kr rd c (ku u 1 i 0 x) := by
  simp [kr, ku]
  rfl
theorem kq_number (i k : Nat) (hk : k < 8) (x : Int32) : (kr rd c u).set 4 (rd 4, .inl (c 0, 64, .inl (upd (fun j => u 23 (j / 8) (j % 8)) (8 * i + k) x))) = kr rd c (ku u 23 i k x) := by
  have e : upd (fun j => u 23 (j / 8) (j % 8)) (8 * i + k) x = fun j => ku u 23 i k x 23 (j / 8) (j % 8) := by
    funext j
    by_cases h : j = 8 * i + k
    · have h1 : j / 8 = i := by omega
      have h2 : j % 8 = k := by omega
      simp [upd, ku, h1, h2, h]
      intro h3
      omega
    · have h1 : ¬ (j / 8 = i ∧ j % 8 = k) := by omega
      simp [upd, ku, h, h1]
  rw [e]
  have e2 : (fun j => ku u 23 i k x 0 j 8) = fun j => u 0 j 8 := by
    funext j
    simp [ku]
    try omega
  have h8 : ¬ 8 = k := by omega
  simp [kr, ku, h8]
theorem kq_frameLsn (i : Nat) (x : Int32) : (kr rd c u).set 5 (rd 5, .inl (c 0, 8, .inl (upd (fun j => u 5 j 8) i x))) = kr rd c (ku u 5 i 8 x) := by
  simp [kr, ku]
  rfl
theorem kq_pins (i : Nat) (x : Int32) : (kr rd c u).set 6 (rd 6, .inl (c 0, 8, .inl (upd (fun j => u 2 j 0) i x))) = kr rd c (ku u 2 i 0 x) := by
  simp [kr, ku]
  rfl
theorem kq_isDirty (i : Nat) (x : Int32) : (kr rd c u).set 7 (rd 7, .inl (c 1, 8, .inl (upd (fun j => u 3 j 0) i x))) = kr rd c (ku u 3 i 0 x) := by
  simp [kr, ku]
  rfl
theorem kq_isMarked (i : Nat) (x : Int32) : (kr rd c u).set 8 (rd 8, .inl (c 1, 8, .inl (upd (fun j => u 4 j 0) i x))) = kr rd c (ku u 4 i 0 x) := by
  simp [kr, ku]
  rfl
theorem kq_kind (i : Nat) (x : Int32) : (kr rd c u).set 9 (rd 9, .inl (c 0, 401, .inl (upd (fun j => u 9 j 0) i x))) = kr rd c (ku u 9 i 0 x) := by
  simp [kr, ku]
  rfl
theorem kq_of (i : Nat) (x : Int32) : (kr rd c u).set 10 (rd 10, .inl (c 0, 401, .inl (upd (fun j => u 9 j 1) i x))) = kr rd c (ku u 9 i 1 x) := by
  simp [kr, ku]
  rfl
theorem kq_page (i : Nat) (x : Int32) : (kr rd c u).set 11 (rd 11, .inl (c 0, 401, .inl (upd (fun j => u 9 j 2) i x))) = kr rd c (ku u 9 i 2 x) := by
  simp [kr, ku]
  rfl
theorem kq_which (i : Nat) (x : Int32) : (kr rd c u).set 12 (rd 12, .inl (c 0, 401, .inl (upd (fun j => u 9 j 3) i x))) = kr rd c (ku u 9 i 3 x) := by
  simp [kr, ku]
  rfl
theorem kq_was (i : Nat) (x : Int32) : (kr rd c u).set 13 (rd 13, .inl (c 0, 401, .inl (upd (fun j => u 9 j 4) i x))) = kr rd c (ku u 9 i 4 x) := by
  simp [kr, ku]
  rfl
theorem kq_becomes (i : Nat) (x : Int32) : (kr rd c u).set 14 (rd 14, .inl (c 0, 401, .inl (upd (fun j => u 9 j 5) i x))) = kr rd c (ku u 9 i 5 x) := by
  simp [kr, ku]
  rfl
theorem kq_undoes (i : Nat) (x : Int32) : (kr rd c u).set 15 (rd 15, .inl (c 0, 401, .inl (upd (fun j => u 9 j 6) i x))) = kr rd c (ku u 9 i 6 x) := by
  simp [kr, ku]
  rfl
theorem kq_isUndone (i : Nat) (x : Int32) : (kr rd c u).set 16 (rd 16, .inl (c 1, 401, .inl (upd (fun j => u 22 j 0) i x))) = kr rd c (ku u 22 i 0 x) := by
  simp [kr, ku]
  rfl
theorem kq_isActive (i : Nat) (x : Int32) : (kr rd c u).set 17 (rd 17, .inl (c 1, 8, .inl (upd (fun j => u 16 j 0) i x))) = kr rd c (ku u 16 i 0 x) := by
  simp [kr, ku]
  rfl
theorem kq_isLeaving (i : Nat) (x : Int32) : (kr rd c u).set 18 (rd 18, .inl (c 1, 8, .inl (upd (fun j => u 17 j 0) i x))) = kr rd c (ku u 17 i 0 x) := by
  simp [kr, ku]
  rfl
end KR
/-- a contract over the reference's cells -/
abbrev kR (l : Launch) (D : va_G) (c : Nat → ClassId) (rd : Nat → Nat) (y : MethodName) (cd : Cond) (fr lc : Nat) (u : kS) (av : List Value) (post : Option Value → kS → Prop) : Prop := kc l y cd fr lc D (kty c) (kr rd c u) av (kr rd c) post
abbrev kgR (p : Program) (l : Launch) (e : Env) (fr lc : Nat) (s : State) (m : MethodId) (args : Array Value) (below : List Frame) (meth : Method) (c9 : Code) (nL : Nat) (D : va_G) (c : Nat → ClassId) (rd : Nat → Nat) (u0 : kS) (post : Option Value → kS → Prop) (u : kS) (pc : Nat) (lo : List (Option Value)) (st : List Value) : Prop :=
  kg p l e (kc_rm fr lc) s m args below meth c9 nL D (va_A (kr rd c u0) s.heap.size) (MQ below (kc_Q (kr rd c) D post (va_A (kr rd c u0) s.heap.size)) args s 0 0 (va_A (kr rd c u0) s.heap.size)) 0 0 (kr rd c u) pc lo st
theorem kR.mk {l : Launch} {D : va_G} {c : Nat → ClassId} {rd : Nat → Nat} {y : MethodName} {cc : ByteArray} {nL fr lc : Nat} {ret : Option FieldType} {u : kS} {av : List Value} {post : Option Value → kS → Prop} (hy : plainName y.cls = true) (hav : ∀ v ∈ av, v.category = 1) (hlen : av.length ≤ nL)
    (body : ∀ (p : Program) (e : Env) (s : State) (m : MethodId) (args : Array Value) (below : List Frame) (meth : Method) (c9 : Code), kg_c p s m args meth c9 cc nL y.cls D (kty c) (va_A (kr rd c u) s.heap.size) → meth.sig.returnType = ret → kgR p l e fr lc s m args below meth c9 nL D c rd u post u 0 (kg_in av nL) []) :
    kR l D c rd y (Cond.code y cc nL ret) fr lc u av post := kc.mk hy hav hlen body
end
section
set_option maxHeartbeats 4000000 in
set_option maxRecDepth 100000 in
theorem r_thrown (l : Launch) (D : va_G) (c : Nat → ClassId) (rd : Nat → Nat) (u : kS) : kR l D c rd yX4_thrown (Cond.code yX4_thrown cX4_thrown 1 (some .int)) 0 0 u [.ref (rd 0)] (fun v u9 => v = some (.int (u 20 0 0)) ∧ u9 = u) := by
  refine kR.mk (by decide) (by simp [Value.category]) (Nat.le_of_ble_eq_true rfl) ?_
  intro p e s m args below meth c9 cx hr
  refine kg_aload_n cx dX4_thrown_0 rfl ?_
  refine kg_get (ci := 4) cx 0 0 kfs_X4 rfl (by decide) rfl rfl kf_X4_69 dX4_thrown_1 ?_
  exact kg_ireturn cx hr (rfl) _ rfl (⟨rfl, rfl⟩) dX4_thrown_4
set_option maxHeartbeats 4000000 in
set_option maxRecDepth 100000 in
theorem r_refused (l : Launch) (D : va_G) (c : Nat → ClassId) (rd : Nat → Nat) (u : kS) (x : Int32) : kR l D c rd yX4_refused (Cond.code yX4_refused cX4_refused 2 (some .boolean)) 0 0 u [.ref (rd 0), .int x] (fun v u9 => v = some (.int (kb (0 < x))) ∧ u9 = ku u 20 0 0 x) := by
  refine kR.mk (by decide) (by simp [Value.category]) (Nat.le_of_ble_eq_true rfl) ?_
  intro p e s m args below meth c9 cx hr
  refine kg_aload_n cx dX4_refused_0 rfl ?_
  refine kg_iload_n cx dX4_refused_1 rfl ?_
  refine kg_put (ci := 4) (ty := .int) cx 0 0 kfs_X4 tyX4 tyX4_ok nmX4 rfl (by decide) rfl (Nat.le_of_ble_eq_true rfl) kf_X4_69 rfl (by decide +kernel) rfl rfl (kq_refusal _) dX4_refused_2 ?_
  refine kg_iload_n cx dX4_refused_5 rfl ?_
  refine kg_if_le cx 13 dX4_refused_6 (by decide) (fun h1 => ?_) (fun h1 => ?_)
  · refine kg_iconst (v := 0) cx dX4_refused_13 (by decide) ?_
    refine kg_top (kb (0 < x)) (kb_0 (fun q => absurd q (Int32.not_lt.mpr h1))).symm ?_
    exact kg_ireturn cx hr (kb_nar _) _ rfl (⟨rfl, rfl⟩) dX4_refused_14
  · refine kg_iconst (v := 1) cx dX4_refused_9 (by decide) ?_
    refine kg_goto cx 14 dX4_refused_10 (by decide) ?_
    refine kg_top (kb (0 < x)) (kb_1 (Int32.not_le.mp h1)).symm ?_
    exact kg_ireturn cx hr (kb_nar _) _ rfl (⟨rfl, rfl⟩) dX4_refused_14
set_option maxHeartbeats 4000000 in
set_option maxRecDepth 100000 in
theorem r_isIn (l : Launch) (D : va_G) (c : Nat → ClassId) (rd : Nat → Nat) (u : kS) (x a b : Int32) : kR l D c rd yX4_isIn (Cond.code yX4_isIn cX4_isIn 3 (some .boolean)) 0 0 u [.int x, .int a, .int b] (fun v u9 => v = some (.int (kb (a ≤ x ∧ x ≤ b))) ∧ u9 = u) := by
  refine kR.mk (by decide) (by simp [Value.category]) (Nat.le_of_ble_eq_true rfl) ?_
  intro p e s m args below meth c9 cx hr
  refine kg_iload_n cx dX4_isIn_0 rfl ?_
  refine kg_iload_n cx dX4_isIn_1 rfl ?_
  refine kg_icmp_lt cx 14 dX4_isIn_2 (by decide) (fun h1 => ?_) (fun h1 => ?_)
  · refine kg_iconst (v := 0) cx dX4_isIn_14 (by decide) ?_
    refine kg_top (kb (a ≤ x ∧ x ≤ b)) (kb_0 (fun q => absurd h1 (Int32.not_lt.mpr q.1))).symm ?_
    exact kg_ireturn cx hr (kb_nar _) _ rfl (⟨rfl, rfl⟩) dX4_isIn_15
  · refine kg_iload_n cx dX4_isIn_5 rfl ?_
    refine kg_iload_n cx dX4_isIn_6 rfl ?_
    refine kg_icmp_gt cx 14 dX4_isIn_7 (by decide) (fun h2 => ?_) (fun h2 => ?_)
    · refine kg_iconst (v := 0) cx dX4_isIn_14 (by decide) ?_
      refine kg_top (kb (a ≤ x ∧ x ≤ b)) (kb_0 (fun q => absurd h2 (Int32.not_lt.mpr q.2))).symm ?_
      exact kg_ireturn cx hr (kb_nar _) _ rfl (⟨rfl, rfl⟩) dX4_isIn_15
    · refine kg_iconst (v := 1) cx dX4_isIn_10 (by decide) ?_
      refine kg_goto cx 15 dX4_isIn_11 (by decide) ?_
      refine kg_top (kb (a ≤ x ∧ x ≤ b)) (kb_1 (⟨Int32.not_lt.mp h1, Int32.not_lt.mp h2⟩)).symm ?_
      exact kg_ireturn cx hr (kb_nar _) _ rfl (⟨rfl, rfl⟩) dX4_isIn_15
set_option maxHeartbeats 4000000 in
set_option maxRecDepth 100000 in
theorem r_frameOf (l : Launch) (D : va_G) (c : Nat → ClassId) (rd : Nat → Nat) (n : Nat) (u : kS) (pg : Int32) (hn : n ≤ 8) (hF : u 21 0 0 = nI n) : kR l D c rd yX4_frameOf (Cond.code yX4_frameOf cX4_frameOf 3 (some .int)) 0 0 u [.ref (rd 0), .int pg] (fun v u9 => (∃ r, v = some (.int r) ∧ kFind u n pg r) ∧ u9 = u) := by
  refine kR.mk (by decide) (by simp [Value.category]) (Nat.le_of_ble_eq_true rfl) ?_
  intro p e s m args below meth c9 cx hr
  refine kg_iconst (v := 0) cx dX4_frameOf_0 (by decide) ?_
  refine kg_istore_n cx dX4_frameOf_1 (by decide) ?_
  have loop : ∀ (k i : Nat), n - i = k → i ≤ n → (∀ j, j < i → u 1 j 0 ≠ pg) → kgR p l e 0 0 s m args below meth c9 3 D c rd u (fun v u9 => (∃ r, v = some (.int r) ∧ kFind u n pg r) ∧ u9 = u) u 2 [some (.ref (rd 0)), some (.int pg), some (.int (nI i))] [] := by
    intro k
    induction k with
    | zero =>
      intro i hk hi hj
      have e8 : i = n := by omega
      subst i
      refine kg_iload_n cx dX4_frameOf_2 rfl ?_
      refine kg_aload_n cx dX4_frameOf_3 rfl ?_
      refine kg_get (ci := 4) cx 0 1 kfs_X4 rfl (by decide) rfl rfl kf_X4_65 dX4_frameOf_4 ?_
      refine kg_top (nI n) (hF) ?_
      refine kg_icmp_ge cx 28 dX4_frameOf_7 (by decide) (fun h1 => ?_) (fun h1 => ?_)
      · refine kg_iconst (v := (-1)) cx dX4_frameOf_28 (by decide) ?_
        exact kg_ireturn cx hr (rfl) _ rfl (⟨⟨_, rfl, Or.inr ⟨rfl, hj⟩⟩, rfl⟩) dX4_frameOf_29
      · exact absurd (Int32.le_refl _) h1
    | succ k ih =>
      intro i hk hi hj
      have hin : i < n := by omega
      refine kg_iload_n cx dX4_frameOf_2 rfl ?_
      refine kg_aload_n cx dX4_frameOf_3 rfl ?_
      refine kg_get (ci := 4) cx 0 1 kfs_X4 rfl (by decide) rfl rfl kf_X4_65 dX4_frameOf_4 ?_
      refine kg_top (nI n) (hF) ?_
      refine kg_icmp_ge cx 28 dX4_frameOf_7 (by decide) (fun h1 => ?_) (fun h1 => ?_)
      · exact absurd h1 (nI_ge hin (by omega))
      · refine kg_aload_n cx dX4_frameOf_10 rfl ?_
        refine kg_get (ci := 4) cx 0 4 kfs_X4 rfl (by decide) rfl rfl kf_X4_16 dX4_frameOf_11 ?_
        refine kg_iload_n cx dX4_frameOf_14 rfl ?_
        refine kg_ialdN cx 3 0 i rfl rfl (rfl) (by omega) (by decide) (rfl) dX4_frameOf_15 ?_
        refine kg_iload_n cx dX4_frameOf_16 rfl ?_
        refine kg_icmp_ne cx 22 dX4_frameOf_17 (by decide) (fun h2 => ?_) (fun h2 => ?_)
        · refine kg_iinc (v := nI (i + 1)) cx dX4_frameOf_22 rfl (nI_1 i) (by decide) ?_
          refine kg_goto cx 2 dX4_frameOf_25 (by decide) ?_
          refine ih (i + 1) (by omega) (by omega) (fun j hj9 => ?_)
          by_cases e9 : j = i
          · rw [e9]; exact h2
          · exact hj j (by omega)
        · refine kg_iload_n cx dX4_frameOf_20 rfl ?_
          exact kg_ireturn cx hr (rfl) _ rfl (⟨⟨_, rfl, Or.inl ⟨i, hin, rfl, h2, hj⟩⟩, rfl⟩) dX4_frameOf_21
  exact loop n 0 rfl (Nat.zero_le _) (fun j h => absurd h (Nat.not_lt_zero _))
set_option maxHeartbeats 4000000 in
set_option maxRecDepth 100000 in
theorem r_mayGo (l : Launch) (D : va_G) (c : Nat → ClassId) (rd : Nat → Nat) (u : kS) (f : Nat) (hf : f < 8) : kR l D c rd yX4_mayGo (Cond.code yX4_mayGo cX4_mayGo 2 (some .boolean)) 0 0 u [.ref (rd 0), .int (nI f)] (fun v u9 => v = some (.int (kb (kMay u f (u 15 0 0)))) ∧ u9 = u) := by
  refine kR.mk (by decide) (by simp [Value.category]) (Nat.le_of_ble_eq_true rfl) ?_
  intro p e s m args below meth c9 cx hr
  refine kg_aload_n cx dX4_mayGo_0 rfl ?_
  refine kg_get (ci := 4) cx 0 7 kfs_X4 rfl (by decide) rfl rfl kf_X4_25 dX4_mayGo_1 ?_
  refine kg_iload_n cx dX4_mayGo_4 rfl ?_
  refine kg_ialdN cx 6 0 f rfl rfl (rfl) (hf) (by decide) (rfl) dX4_mayGo_5 ?_
  refine kg_if_ne cx 35 dX4_mayGo_6 (by decide) (fun h1 => ?_) (fun h1 => ?_)
  · refine kg_iconst (v := 0) cx dX4_mayGo_35 (by decide) ?_
    refine kg_top (kb (kMay u f (u 15 0 0))) (kb_0 (fun q => h1 q.1)).symm ?_
    exact kg_ireturn cx hr (kb_nar _) _ rfl (⟨rfl, rfl⟩) dX4_mayGo_36
  · refine kg_aload_n cx dX4_mayGo_9 rfl ?_
    refine kg_get (ci := 4) cx 0 8 kfs_X4 rfl (by decide) rfl rfl kf_X4_28 dX4_mayGo_10 ?_
    refine kg_iload_n cx dX4_mayGo_13 rfl ?_
    refine kg_zaldN cx 7 1 f rfl rfl (rfl) (hf) (by decide) (rfl) dX4_mayGo_14 ?_
    refine kg_if_eq cx 31 dX4_mayGo_15 (by decide) (fun h2 => ?_) (fun h2 => ?_)
    · refine kg_iconst (v := 1) cx dX4_mayGo_31 (by decide) ?_
      refine kg_goto cx 36 dX4_mayGo_32 (by decide) ?_
      refine kg_top (kb (kMay u f (u 15 0 0))) (kb_1 (⟨h1, Or.inl h2⟩)).symm ?_
      exact kg_ireturn cx hr (kb_nar _) _ rfl (⟨rfl, rfl⟩) dX4_mayGo_36
    · refine kg_aload_n cx dX4_mayGo_18 rfl ?_
      refine kg_get (ci := 4) cx 0 6 kfs_X4 rfl (by decide) rfl rfl kf_X4_22 dX4_mayGo_19 ?_
      refine kg_iload_n cx dX4_mayGo_22 rfl ?_
      refine kg_ialdN cx 5 0 f rfl rfl (rfl) (hf) (by decide) (rfl) dX4_mayGo_23 ?_
      refine kg_aload_n cx dX4_mayGo_24 rfl ?_
      refine kg_get (ci := 4) cx 0 12 kfs_X4 rfl (by decide) rfl rfl kf_X4_72 dX4_mayGo_25 ?_
      refine kg_icmp_gt cx 35 dX4_mayGo_28 (by decide) (fun h3 => ?_) (fun h3 => ?_)
      · refine kg_iconst (v := 0) cx dX4_mayGo_35 (by decide) ?_
        refine kg_top (kb (kMay u f (u 15 0 0))) (kb_0 (fun q => q.2.elim h2 (fun q => absurd h3 (Int32.not_lt.mpr q)))).symm ?_
        exact kg_ireturn cx hr (kb_nar _) _ rfl (⟨rfl, rfl⟩) dX4_mayGo_36
      · refine kg_iconst (v := 1) cx dX4_mayGo_31 (by decide) ?_
        refine kg_goto cx 36 dX4_mayGo_32 (by decide) ?_
        refine kg_top (kb (kMay u f (u 15 0 0))) (kb_1 (⟨h1, Or.inr (Int32.not_lt.mp h3)⟩)).symm ?_
        exact kg_ireturn cx hr (kb_nar _) _ rfl (⟨rfl, rfl⟩) dX4_mayGo_36
/-- the first k numbers of the frame f are laid on the page q -/
def kcR (u : kS) (q f k : Nat) : kS := fun F i j => if F = 0 ∧ i = q ∧ j < k then u 23 f j else u F i j
theorem kcR_0 (u : kS) (q f : Nat) : kcR u q f 0 = u := by funext F i j; simp [kcR]
theorem kcR_s (u : kS) (q f k : Nat) : ku (kcR u q f k) 0 q k (u 23 f k) = kcR u q f (k + 1) := by
  funext F i j
  by_cases h1 : F = 0
  · subst h1
    by_cases h2 : i = q
    · subst h2
      by_cases h3 : j = k
      · simp [ku, kcR, h3]
      · by_cases h4 : j < k
        · simp [ku, kcR, h3, h4, Nat.lt_succ_of_lt h4]
        · simp [ku, kcR, h3, h4, show ¬ j < k + 1 by omega]
    · simp [ku, kcR, h2]
  · simp [ku, kcR, h1]
/-- the frame f is written to the page q, by the reference -/
def kBackR (u : kS) (f q : Nat) : kS := ku (ku (ku (kcR u q f 8) 0 q 8 (u 5 f 8)) 3 f 0 0) 7 0 0 (u 7 0 0 + 1)
set_option maxHeartbeats 4000000 in
set_option maxRecDepth 100000 in
theorem r_write (l : Launch) (D : va_G) (c : Nat → ClassId) (rd : Nat → Nat) (u : kS) (f q : Nat) (hf : f < 8) (hq : q < 32) (hQ : u 1 f 0 = nI q) : kR l D c rd yX4_write (Cond.code yX4_write cX4_write 3 none) 0 0 u [.ref (rd 0), .int (nI f)] (fun v u9 => v = none ∧ u9 = kBackR u f q) := by
  refine kR.mk (by decide) (by simp [Value.category]) (Nat.le_of_ble_eq_true rfl) ?_
  intro p e s m args below meth c9 cx hr
  refine kg_iconst (v := 0) cx dX4_write_0 (by decide) ?_
  refine kg_istore_n cx dX4_write_1 (by decide) ?_
  have loop : ∀ (k i : Nat), 8 - i = k → i ≤ 8 → kgR p l e 0 0 s m args below meth c9 3 D c rd u (fun v u9 => v = none ∧ u9 = kBackR u f q) (kcR u q f i) 2 [some (.ref (rd 0)), some (.int (nI f)), some (.int (nI i))] [] := by
    intro k
    induction k with
    | zero =>
      intro i hk hi
      have e8 : i = 8 := by omega
      subst i
      refine kg_iload_n cx dX4_write_2 rfl ?_
      refine kg_bipush (v := (nI 8)) cx dX4_write_3 (by decide) ?_
      refine kg_icmp_ge cx 41 dX4_write_5 (by decide) (fun h1 => ?_) (fun h1 => ?_)
      · refine kg_aload_n cx dX4_write_41 rfl ?_
        refine kg_get (ci := 4) cx 0 3 kfs_X4 rfl (by decide) rfl rfl kf_X4_13 dX4_write_42 ?_
        refine kg_aload_n cx dX4_write_45 rfl ?_
        refine kg_get (ci := 4) cx 0 4 kfs_X4 rfl (by decide) rfl rfl kf_X4_16 dX4_write_46 ?_
        refine kg_iload_n cx dX4_write_49 rfl ?_
        refine kg_ialdN (v := (nI q)) cx 3 0 f rfl rfl (rfl) (hf) (by decide) (by simp [kcR]; exact hQ) dX4_write_50 ?_
        refine kg_aload_n cx dX4_write_51 rfl ?_
        refine kg_get (ci := 4) cx 0 6 kfs_X4 rfl (by decide) rfl rfl kf_X4_22 dX4_write_52 ?_
        refine kg_iload_n cx dX4_write_55 rfl ?_
        refine kg_ialdN (v := (u 5 f 8)) cx 5 0 f rfl rfl (rfl) (hf) (by decide) (by simp [kcR]) dX4_write_56 ?_
        refine kg_iastN cx 2 0 q rfl rfl (rfl) (hq) (by decide) (kq_diskLsn q _) dX4_write_57 ?_
        refine kg_aload_n cx dX4_write_58 rfl ?_
        refine kg_get (ci := 4) cx 0 8 kfs_X4 rfl (by decide) rfl rfl kf_X4_28 dX4_write_59 ?_
        refine kg_iload_n cx dX4_write_62 rfl ?_
        refine kg_iconst (v := 0) cx dX4_write_63 (by decide) ?_
        refine kg_zastN cx 7 1 f rfl rfl (rfl) (hf) (by decide) (by decide) (kq_isDirty f _) dX4_write_64 ?_
        refine kg_aload_n cx dX4_write_65 rfl ?_
        refine kg_dup cx dX4_write_66 rfl ?_
        refine kg_get (ci := 4) cx 0 23 kfs_X4 rfl (by decide) rfl rfl kf_X4_75 dX4_write_67 ?_
        refine kg_top (u 7 0 0) (by simp [ku, kcR]) ?_
        refine kg_iconst (v := 1) cx dX4_write_70 (by decide) ?_
        refine kg_iadd cx dX4_write_71 ?_
        refine kg_put (ci := 4) (ty := .int) cx 0 23 kfs_X4 tyX4 tyX4_ok nmX4 rfl (by decide) rfl (Nat.le_of_ble_eq_true rfl) kf_X4_75 rfl (by decide +kernel) rfl rfl (kq_written _) dX4_write_72 ?_
        exact kg_return cx hr _ rfl (⟨rfl, rfl⟩) dX4_write_75
      · exact absurd (Int32.le_refl _) h1
    | succ k ih =>
      intro i hk hi
      have hin : i < 8 := by omega
      refine kg_iload_n cx dX4_write_2 rfl ?_
      refine kg_bipush (v := (nI 8)) cx dX4_write_3 (by decide) ?_
      refine kg_icmp_ge cx 41 dX4_write_5 (by decide) (fun h1 => ?_) (fun h1 => ?_)
      · exact absurd h1 (nI_ge hin (by omega))
      · refine kg_aload_n cx dX4_write_8 rfl ?_
        refine kg_get (ci := 4) cx 0 2 kfs_X4 rfl (by decide) rfl rfl kf_X4_7 dX4_write_9 ?_
        refine kg_bipush (v := (nI 8)) cx dX4_write_12 (by decide) ?_
        refine kg_aload_n cx dX4_write_14 rfl ?_
        refine kg_get (ci := 4) cx 0 4 kfs_X4 rfl (by decide) rfl rfl kf_X4_16 dX4_write_15 ?_
        refine kg_iload_n cx dX4_write_18 rfl ?_
        refine kg_ialdN (v := (nI q)) cx 3 0 f rfl rfl (rfl) (hf) (by decide) (by simp [kcR]; exact hQ) dX4_write_19 ?_
        refine kg_imul cx dX4_write_20 ?_
        refine kg_top (nI (8 * q)) (pk_mul 8 q) ?_
        refine kg_iload_n cx dX4_write_21 rfl ?_
        refine kg_iadd cx dX4_write_22 ?_
        refine kg_top (nI (8 * q + i)) (nI_add _ _) ?_
        refine kg_aload_n cx dX4_write_23 rfl ?_
        refine kg_get (ci := 4) cx 0 5 kfs_X4 rfl (by decide) rfl rfl kf_X4_19 dX4_write_24 ?_
        refine kg_bipush (v := (nI 8)) cx dX4_write_27 (by decide) ?_
        refine kg_iload_n cx dX4_write_29 rfl ?_
        refine kg_imul cx dX4_write_30 ?_
        refine kg_top (nI (8 * f)) (pk_mul 8 f) ?_
        refine kg_iload_n cx dX4_write_31 rfl ?_
        refine kg_iadd cx dX4_write_32 ?_
        refine kg_top (nI (8 * f + i)) (nI_add _ _) ?_
        refine kg_ialdN (v := (u 23 f i)) cx 4 0 (8 * f + i) rfl rfl (rfl) (by omega) (by decide) (by show kcR u q f i 23 ((8 * f + i) / 8) ((8 * f + i) % 8) = u 23 f i; rw [show (8 * f + i) / 8 = f by omega, show (8 * f + i) % 8 = i by omega]; simp [kcR]) dX4_write_33 ?_
        refine kg_iastN cx 1 0 (8 * q + i) rfl rfl (rfl) (by omega) (by decide) (kq_disk q i hin _) dX4_write_34 ?_
        refine kg_iinc (v := nI (i + 1)) cx dX4_write_35 rfl (nI_1 i) (by decide) ?_
        refine kg_goto cx 2 dX4_write_38 (by decide) ?_
        have := ih (i + 1) (by omega) (by omega)
        rw [← kcR_s u q f i] at this
        exact this
  have := loop 8 0 rfl (by decide)
  rw [kcR_0] at this
  exact this
end
section
/-- a record behind the last one, as the reference lays it -/
def kRec (u : kS) (z : Nat) (k0 t1 : Int32) : kS := ku (kApp u (z + 1) k0 t1 (-1) (-1) (-1) (-1) (-1)) 22 (z + 1) 0 0
/-- .. an UNDO of the record i, where the number is x now -/
def kTell (u : kS) (i z : Nat) (x : Int32) : kS := ku (ku (ku (ku (ku (ku (kRec u z 1 (u 9 i 1)) 9 (z + 1) 2 (u 9 i 2)) 9 (z + 1) 3 (u 9 i 3)) 9 (z + 1) 4 x) 9 (z + 1) 5 (u 9 i 4)) 9 (z + 1) 6 (nI i)) 22 i 0 1
set_option maxHeartbeats 4000000 in
set_option maxRecDepth 100000 in
theorem r_record (l : Launch) (D : va_G) (c : Nat → ClassId) (rd : Nat → Nat) (u : kS) (k0 t1 : Int32) (z : Nat) (hs : u 14 0 0 = nI z) (hz : z < 400) : kR l D c rd yX4_record (Cond.code yX4_record cX4_record 3 (some .int)) 0 0 u [.ref (rd 0), .int k0, .int t1] (fun v u9 => v = some (.int (nI (z + 1))) ∧ u9 = kRec u z k0 t1) := by
  refine kR.mk (by decide) (by simp [Value.category]) (Nat.le_of_ble_eq_true rfl) ?_
  intro p e s m args below meth c9 cx hr
  refine kg_aload_n cx dX4_record_0 rfl ?_
  refine kg_dup cx dX4_record_1 rfl ?_
  refine kg_get (ci := 4) cx 0 11 kfs_X4 rfl (by decide) rfl rfl kf_X4_113 dX4_record_2 ?_
  refine kg_iconst (v := 1) cx dX4_record_5 (by decide) ?_
  refine kg_iadd cx dX4_record_6 ?_
  refine kg_top (nI (z + 1)) (by rw [hs]; exact nI_1 z) ?_
  refine kg_put (ci := 4) (ty := .int) cx 0 11 kfs_X4 tyX4 tyX4_ok nmX4 rfl (by decide) rfl (Nat.le_of_ble_eq_true rfl) kf_X4_113 rfl (by decide +kernel) rfl rfl (kq_records _) dX4_record_7 ?_
  refine kg_aload_n cx dX4_record_10 rfl ?_
  refine kg_get (ci := 4) cx 0 13 kfs_X4 rfl (by decide) rfl rfl kf_X4_35 dX4_record_11 ?_
  refine kg_aload_n cx dX4_record_14 rfl ?_
  refine kg_get (ci := 4) cx 0 11 kfs_X4 rfl (by decide) rfl rfl kf_X4_113 dX4_record_15 ?_
  refine kg_top (nI (z + 1)) (by simp [ku]) ?_
  refine kg_iload_n cx dX4_record_18 rfl ?_
  refine kg_iastN cx 9 0 (z + 1) rfl rfl (rfl) (by omega) (by decide) (kq_kind (z + 1) _) dX4_record_19 ?_
  refine kg_aload_n cx dX4_record_20 rfl ?_
  refine kg_get (ci := 4) cx 0 14 kfs_X4 rfl (by decide) rfl rfl kf_X4_38 dX4_record_21 ?_
  refine kg_aload_n cx dX4_record_24 rfl ?_
  refine kg_get (ci := 4) cx 0 11 kfs_X4 rfl (by decide) rfl rfl kf_X4_113 dX4_record_25 ?_
  refine kg_top (nI (z + 1)) (by simp [ku]) ?_
  refine kg_iload_n cx dX4_record_28 rfl ?_
  refine kg_iastN cx 10 0 (z + 1) rfl rfl (rfl) (by omega) (by decide) (kq_of (z + 1) _) dX4_record_29 ?_
  refine kg_aload_n cx dX4_record_30 rfl ?_
  refine kg_get (ci := 4) cx 0 15 kfs_X4 rfl (by decide) rfl rfl kf_X4_41 dX4_record_31 ?_
  refine kg_aload_n cx dX4_record_34 rfl ?_
  refine kg_get (ci := 4) cx 0 11 kfs_X4 rfl (by decide) rfl rfl kf_X4_113 dX4_record_35 ?_
  refine kg_top (nI (z + 1)) (by simp [ku]) ?_
  refine kg_iconst (v := (-1)) cx dX4_record_38 (by decide) ?_
  refine kg_iastN cx 11 0 (z + 1) rfl rfl (rfl) (by omega) (by decide) (kq_page (z + 1) _) dX4_record_39 ?_
  refine kg_aload_n cx dX4_record_40 rfl ?_
  refine kg_get (ci := 4) cx 0 16 kfs_X4 rfl (by decide) rfl rfl kf_X4_44 dX4_record_41 ?_
  refine kg_aload_n cx dX4_record_44 rfl ?_
  refine kg_get (ci := 4) cx 0 11 kfs_X4 rfl (by decide) rfl rfl kf_X4_113 dX4_record_45 ?_
  refine kg_top (nI (z + 1)) (by simp [ku]) ?_
  refine kg_iconst (v := (-1)) cx dX4_record_48 (by decide) ?_
  refine kg_iastN cx 12 0 (z + 1) rfl rfl (rfl) (by omega) (by decide) (kq_which (z + 1) _) dX4_record_49 ?_
  refine kg_aload_n cx dX4_record_50 rfl ?_
  refine kg_get (ci := 4) cx 0 17 kfs_X4 rfl (by decide) rfl rfl kf_X4_47 dX4_record_51 ?_
  refine kg_aload_n cx dX4_record_54 rfl ?_
  refine kg_get (ci := 4) cx 0 11 kfs_X4 rfl (by decide) rfl rfl kf_X4_113 dX4_record_55 ?_
  refine kg_top (nI (z + 1)) (by simp [ku]) ?_
  refine kg_iconst (v := (-1)) cx dX4_record_58 (by decide) ?_
  refine kg_iastN cx 13 0 (z + 1) rfl rfl (rfl) (by omega) (by decide) (kq_was (z + 1) _) dX4_record_59 ?_
  refine kg_aload_n cx dX4_record_60 rfl ?_
  refine kg_get (ci := 4) cx 0 18 kfs_X4 rfl (by decide) rfl rfl kf_X4_50 dX4_record_61 ?_
  refine kg_aload_n cx dX4_record_64 rfl ?_
  refine kg_get (ci := 4) cx 0 11 kfs_X4 rfl (by decide) rfl rfl kf_X4_113 dX4_record_65 ?_
  refine kg_top (nI (z + 1)) (by simp [ku]) ?_
  refine kg_iconst (v := (-1)) cx dX4_record_68 (by decide) ?_
  refine kg_iastN cx 14 0 (z + 1) rfl rfl (rfl) (by omega) (by decide) (kq_becomes (z + 1) _) dX4_record_69 ?_
  refine kg_aload_n cx dX4_record_70 rfl ?_
  refine kg_get (ci := 4) cx 0 19 kfs_X4 rfl (by decide) rfl rfl kf_X4_53 dX4_record_71 ?_
  refine kg_aload_n cx dX4_record_74 rfl ?_
  refine kg_get (ci := 4) cx 0 11 kfs_X4 rfl (by decide) rfl rfl kf_X4_113 dX4_record_75 ?_
  refine kg_top (nI (z + 1)) (by simp [ku]) ?_
  refine kg_iconst (v := (-1)) cx dX4_record_78 (by decide) ?_
  refine kg_iastN cx 15 0 (z + 1) rfl rfl (rfl) (by omega) (by decide) (kq_undoes (z + 1) _) dX4_record_79 ?_
  refine kg_aload_n cx dX4_record_80 rfl ?_
  refine kg_get (ci := 4) cx 0 20 kfs_X4 rfl (by decide) rfl rfl kf_X4_56 dX4_record_81 ?_
  refine kg_aload_n cx dX4_record_84 rfl ?_
  refine kg_get (ci := 4) cx 0 11 kfs_X4 rfl (by decide) rfl rfl kf_X4_113 dX4_record_85 ?_
  refine kg_top (nI (z + 1)) (by simp [ku]) ?_
  refine kg_iconst (v := 0) cx dX4_record_88 (by decide) ?_
  refine kg_zastN cx 16 1 (z + 1) rfl rfl (rfl) (by omega) (by decide) (by decide) (kq_isUndone (z + 1) _) dX4_record_89 ?_
  refine kg_aload_n cx dX4_record_90 rfl ?_
  refine kg_get (ci := 4) cx 0 11 kfs_X4 rfl (by decide) rfl rfl kf_X4_113 dX4_record_91 ?_
  refine kg_top (nI (z + 1)) (by simp [ku]) ?_
  exact kg_ireturn cx hr (rfl) _ rfl (⟨rfl, rfl⟩) dX4_record_94
set_option maxHeartbeats 4000000 in
set_option maxRecDepth 100000 in
theorem r_tellUndo (l : Launch) (D : va_G) (c : Nat → ClassId) (rd : Nat → Nat) (u : kS) (i : Nat) (x : Int32) (z : Nat) (hs : u 14 0 0 = nI z) (hz : z < 400) (hi : i ≤ z) : kR l D c rd yX4_tellUndo (Cond.code yX4_tellUndo cX4_tellUndo 4 (some .int)) 1 22 u [.ref (rd 0), .int (nI i), .int x] (fun v u9 => v = some (.int (nI (z + 1))) ∧ u9 = kTell u i z x) := by
  refine kR.mk (by decide) (by simp [Value.category]) (Nat.le_of_ble_eq_true rfl) ?_
  intro p e s m args below meth c9 cx hr
  refine kg_aload_n cx dX4_tellUndo_0 rfl ?_
  refine kg_iconst (v := 1) cx dX4_tellUndo_1 (by decide) ?_
  refine kg_aload_n cx dX4_tellUndo_2 rfl ?_
  refine kg_get (ci := 4) cx 0 14 kfs_X4 rfl (by decide) rfl rfl kf_X4_38 dX4_tellUndo_3 ?_
  refine kg_iload_n cx dX4_tellUndo_6 rfl ?_
  refine kg_ialdN cx 10 0 i rfl rfl (rfl) (by omega) (by decide) (rfl) dX4_tellUndo_7 ?_
  refine kg_callV (ci := 4) (na := 2) cx (r_record l D c rd u 1 (u 9 i 1) z hs hz) 0 rfl rfl kcd_X4_record km_X4_122 kin_X4 kim_X4_record ksl_X4_record (by decide +kernel) rfl (by decide) (by decide) rfl (Nat.le_of_ble_eq_true rfl) dX4_tellUndo_8 (fun _ => kr_adr _ _) (fun v9 u9 h9 => ?_)
  obtain ⟨rfl, h9⟩ := h9
  subst u9
  refine kg_istore_n cx dX4_tellUndo_11 (by decide) ?_
  refine kg_aload_n cx dX4_tellUndo_12 rfl ?_
  refine kg_get (ci := 4) cx 0 15 kfs_X4 rfl (by decide) rfl rfl kf_X4_41 dX4_tellUndo_13 ?_
  refine kg_iload_n cx dX4_tellUndo_16 rfl ?_
  refine kg_aload_n cx dX4_tellUndo_17 rfl ?_
  refine kg_get (ci := 4) cx 0 15 kfs_X4 rfl (by decide) rfl rfl kf_X4_41 dX4_tellUndo_18 ?_
  refine kg_iload_n cx dX4_tellUndo_21 rfl ?_
  refine kg_ialdN (v := (u 9 i 2)) cx 11 0 i rfl rfl (rfl) (by omega) (by decide) (by simp [kRec, kApp, ku, show i ≠ z + 1 by omega]) dX4_tellUndo_22 ?_
  refine kg_iastN cx 11 0 (z + 1) rfl rfl (rfl) (by omega) (by decide) (kq_page (z + 1) _) dX4_tellUndo_23 ?_
  refine kg_aload_n cx dX4_tellUndo_24 rfl ?_
  refine kg_get (ci := 4) cx 0 16 kfs_X4 rfl (by decide) rfl rfl kf_X4_44 dX4_tellUndo_25 ?_
  refine kg_iload_n cx dX4_tellUndo_28 rfl ?_
  refine kg_aload_n cx dX4_tellUndo_29 rfl ?_
  refine kg_get (ci := 4) cx 0 16 kfs_X4 rfl (by decide) rfl rfl kf_X4_44 dX4_tellUndo_30 ?_
  refine kg_iload_n cx dX4_tellUndo_33 rfl ?_
  refine kg_ialdN (v := (u 9 i 3)) cx 12 0 i rfl rfl (rfl) (by omega) (by decide) (by simp [kRec, kApp, ku, show i ≠ z + 1 by omega]) dX4_tellUndo_34 ?_
  refine kg_iastN cx 12 0 (z + 1) rfl rfl (rfl) (by omega) (by decide) (kq_which (z + 1) _) dX4_tellUndo_35 ?_
  refine kg_aload_n cx dX4_tellUndo_36 rfl ?_
  refine kg_get (ci := 4) cx 0 17 kfs_X4 rfl (by decide) rfl rfl kf_X4_47 dX4_tellUndo_37 ?_
  refine kg_iload_n cx dX4_tellUndo_40 rfl ?_
  refine kg_iload_n cx dX4_tellUndo_41 rfl ?_
  refine kg_iastN cx 13 0 (z + 1) rfl rfl (rfl) (by omega) (by decide) (kq_was (z + 1) _) dX4_tellUndo_42 ?_
  refine kg_aload_n cx dX4_tellUndo_43 rfl ?_
  refine kg_get (ci := 4) cx 0 18 kfs_X4 rfl (by decide) rfl rfl kf_X4_50 dX4_tellUndo_44 ?_
  refine kg_iload_n cx dX4_tellUndo_47 rfl ?_
  refine kg_aload_n cx dX4_tellUndo_48 rfl ?_
  refine kg_get (ci := 4) cx 0 17 kfs_X4 rfl (by decide) rfl rfl kf_X4_47 dX4_tellUndo_49 ?_
  refine kg_iload_n cx dX4_tellUndo_52 rfl ?_
  refine kg_ialdN (v := (u 9 i 4)) cx 13 0 i rfl rfl (rfl) (by omega) (by decide) (by simp [kRec, kApp, ku, show i ≠ z + 1 by omega]) dX4_tellUndo_53 ?_
  refine kg_iastN cx 14 0 (z + 1) rfl rfl (rfl) (by omega) (by decide) (kq_becomes (z + 1) _) dX4_tellUndo_54 ?_
  refine kg_aload_n cx dX4_tellUndo_55 rfl ?_
  refine kg_get (ci := 4) cx 0 19 kfs_X4 rfl (by decide) rfl rfl kf_X4_53 dX4_tellUndo_56 ?_
  refine kg_iload_n cx dX4_tellUndo_59 rfl ?_
  refine kg_iload_n cx dX4_tellUndo_60 rfl ?_
  refine kg_iastN cx 15 0 (z + 1) rfl rfl (rfl) (by omega) (by decide) (kq_undoes (z + 1) _) dX4_tellUndo_61 ?_
  refine kg_aload_n cx dX4_tellUndo_62 rfl ?_
  refine kg_get (ci := 4) cx 0 20 kfs_X4 rfl (by decide) rfl rfl kf_X4_56 dX4_tellUndo_63 ?_
  refine kg_iload_n cx dX4_tellUndo_66 rfl ?_
  refine kg_iconst (v := 1) cx dX4_tellUndo_67 (by decide) ?_
  refine kg_zastN cx 16 1 i rfl rfl (rfl) (by omega) (by decide) (by decide) (kq_isUndone i _) dX4_tellUndo_68 ?_
  refine kg_iload_n cx dX4_tellUndo_69 rfl ?_
  exact kg_ireturn cx hr (rfl) _ rfl (⟨rfl, rfl⟩) dX4_tellUndo_70
/-- the page pg is in the frame f, with pins (as the reference asks) -/
def kPinR (u : kS) (n : Nat) (pg : Int32) (f : Nat) : Prop := f < n ∧ u 1 f 0 = pg ∧ (∀ j, j < f → u 1 j 0 ≠ pg) ∧ 0 < u 2 f 0
theorem kLeast_eq {u : kS} {pg : Int32} {f g : Nat} (h1 : u 1 f 0 = pg) (h2 : ∀ j, j < f → u 1 j 0 ≠ pg) (h3 : u 1 g 0 = pg) (h4 : ∀ j, j < g → u 1 j 0 ≠ pg) : g = f := by
  rcases Nat.lt_trichotomy g f with q | q | q
  · exact absurd h3 (h2 g q)
  · exact q
  · exact absurd h1 (h4 f q)
set_option maxHeartbeats 4000000 in
set_option maxRecDepth 100000 in
theorem r_isPinned (l : Launch) (D : va_G) (c : Nat → ClassId) (rd : Nat → Nat) (n : Nat) (u : kS) (pg : Int32) (hn : n ≤ 8) (hF : u 21 0 0 = nI n) : kR l D c rd yX4_isPinned (Cond.code yX4_isPinned cX4_isPinned 3 (some .boolean)) 1 22 u [.ref (rd 0), .int pg] (fun v u9 => (((∃ f, kPinR u n pg f) ∧ v = some (.int 1)) ∨ ((¬ ∃ f, kPinR u n pg f) ∧ v = some (.int 0))) ∧ u9 = u) := by
  refine kR.mk (by decide) (by simp [Value.category]) (Nat.le_of_ble_eq_true rfl) ?_
  intro p e s m args below meth c9 cx hr
  refine kg_aload_n cx dX4_isPinned_0 rfl ?_
  refine kg_iload_n cx dX4_isPinned_1 rfl ?_
  refine kg_callV (ci := 4) (na := 1) cx (r_frameOf l D c rd n u pg hn hF) 0 rfl rfl kcd_X4_frameOf km_X4_89 kin_X4 kim_X4_frameOf ksl_X4_frameOf (by decide +kernel) rfl (by decide) (by decide) rfl (Nat.le_of_ble_eq_true rfl) dX4_isPinned_2 (fun _ => kr_adr _ _) (fun v9 u9 h9 => ?_)
  obtain ⟨⟨r9, rfl, hr9⟩, h9⟩ := h9
  subst u9
  rcases hr9 with ⟨f, hf, rfl, hpf, hlf⟩ | ⟨rfl, hno⟩
  · refine kg_istore_n cx dX4_isPinned_5 (by decide) ?_
    refine kg_iload_n cx dX4_isPinned_6 rfl ?_
    refine kg_if_lt cx 23 dX4_isPinned_7 (by decide) (fun h1 => ?_) (fun h1 => ?_)
    · exact absurd h1 (nI_pos (by omega))
    · refine kg_aload_n cx dX4_isPinned_10 rfl ?_
      refine kg_get (ci := 4) cx 0 7 kfs_X4 rfl (by decide) rfl rfl kf_X4_25 dX4_isPinned_11 ?_
      refine kg_iload_n cx dX4_isPinned_14 rfl ?_
      refine kg_ialdN cx 6 0 f rfl rfl (rfl) (by omega) (by decide) (rfl) dX4_isPinned_15 ?_
      refine kg_if_le cx 23 dX4_isPinned_16 (by decide) (fun h2 => ?_) (fun h2 => ?_)
      · refine kg_iconst (v := 0) cx dX4_isPinned_23 (by decide) ?_
        exact kg_ireturn cx hr (nar_0) _ rfl (⟨Or.inr ⟨fun ⟨g, g1, g2, g3, g4⟩ => by
            have e := kLeast_eq hpf hlf g2 g3
            subst e
            exact absurd g4 (Int32.not_lt.mpr h2), rfl⟩, rfl⟩) dX4_isPinned_24
      · refine kg_iconst (v := 1) cx dX4_isPinned_19 (by decide) ?_
        refine kg_goto cx 24 dX4_isPinned_20 (by decide) ?_
        exact kg_ireturn cx hr (nar_1) _ rfl (⟨Or.inl ⟨⟨f, hf, hpf, hlf, Int32.not_le.mp h2⟩, rfl⟩, rfl⟩) dX4_isPinned_24
  · refine kg_istore_n cx dX4_isPinned_5 (by decide) ?_
    refine kg_iload_n cx dX4_isPinned_6 rfl ?_
    refine kg_if_lt cx 23 dX4_isPinned_7 (by decide) (fun h1 => ?_) (fun h1 => ?_)
    · refine kg_iconst (v := 0) cx dX4_isPinned_23 (by decide) ?_
      exact kg_ireturn cx hr (nar_0) _ rfl (⟨Or.inr ⟨fun ⟨g, g1, g2, g3, g4⟩ => hno g g1 g2, rfl⟩, rfl⟩) dX4_isPinned_24
    · exact absurd (by decide) h1
/-- record i ends the transaction t; or is an UPDATE of it that is not undone -/
abbrev kFin (u : kS) (t : Int32) (i : Nat) : Prop := u 9 i 1 = t ∧ (u 9 i 0 = nI 2 ∨ u 9 i 0 = nI 3)
abbrev kUpd (u : kS) (t : Int32) (i : Nat) : Prop := u 9 i 1 = t ∧ u 9 i 0 = 0 ∧ u 22 i 0 = 0
def kLast (u : kS) (t : Int32) : Nat → Nat
  | 0 => 0
  | i + 1 => if kFin u t (i + 1) then 0 else if kUpd u t (i + 1) then i + 1 else kLast u t i
def kUof (u : kS) (t : Int32) : Nat → Nat → Nat
  | 0, d => d
  | i + 1, d => if kFin u t (i + 1) then d else kUof u t i (if kUpd u t (i + 1) then d + 1 else d)
def kNeed (u : kS) (z : Nat) : Nat → Nat
  | 0 => 0
  | t + 1 => if u 16 t 0 = 0 then kNeed u z t else kNeed u z t + 1 + kUof u (nI t) z 0
set_option maxHeartbeats 4000000 in
set_option maxRecDepth 100000 in
theorem r_lastOf (l : Launch) (D : va_G) (c : Nat → ClassId) (rd : Nat → Nat) (u : kS) (t : Int32) (z : Nat) (hs : u 14 0 0 = nI z) (hz : z ≤ 400) : kR l D c rd yX4_lastOf (Cond.code yX4_lastOf cX4_lastOf 3 (some .int)) 0 0 u [.ref (rd 0), .int t] (fun v u9 => v = some (.int (nI (kLast u t z))) ∧ u9 = u) := by
  refine kR.mk (by decide) (by simp [Value.category]) (Nat.le_of_ble_eq_true rfl) ?_
  intro p e s m args below meth c9 cx hr
  refine kg_aload_n cx dX4_lastOf_0 rfl ?_
  refine kg_get (ci := 4) cx 0 11 kfs_X4 rfl (by decide) rfl rfl kf_X4_113 dX4_lastOf_1 ?_
  refine kg_top (nI z) (hs) ?_
  refine kg_istore_n cx dX4_lastOf_4 (by decide) ?_
  have loop : ∀ (k : Nat), k ≤ z → kLast u t z = kLast u t k → kgR p l e 0 0 s m args below meth c9 3 D c rd u (fun v u9 => v = some (.int (nI (kLast u t z))) ∧ u9 = u) u 5 [some (.ref (rd 0)), some (.int t), some (.int (nI k))] [] := by
    intro k
    induction k with
    | zero =>
      intro hi he
      refine kg_iload_n cx dX4_lastOf_5 rfl ?_
      refine kg_if_le cx 77 dX4_lastOf_6 (by decide) (fun h1 => ?_) (fun h1 => ?_)
      · refine kg_iconst (v := 0) cx dX4_lastOf_77 (by decide) ?_
        exact kg_ireturn cx hr (rfl) _ rfl (⟨by rw [he]; rfl, rfl⟩) dX4_lastOf_78
      · exact absurd (Int32.le_refl _) h1
    | succ k ih =>
      intro hi he
      refine kg_iload_n cx dX4_lastOf_5 rfl ?_
      refine kg_if_le cx 77 dX4_lastOf_6 (by decide) (fun h1 => ?_) (fun h1 => ?_)
      · exact absurd h1 (nI_nle (by omega) (by omega))
      · refine kg_aload_n cx dX4_lastOf_9 rfl ?_
        refine kg_get (ci := 4) cx 0 14 kfs_X4 rfl (by decide) rfl rfl kf_X4_38 dX4_lastOf_10 ?_
        refine kg_iload_n cx dX4_lastOf_13 rfl ?_
        refine kg_ialdN cx 10 0 (k + 1) rfl rfl (rfl) (by omega) (by decide) (rfl) dX4_lastOf_14 ?_
        refine kg_iload_n cx dX4_lastOf_15 rfl ?_
        refine kg_icmp_ne cx 41 dX4_lastOf_16 (by decide) (fun h2 => ?_) (fun h2 => ?_)
        · refine kg_aload_n cx dX4_lastOf_41 rfl ?_
          refine kg_get (ci := 4) cx 0 14 kfs_X4 rfl (by decide) rfl rfl kf_X4_38 dX4_lastOf_42 ?_
          refine kg_iload_n cx dX4_lastOf_45 rfl ?_
          refine kg_ialdN cx 10 0 (k + 1) rfl rfl (rfl) (by omega) (by decide) (rfl) dX4_lastOf_46 ?_
          refine kg_iload_n cx dX4_lastOf_47 rfl ?_
          refine kg_icmp_ne cx 71 dX4_lastOf_48 (by decide) (fun h4 => ?_) (fun h4 => ?_)
          · refine kg_iinc (v := nI k) cx dX4_lastOf_71 rfl (pk_m1 k) (by decide) ?_
            refine kg_goto cx 5 dX4_lastOf_74 (by decide) ?_
            exact ih (by omega) (by rw [he]; show (if _ then _ else _) = _; rw [if_neg (fun q => h2 q.1), if_neg (fun q => h4 q.1)])
          · refine kg_aload_n cx dX4_lastOf_51 rfl ?_
            refine kg_get (ci := 4) cx 0 13 kfs_X4 rfl (by decide) rfl rfl kf_X4_35 dX4_lastOf_52 ?_
            refine kg_iload_n cx dX4_lastOf_55 rfl ?_
            refine kg_ialdN cx 9 0 (k + 1) rfl rfl (rfl) (by omega) (by decide) (rfl) dX4_lastOf_56 ?_
            refine kg_if_ne cx 71 dX4_lastOf_57 (by decide) (fun h5 => ?_) (fun h5 => ?_)
            · refine kg_iinc (v := nI k) cx dX4_lastOf_71 rfl (pk_m1 k) (by decide) ?_
              refine kg_goto cx 5 dX4_lastOf_74 (by decide) ?_
              exact ih (by omega) (by rw [he]; show (if _ then _ else _) = _; rw [if_neg (fun q => h2 q.1), if_neg (fun q => h5 q.2.1)])
            · refine kg_aload_n cx dX4_lastOf_60 rfl ?_
              refine kg_get (ci := 4) cx 0 20 kfs_X4 rfl (by decide) rfl rfl kf_X4_56 dX4_lastOf_61 ?_
              refine kg_iload_n cx dX4_lastOf_64 rfl ?_
              refine kg_zaldN cx 16 1 (k + 1) rfl rfl (rfl) (by omega) (by decide) (rfl) dX4_lastOf_65 ?_
              refine kg_if_ne cx 71 dX4_lastOf_66 (by decide) (fun h6 => ?_) (fun h6 => ?_)
              · refine kg_iinc (v := nI k) cx dX4_lastOf_71 rfl (pk_m1 k) (by decide) ?_
                refine kg_goto cx 5 dX4_lastOf_74 (by decide) ?_
                exact ih (by omega) (by rw [he]; show (if _ then _ else _) = _; rw [if_neg (fun q => h2 q.1), if_neg (fun q => h6 q.2.2)])
              · refine kg_iload_n cx dX4_lastOf_69 rfl ?_
                exact kg_ireturn cx hr (rfl) _ rfl (⟨by rw [he]; show _ = some (Value.int (nI (if _ then _ else _))); rw [if_neg (fun q => h2 q.1), if_pos ⟨h4, h5, h6⟩], rfl⟩) dX4_lastOf_70
        · refine kg_aload_n cx dX4_lastOf_19 rfl ?_
          refine kg_get (ci := 4) cx 0 13 kfs_X4 rfl (by decide) rfl rfl kf_X4_35 dX4_lastOf_20 ?_
          refine kg_iload_n cx dX4_lastOf_23 rfl ?_
          refine kg_ialdN cx 9 0 (k + 1) rfl rfl (rfl) (by omega) (by decide) (rfl) dX4_lastOf_24 ?_
          refine kg_iconst (v := (nI 2)) cx dX4_lastOf_25 (by decide) ?_
          refine kg_icmp_eq cx 39 dX4_lastOf_26 (by decide) (fun h3 => ?_) (fun h3 => ?_)
          · refine kg_iconst (v := 0) cx dX4_lastOf_39 (by decide) ?_
            exact kg_ireturn cx hr (rfl) _ rfl (⟨by rw [he]; show some (Value.int (nI 0)) = some (Value.int (nI (if _ then _ else _))); rw [if_pos (⟨h2, Or.inl h3⟩)], rfl⟩) dX4_lastOf_40
          · refine kg_aload_n cx dX4_lastOf_29 rfl ?_
            refine kg_get (ci := 4) cx 0 13 kfs_X4 rfl (by decide) rfl rfl kf_X4_35 dX4_lastOf_30 ?_
            refine kg_iload_n cx dX4_lastOf_33 rfl ?_
            refine kg_ialdN cx 9 0 (k + 1) rfl rfl (rfl) (by omega) (by decide) (rfl) dX4_lastOf_34 ?_
            refine kg_iconst (v := (nI 3)) cx dX4_lastOf_35 (by decide) ?_
            refine kg_icmp_ne cx 41 dX4_lastOf_36 (by decide) (fun h7 => ?_) (fun h7 => ?_)
            · refine kg_aload_n cx dX4_lastOf_41 rfl ?_
              refine kg_get (ci := 4) cx 0 14 kfs_X4 rfl (by decide) rfl rfl kf_X4_38 dX4_lastOf_42 ?_
              refine kg_iload_n cx dX4_lastOf_45 rfl ?_
              refine kg_ialdN cx 10 0 (k + 1) rfl rfl (rfl) (by omega) (by decide) (rfl) dX4_lastOf_46 ?_
              refine kg_iload_n cx dX4_lastOf_47 rfl ?_
              refine kg_icmp_ne cx 71 dX4_lastOf_48 (by decide) (fun h4 => ?_) (fun h4 => ?_)
              · refine kg_iinc (v := nI k) cx dX4_lastOf_71 rfl (pk_m1 k) (by decide) ?_
                refine kg_goto cx 5 dX4_lastOf_74 (by decide) ?_
                exact ih (by omega) (by rw [he]; show (if _ then _ else _) = _; rw [if_neg (fun q => q.2.elim h3 h7), if_neg (fun q => h4 q.1)])
              · refine kg_aload_n cx dX4_lastOf_51 rfl ?_
                refine kg_get (ci := 4) cx 0 13 kfs_X4 rfl (by decide) rfl rfl kf_X4_35 dX4_lastOf_52 ?_
                refine kg_iload_n cx dX4_lastOf_55 rfl ?_
                refine kg_ialdN cx 9 0 (k + 1) rfl rfl (rfl) (by omega) (by decide) (rfl) dX4_lastOf_56 ?_
                refine kg_if_ne cx 71 dX4_lastOf_57 (by decide) (fun h5 => ?_) (fun h5 => ?_)
                · refine kg_iinc (v := nI k) cx dX4_lastOf_71 rfl (pk_m1 k) (by decide) ?_
                  refine kg_goto cx 5 dX4_lastOf_74 (by decide) ?_
                  exact ih (by omega) (by rw [he]; show (if _ then _ else _) = _; rw [if_neg (fun q => q.2.elim h3 h7), if_neg (fun q => h5 q.2.1)])
                · refine kg_aload_n cx dX4_lastOf_60 rfl ?_
                  refine kg_get (ci := 4) cx 0 20 kfs_X4 rfl (by decide) rfl rfl kf_X4_56 dX4_lastOf_61 ?_
                  refine kg_iload_n cx dX4_lastOf_64 rfl ?_
                  refine kg_zaldN cx 16 1 (k + 1) rfl rfl (rfl) (by omega) (by decide) (rfl) dX4_lastOf_65 ?_
                  refine kg_if_ne cx 71 dX4_lastOf_66 (by decide) (fun h6 => ?_) (fun h6 => ?_)
                  · refine kg_iinc (v := nI k) cx dX4_lastOf_71 rfl (pk_m1 k) (by decide) ?_
                    refine kg_goto cx 5 dX4_lastOf_74 (by decide) ?_
                    exact ih (by omega) (by rw [he]; show (if _ then _ else _) = _; rw [if_neg (fun q => q.2.elim h3 h7), if_neg (fun q => h6 q.2.2)])
                  · refine kg_iload_n cx dX4_lastOf_69 rfl ?_
                    exact kg_ireturn cx hr (rfl) _ rfl (⟨by rw [he]; show _ = some (Value.int (nI (if _ then _ else _))); rw [if_neg (fun q => q.2.elim h3 h7), if_pos ⟨h4, h5, h6⟩], rfl⟩) dX4_lastOf_70
            · refine kg_iconst (v := 0) cx dX4_lastOf_39 (by decide) ?_
              exact kg_ireturn cx hr (rfl) _ rfl (⟨by rw [he]; show some (Value.int (nI 0)) = some (Value.int (nI (if _ then _ else _))); rw [if_pos (⟨h2, Or.inr h7⟩)], rfl⟩) dX4_lastOf_40
  exact loop z (Nat.le_refl _) rfl
set_option maxHeartbeats 4000000 in
set_option maxRecDepth 100000 in
theorem r_undosOf (l : Launch) (D : va_G) (c : Nat → ClassId) (rd : Nat → Nat) (u : kS) (t : Int32) (z : Nat) (hs : u 14 0 0 = nI z) (hz : z ≤ 400) : kR l D c rd yX4_undosOf (Cond.code yX4_undosOf cX4_undosOf 4 (some .int)) 0 0 u [.ref (rd 0), .int t] (fun v u9 => v = some (.int (nI (kUof u t z 0))) ∧ u9 = u) := by
  refine kR.mk (by decide) (by simp [Value.category]) (Nat.le_of_ble_eq_true rfl) ?_
  intro p e s m args below meth c9 cx hr
  refine kg_iconst (v := 0) cx dX4_undosOf_0 (by decide) ?_
  refine kg_istore_n cx dX4_undosOf_1 (by decide) ?_
  refine kg_aload_n cx dX4_undosOf_2 rfl ?_
  refine kg_get (ci := 4) cx 0 11 kfs_X4 rfl (by decide) rfl rfl kf_X4_113 dX4_undosOf_3 ?_
  refine kg_top (nI z) (hs) ?_
  refine kg_istore_n cx dX4_undosOf_6 (by decide) ?_
  have loop : ∀ (k d : Nat), k ≤ z → kUof u t z 0 = kUof u t k d → kgR p l e 0 0 s m args below meth c9 4 D c rd u (fun v u9 => v = some (.int (nI (kUof u t z 0))) ∧ u9 = u) u 7 [some (.ref (rd 0)), some (.int t), some (.int (nI d)), some (.int (nI k))] [] := by
    intro k
    induction k with
    | zero =>
      intro d hi he
      refine kg_iload_n cx dX4_undosOf_7 rfl ?_
      refine kg_if_le cx 85 dX4_undosOf_8 (by decide) (fun h1 => ?_) (fun h1 => ?_)
      · refine kg_iload_n cx dX4_undosOf_85 rfl ?_
        exact kg_ireturn cx hr (rfl) _ rfl (⟨by rw [he]; rfl, rfl⟩) dX4_undosOf_86
      · exact absurd (Int32.le_refl _) h1
    | succ k ih =>
      intro d hi he
      refine kg_iload_n cx dX4_undosOf_7 rfl ?_
      refine kg_if_le cx 85 dX4_undosOf_8 (by decide) (fun h1 => ?_) (fun h1 => ?_)
      · exact absurd h1 (nI_nle (by omega) (by omega))
      · refine kg_aload_n cx dX4_undosOf_11 rfl ?_
        refine kg_get (ci := 4) cx 0 14 kfs_X4 rfl (by decide) rfl rfl kf_X4_38 dX4_undosOf_12 ?_
        refine kg_iload_n cx dX4_undosOf_15 rfl ?_
        refine kg_ialdN cx 10 0 (k + 1) rfl rfl (rfl) (by omega) (by decide) (rfl) dX4_undosOf_16 ?_
        refine kg_iload_n cx dX4_undosOf_17 rfl ?_
        refine kg_icmp_ne cx 43 dX4_undosOf_18 (by decide) (fun h2 => ?_) (fun h2 => ?_)
        · refine kg_aload_n cx dX4_undosOf_43 rfl ?_
          refine kg_get (ci := 4) cx 0 14 kfs_X4 rfl (by decide) rfl rfl kf_X4_38 dX4_undosOf_44 ?_
          refine kg_iload_n cx dX4_undosOf_47 rfl ?_
          refine kg_ialdN cx 10 0 (k + 1) rfl rfl (rfl) (by omega) (by decide) (rfl) dX4_undosOf_48 ?_
          refine kg_iload_n cx dX4_undosOf_49 rfl ?_
          refine kg_icmp_ne cx 77 dX4_undosOf_50 (by decide) (fun h4 => ?_) (fun h4 => ?_)
          · refine kg_iload_n cx dX4_undosOf_77 rfl ?_
            refine kg_istore_n cx dX4_undosOf_78 (by decide) ?_
            refine kg_iinc (v := nI k) cx dX4_undosOf_79 rfl (pk_m1 k) (by decide) ?_
            refine kg_goto cx 7 dX4_undosOf_82 (by decide) ?_
            exact ih d (by omega) (by rw [he]; show (if _ then _ else _) = _; rw [if_neg (fun q => h2 q.1), if_neg (fun q => h4 q.1)])
          · refine kg_aload_n cx dX4_undosOf_53 rfl ?_
            refine kg_get (ci := 4) cx 0 13 kfs_X4 rfl (by decide) rfl rfl kf_X4_35 dX4_undosOf_54 ?_
            refine kg_iload_n cx dX4_undosOf_57 rfl ?_
            refine kg_ialdN cx 9 0 (k + 1) rfl rfl (rfl) (by omega) (by decide) (rfl) dX4_undosOf_58 ?_
            refine kg_if_ne cx 77 dX4_undosOf_59 (by decide) (fun h5 => ?_) (fun h5 => ?_)
            · refine kg_iload_n cx dX4_undosOf_77 rfl ?_
              refine kg_istore_n cx dX4_undosOf_78 (by decide) ?_
              refine kg_iinc (v := nI k) cx dX4_undosOf_79 rfl (pk_m1 k) (by decide) ?_
              refine kg_goto cx 7 dX4_undosOf_82 (by decide) ?_
              exact ih d (by omega) (by rw [he]; show (if _ then _ else _) = _; rw [if_neg (fun q => h2 q.1), if_neg (fun q => h5 q.2.1)])
            · refine kg_aload_n cx dX4_undosOf_62 rfl ?_
              refine kg_get (ci := 4) cx 0 20 kfs_X4 rfl (by decide) rfl rfl kf_X4_56 dX4_undosOf_63 ?_
              refine kg_iload_n cx dX4_undosOf_66 rfl ?_
              refine kg_zaldN cx 16 1 (k + 1) rfl rfl (rfl) (by omega) (by decide) (rfl) dX4_undosOf_67 ?_
              refine kg_if_ne cx 77 dX4_undosOf_68 (by decide) (fun h6 => ?_) (fun h6 => ?_)
              · refine kg_iload_n cx dX4_undosOf_77 rfl ?_
                refine kg_istore_n cx dX4_undosOf_78 (by decide) ?_
                refine kg_iinc (v := nI k) cx dX4_undosOf_79 rfl (pk_m1 k) (by decide) ?_
                refine kg_goto cx 7 dX4_undosOf_82 (by decide) ?_
                exact ih d (by omega) (by rw [he]; show (if _ then _ else _) = _; rw [if_neg (fun q => h2 q.1), if_neg (fun q => h6 q.2.2)])
              · refine kg_iload_n cx dX4_undosOf_71 rfl ?_
                refine kg_iconst (v := 1) cx dX4_undosOf_72 (by decide) ?_
                refine kg_iadd cx dX4_undosOf_73 ?_
                refine kg_top (nI (d + 1)) (nI_1 d) ?_
                refine kg_goto cx 78 dX4_undosOf_74 (by decide) ?_
                refine kg_istore_n cx dX4_undosOf_78 (by decide) ?_
                refine kg_iinc (v := nI k) cx dX4_undosOf_79 rfl (pk_m1 k) (by decide) ?_
                refine kg_goto cx 7 dX4_undosOf_82 (by decide) ?_
                exact ih (d + 1) (by omega) (by rw [he]; show (if _ then _ else _) = _; rw [if_neg (fun q => h2 q.1), if_pos ⟨h4, h5, h6⟩])
        · refine kg_aload_n cx dX4_undosOf_21 rfl ?_
          refine kg_get (ci := 4) cx 0 13 kfs_X4 rfl (by decide) rfl rfl kf_X4_35 dX4_undosOf_22 ?_
          refine kg_iload_n cx dX4_undosOf_25 rfl ?_
          refine kg_ialdN cx 9 0 (k + 1) rfl rfl (rfl) (by omega) (by decide) (rfl) dX4_undosOf_26 ?_
          refine kg_iconst (v := (nI 2)) cx dX4_undosOf_27 (by decide) ?_
          refine kg_icmp_eq cx 41 dX4_undosOf_28 (by decide) (fun h3 => ?_) (fun h3 => ?_)
          · refine kg_iload_n cx dX4_undosOf_41 rfl ?_
            exact kg_ireturn cx hr (rfl) _ rfl (⟨by rw [he]; show some (Value.int (nI d)) = some (Value.int (nI (if _ then _ else _))); rw [if_pos (⟨h2, Or.inl h3⟩)], rfl⟩) dX4_undosOf_42
          · refine kg_aload_n cx dX4_undosOf_31 rfl ?_
            refine kg_get (ci := 4) cx 0 13 kfs_X4 rfl (by decide) rfl rfl kf_X4_35 dX4_undosOf_32 ?_
            refine kg_iload_n cx dX4_undosOf_35 rfl ?_
            refine kg_ialdN cx 9 0 (k + 1) rfl rfl (rfl) (by omega) (by decide) (rfl) dX4_undosOf_36 ?_
            refine kg_iconst (v := (nI 3)) cx dX4_undosOf_37 (by decide) ?_
            refine kg_icmp_ne cx 43 dX4_undosOf_38 (by decide) (fun h7 => ?_) (fun h7 => ?_)
            · refine kg_aload_n cx dX4_undosOf_43 rfl ?_
              refine kg_get (ci := 4) cx 0 14 kfs_X4 rfl (by decide) rfl rfl kf_X4_38 dX4_undosOf_44 ?_
              refine kg_iload_n cx dX4_undosOf_47 rfl ?_
              refine kg_ialdN cx 10 0 (k + 1) rfl rfl (rfl) (by omega) (by decide) (rfl) dX4_undosOf_48 ?_
              refine kg_iload_n cx dX4_undosOf_49 rfl ?_
              refine kg_icmp_ne cx 77 dX4_undosOf_50 (by decide) (fun h4 => ?_) (fun h4 => ?_)
              · refine kg_iload_n cx dX4_undosOf_77 rfl ?_
                refine kg_istore_n cx dX4_undosOf_78 (by decide) ?_
                refine kg_iinc (v := nI k) cx dX4_undosOf_79 rfl (pk_m1 k) (by decide) ?_
                refine kg_goto cx 7 dX4_undosOf_82 (by decide) ?_
                exact ih d (by omega) (by rw [he]; show (if _ then _ else _) = _; rw [if_neg (fun q => q.2.elim h3 h7), if_neg (fun q => h4 q.1)])
              · refine kg_aload_n cx dX4_undosOf_53 rfl ?_
                refine kg_get (ci := 4) cx 0 13 kfs_X4 rfl (by decide) rfl rfl kf_X4_35 dX4_undosOf_54 ?_
                refine kg_iload_n cx dX4_undosOf_57 rfl ?_
                refine kg_ialdN cx 9 0 (k + 1) rfl rfl (rfl) (by omega) (by decide) (rfl) dX4_undosOf_58 ?_
                refine kg_if_ne cx 77 dX4_undosOf_59 (by decide) (fun h5 => ?_) (fun h5 => ?_)
                · refine kg_iload_n cx dX4_undosOf_77 rfl ?_
                  refine kg_istore_n cx dX4_undosOf_78 (by decide) ?_
                  refine kg_iinc (v := nI k) cx dX4_undosOf_79 rfl (pk_m1 k) (by decide) ?_
                  refine kg_goto cx 7 dX4_undosOf_82 (by decide) ?_
                  exact ih d (by omega) (by rw [he]; show (if _ then _ else _) = _; rw [if_neg (fun q => q.2.elim h3 h7), if_neg (fun q => h5 q.2.1)])
                · refine kg_aload_n cx dX4_undosOf_62 rfl ?_
                  refine kg_get (ci := 4) cx 0 20 kfs_X4 rfl (by decide) rfl rfl kf_X4_56 dX4_undosOf_63 ?_
                  refine kg_iload_n cx dX4_undosOf_66 rfl ?_
                  refine kg_zaldN cx 16 1 (k + 1) rfl rfl (rfl) (by omega) (by decide) (rfl) dX4_undosOf_67 ?_
                  refine kg_if_ne cx 77 dX4_undosOf_68 (by decide) (fun h6 => ?_) (fun h6 => ?_)
                  · refine kg_iload_n cx dX4_undosOf_77 rfl ?_
                    refine kg_istore_n cx dX4_undosOf_78 (by decide) ?_
                    refine kg_iinc (v := nI k) cx dX4_undosOf_79 rfl (pk_m1 k) (by decide) ?_
                    refine kg_goto cx 7 dX4_undosOf_82 (by decide) ?_
                    exact ih d (by omega) (by rw [he]; show (if _ then _ else _) = _; rw [if_neg (fun q => q.2.elim h3 h7), if_neg (fun q => h6 q.2.2)])
                  · refine kg_iload_n cx dX4_undosOf_71 rfl ?_
                    refine kg_iconst (v := 1) cx dX4_undosOf_72 (by decide) ?_
                    refine kg_iadd cx dX4_undosOf_73 ?_
                    refine kg_top (nI (d + 1)) (nI_1 d) ?_
                    refine kg_goto cx 78 dX4_undosOf_74 (by decide) ?_
                    refine kg_istore_n cx dX4_undosOf_78 (by decide) ?_
                    refine kg_iinc (v := nI k) cx dX4_undosOf_79 rfl (pk_m1 k) (by decide) ?_
                    refine kg_goto cx 7 dX4_undosOf_82 (by decide) ?_
                    exact ih (d + 1) (by omega) (by rw [he]; show (if _ then _ else _) = _; rw [if_neg (fun q => q.2.elim h3 h7), if_pos ⟨h4, h5, h6⟩])
            · refine kg_iload_n cx dX4_undosOf_41 rfl ?_
              exact kg_ireturn cx hr (rfl) _ rfl (⟨by rw [he]; show some (Value.int (nI d)) = some (Value.int (nI (if _ then _ else _))); rw [if_pos (⟨h2, Or.inr h7⟩)], rfl⟩) dX4_undosOf_42
  exact loop z 0 (Nat.le_refl _) rfl
set_option maxHeartbeats 4000000 in
set_option maxRecDepth 100000 in
theorem r_needed (l : Launch) (D : va_G) (c : Nat → ClassId) (rd : Nat → Nat) (u : kS) (z : Nat) (hs : u 14 0 0 = nI z) (hz : z ≤ 400) : kR l D c rd yX4_needed (Cond.code yX4_needed cX4_needed 3 (some .int)) 1 23 u [.ref (rd 0)] (fun v u9 => v = some (.int (nI (kNeed u z 8))) ∧ u9 = u) := by
  refine kR.mk (by decide) (by simp [Value.category]) (Nat.le_of_ble_eq_true rfl) ?_
  intro p e s m args below meth c9 cx hr
  refine kg_iconst (v := 0) cx dX4_needed_0 (by decide) ?_
  refine kg_istore_n cx dX4_needed_1 (by decide) ?_
  refine kg_iconst (v := 0) cx dX4_needed_2 (by decide) ?_
  refine kg_istore_n cx dX4_needed_3 (by decide) ?_
  have loop : ∀ (k i : Nat), 8 - i = k → i ≤ 8 → kgR p l e 1 23 s m args below meth c9 3 D c rd u (fun v u9 => v = some (.int (nI (kNeed u z 8))) ∧ u9 = u) u 4 [some (.ref (rd 0)), some (.int (nI (kNeed u z i))), some (.int (nI i))] [] := by
    intro k
    induction k with
    | zero =>
      intro i hk hi
      have e8 : i = 8 := by omega
      subst i
      refine kg_iload_n cx dX4_needed_4 rfl ?_
      refine kg_bipush (v := (nI 8)) cx dX4_needed_5 (by decide) ?_
      refine kg_icmp_ge cx 39 dX4_needed_7 (by decide) (fun h1 => ?_) (fun h1 => ?_)
      · refine kg_iload_n cx dX4_needed_39 rfl ?_
        exact kg_ireturn cx hr (rfl) _ rfl (⟨rfl, rfl⟩) dX4_needed_40
      · exact absurd (Int32.le_refl _) h1
    | succ k ih =>
      intro i hk hi
      have hin : i < 8 := by omega
      refine kg_iload_n cx dX4_needed_4 rfl ?_
      refine kg_bipush (v := (nI 8)) cx dX4_needed_5 (by decide) ?_
      refine kg_icmp_ge cx 39 dX4_needed_7 (by decide) (fun h1 => ?_) (fun h1 => ?_)
      · exact absurd h1 (nI_ge hin (by omega))
      · refine kg_aload_n cx dX4_needed_10 rfl ?_
        refine kg_get (ci := 4) cx 0 21 kfs_X4 rfl (by decide) rfl rfl kf_X4_59 dX4_needed_11 ?_
        refine kg_iload_n cx dX4_needed_14 rfl ?_
        refine kg_zaldN cx 17 1 i rfl rfl (rfl) (hin) (by decide) (rfl) dX4_needed_15 ?_
        refine kg_if_eq cx 31 dX4_needed_16 (by decide) (fun h2 => ?_) (fun h2 => ?_)
        · refine kg_iload_n cx dX4_needed_31 rfl ?_
          refine kg_istore_n cx dX4_needed_32 (by decide) ?_
          refine kg_iinc (v := nI (i + 1)) cx dX4_needed_33 rfl (nI_1 i) (by decide) ?_
          refine kg_goto cx 4 dX4_needed_36 (by decide) ?_
          have e9 : kNeed u z (i + 1) = kNeed u z i := if_pos h2
          have := ih (i + 1) (by omega) (by omega)
          rw [e9] at this
          exact this
        · refine kg_iload_n cx dX4_needed_19 rfl ?_
          refine kg_iconst (v := 1) cx dX4_needed_20 (by decide) ?_
          refine kg_iadd cx dX4_needed_21 ?_
          refine kg_top (nI (kNeed u z i + 1)) (nI_1 _) ?_
          refine kg_aload_n cx dX4_needed_22 rfl ?_
          refine kg_iload_n cx dX4_needed_23 rfl ?_
          refine kg_callV (ci := 4) (na := 1) cx (r_undosOf l D c rd u (nI i) z hs hz) 0 rfl rfl kcd_X4_undosOf km_X4_116 kin_X4 kim_X4_undosOf ksl_X4_undosOf (by decide +kernel) rfl (by decide) (by decide) rfl (Nat.le_of_ble_eq_true rfl) dX4_needed_24 (fun _ => kr_adr _ _) (fun v9 u9 h9 => ?_)
          obtain ⟨rfl, h9⟩ := h9
          subst u9
          refine kg_iadd cx dX4_needed_27 ?_
          refine kg_top (nI (kNeed u z i + 1 + kUof u (nI i) z 0)) (nI_add _ _) ?_
          refine kg_goto cx 32 dX4_needed_28 (by decide) ?_
          refine kg_istore_n cx dX4_needed_32 (by decide) ?_
          refine kg_iinc (v := nI (i + 1)) cx dX4_needed_33 rfl (nI_1 i) (by decide) ?_
          refine kg_goto cx 4 dX4_needed_36 (by decide) ?_
          have e9 : kNeed u z (i + 1) = kNeed u z i + 1 + kUof u (nI i) z 0 := if_neg h2
          have := ih (i + 1) (by omega) (by omega)
          rw [e9] at this
          exact this
  exact loop 8 0 rfl (by decide)
/-- whether the last record of t, of the first i, is an UPDATE or UNDO -/
def kIso (u : kS) (t : Int32) : Nat → Int32
  | 0 => 0
  | i + 1 => if u 9 (i + 1) 1 = t then kb (u 9 (i + 1) 0 < nI 2) else kIso u t i
theorem kIso_nar (u : kS) (t : Int32) : ∀ i, narrow .boolean (.int (kIso u t i)) = .int (kIso u t i)
  | 0 => nar_0
  | i + 1 => by
    unfold kIso
    split
    · exact kb_nar _
    · exact kIso_nar u t i
/-- whether no COMMIT or END of its transaction is among the k records behind record i -/
def kIsl (u : kS) (i : Nat) : Nat → Int32
  | 0 => 1
  | k + 1 => kb (kIsl u i k ≠ 0 ∧ (u 9 (i + k + 1) 1 ≠ u 9 i 1 ∨ u 9 (i + k + 1) 0 < nI 2))
theorem kIsl_nar (u : kS) (i : Nat) : ∀ k, narrow .boolean (.int (kIsl u i k)) = .int (kIsl u i k)
  | 0 => nar_1
  | k + 1 => kb_nar _
set_option maxHeartbeats 4000000 in
set_option maxRecDepth 100000 in
theorem r_isOpen (l : Launch) (D : va_G) (c : Nat → ClassId) (rd : Nat → Nat) (u : kS) (t : Int32) (z : Nat) (hs : u 14 0 0 = nI z) (hz : z ≤ 400) : kR l D c rd yX4_isOpen (Cond.code yX4_isOpen cX4_isOpen 4 (some .boolean)) 0 0 u [.ref (rd 0), .int t] (fun v u9 => v = some (.int (kIso u t z)) ∧ u9 = u) := by
  refine kR.mk (by decide) (by simp [Value.category]) (Nat.le_of_ble_eq_true rfl) ?_
  intro p e s m args below meth c9 cx hr
  refine kg_iconst (v := 0) cx dX4_isOpen_0 (by decide) ?_
  refine kg_istore_n cx dX4_isOpen_1 (by decide) ?_
  refine kg_iconst (v := 1) cx dX4_isOpen_2 (by decide) ?_
  refine kg_istore_n cx dX4_isOpen_3 (by decide) ?_
  have loop : ∀ (k i : Nat), z - i = k → i ≤ z → kgR p l e 0 0 s m args below meth c9 4 D c rd u (fun v u9 => v = some (.int (kIso u t z)) ∧ u9 = u) u 4 [some (.ref (rd 0)), some (.int t), some (.int (kIso u t i)), some (.int (nI (i + 1)))] [] := by
    intro k
    induction k with
    | zero =>
      intro i hk hi
      have e8 : i = z := by omega
      subst i
      refine kg_iload_n cx dX4_isOpen_4 rfl ?_
      refine kg_aload_n cx dX4_isOpen_5 rfl ?_
      refine kg_get (ci := 4) cx 0 11 kfs_X4 rfl (by decide) rfl rfl kf_X4_113 dX4_isOpen_6 ?_
      refine kg_top (nI z) (hs) ?_
      refine kg_icmp_gt cx 44 dX4_isOpen_9 (by decide) (fun h1 => ?_) (fun h1 => ?_)
      · refine kg_iload_n cx dX4_isOpen_44 rfl ?_
        exact kg_ireturn cx hr (kIso_nar _ _ _) _ rfl (⟨rfl, rfl⟩) dX4_isOpen_45
      · exact absurd (nI_lt (show z < z + 1 by omega) (by omega)) h1
    | succ k ih =>
      intro i hk hi
      refine kg_iload_n cx dX4_isOpen_4 rfl ?_
      refine kg_aload_n cx dX4_isOpen_5 rfl ?_
      refine kg_get (ci := 4) cx 0 11 kfs_X4 rfl (by decide) rfl rfl kf_X4_113 dX4_isOpen_6 ?_
      refine kg_top (nI z) (hs) ?_
      refine kg_icmp_gt cx 44 dX4_isOpen_9 (by decide) (fun h1 => ?_) (fun h1 => ?_)
      · exact absurd h1 (nI_nlt (show i + 1 ≤ z by omega) (by omega))
      · refine kg_aload_n cx dX4_isOpen_12 rfl ?_
        refine kg_get (ci := 4) cx 0 14 kfs_X4 rfl (by decide) rfl rfl kf_X4_38 dX4_isOpen_13 ?_
        refine kg_iload_n cx dX4_isOpen_16 rfl ?_
        refine kg_ialdN cx 10 0 (i + 1) rfl rfl (rfl) (by omega) (by decide) (rfl) dX4_isOpen_17 ?_
        refine kg_iload_n cx dX4_isOpen_18 rfl ?_
        refine kg_icmp_ne cx 38 dX4_isOpen_19 (by decide) (fun h2 => ?_) (fun h2 => ?_)
        · refine kg_iinc (v := nI (i + 1 + 1)) cx dX4_isOpen_38 rfl (nI_1 _) (by decide) ?_
          refine kg_goto cx 4 dX4_isOpen_41 (by decide) ?_
          have e9 : kIso u t (i + 1) = kIso u t i := if_neg h2
          have := ih (i + 1) (by omega) (by omega)
          rw [e9] at this
          exact this
        · refine kg_aload_n cx dX4_isOpen_22 rfl ?_
          refine kg_get (ci := 4) cx 0 13 kfs_X4 rfl (by decide) rfl rfl kf_X4_35 dX4_isOpen_23 ?_
          refine kg_iload_n cx dX4_isOpen_26 rfl ?_
          refine kg_ialdN cx 9 0 (i + 1) rfl rfl (rfl) (by omega) (by decide) (rfl) dX4_isOpen_27 ?_
          refine kg_iconst (v := (nI 2)) cx dX4_isOpen_28 (by decide) ?_
          refine kg_icmp_ge cx 36 dX4_isOpen_29 (by decide) (fun h3 => ?_) (fun h3 => ?_)
          · refine kg_iconst (v := 0) cx dX4_isOpen_36 (by decide) ?_
            refine kg_istore_n cx dX4_isOpen_37 (by decide) ?_
            refine kg_iinc (v := nI (i + 1 + 1)) cx dX4_isOpen_38 rfl (nI_1 _) (by decide) ?_
            refine kg_goto cx 4 dX4_isOpen_41 (by decide) ?_
            have e9 : kIso u t (i + 1) = 0 := by show (if _ then _ else _) = _; rw [if_pos h2]; exact kb_0 (Int32.not_lt.mpr h3)
            have := ih (i + 1) (by omega) (by omega)
            rw [e9] at this
            exact this
          · refine kg_iconst (v := 1) cx dX4_isOpen_32 (by decide) ?_
            refine kg_goto cx 37 dX4_isOpen_33 (by decide) ?_
            refine kg_istore_n cx dX4_isOpen_37 (by decide) ?_
            refine kg_iinc (v := nI (i + 1 + 1)) cx dX4_isOpen_38 rfl (nI_1 _) (by decide) ?_
            refine kg_goto cx 4 dX4_isOpen_41 (by decide) ?_
            have e9 : kIso u t (i + 1) = 1 := by show (if _ then _ else _) = _; rw [if_pos h2]; exact kb_1 (Int32.not_le.mp h3)
            have := ih (i + 1) (by omega) (by omega)
            rw [e9] at this
            exact this
  exact loop z 0 rfl (Nat.zero_le _)
set_option maxHeartbeats 4000000 in
set_option maxRecDepth 100000 in
theorem r_isLatest (l : Launch) (D : va_G) (c : Nat → ClassId) (rd : Nat → Nat) (u : kS) (i : Nat) (z : Nat) (hs : u 14 0 0 = nI z) (hz : z ≤ 400) (hi : i ≤ z) : kR l D c rd yX4_isLatest (Cond.code yX4_isLatest cX4_isLatest 4 (some .boolean)) 0 0 u [.ref (rd 0), .int (nI i)] (fun v u9 => v = some (.int (kIsl u i (z - i))) ∧ u9 = u) := by
  refine kR.mk (by decide) (by simp [Value.category]) (Nat.le_of_ble_eq_true rfl) ?_
  intro p e s m args below meth c9 cx hr
  refine kg_iconst (v := 1) cx dX4_isLatest_0 (by decide) ?_
  refine kg_istore_n cx dX4_isLatest_1 (by decide) ?_
  refine kg_iload_n cx dX4_isLatest_2 rfl ?_
  refine kg_iconst (v := 1) cx dX4_isLatest_3 (by decide) ?_
  refine kg_iadd cx dX4_isLatest_4 ?_
  refine kg_top (nI (i + 1)) (nI_1 i) ?_
  refine kg_istore_n cx dX4_isLatest_5 (by decide) ?_
  have loop : ∀ (k j : Nat), z - i - j = k → j ≤ z - i → kgR p l e 0 0 s m args below meth c9 4 D c rd u (fun v u9 => v = some (.int (kIsl u i (z - i))) ∧ u9 = u) u 6 [some (.ref (rd 0)), some (.int (nI i)), some (.int (kIsl u i j)), some (.int (nI (i + j + 1)))] [] := by
    intro k
    induction k with
    | zero =>
      intro j hk hj
      have e8 : j = z - i := by omega
      subst j
      refine kg_iload_n cx dX4_isLatest_6 rfl ?_
      refine kg_aload_n cx dX4_isLatest_7 rfl ?_
      refine kg_get (ci := 4) cx 0 11 kfs_X4 rfl (by decide) rfl rfl kf_X4_113 dX4_isLatest_8 ?_
      refine kg_top (nI z) (hs) ?_
      refine kg_icmp_gt cx 55 dX4_isLatest_11 (by decide) (fun h1 => ?_) (fun h1 => ?_)
      · refine kg_iload_n cx dX4_isLatest_55 rfl ?_
        exact kg_ireturn cx hr (kIsl_nar _ _ _) _ rfl (⟨rfl, rfl⟩) dX4_isLatest_56
      · exact absurd (nI_lt (show z < i + (z - i) + 1 by omega) (by omega)) h1
    | succ k ih =>
      intro j hk hj
      refine kg_iload_n cx dX4_isLatest_6 rfl ?_
      refine kg_aload_n cx dX4_isLatest_7 rfl ?_
      refine kg_get (ci := 4) cx 0 11 kfs_X4 rfl (by decide) rfl rfl kf_X4_113 dX4_isLatest_8 ?_
      refine kg_top (nI z) (hs) ?_
      refine kg_icmp_gt cx 55 dX4_isLatest_11 (by decide) (fun h1 => ?_) (fun h1 => ?_)
      · exact absurd h1 (nI_nlt (show i + j + 1 ≤ z by omega) (by omega))
      · refine kg_iload_n cx dX4_isLatest_14 rfl ?_
        refine kg_if_eq cx 47 dX4_isLatest_15 (by decide) (fun h2 => ?_) (fun h2 => ?_)
        · refine kg_iconst (v := 0) cx dX4_isLatest_47 (by decide) ?_
          refine kg_istore_n cx dX4_isLatest_48 (by decide) ?_
          refine kg_iinc (v := nI (i + (j + 1) + 1)) cx dX4_isLatest_49 rfl (nI_1 _) (by decide) ?_
          refine kg_goto cx 6 dX4_isLatest_52 (by decide) ?_
          have e9 : kIsl u i (j + 1) = 0 := kb_0 (fun q => q.1 h2)
          have := ih (j + 1) (by omega) (by omega)
          rw [e9] at this
          exact this
        · refine kg_aload_n cx dX4_isLatest_18 rfl ?_
          refine kg_get (ci := 4) cx 0 14 kfs_X4 rfl (by decide) rfl rfl kf_X4_38 dX4_isLatest_19 ?_
          refine kg_iload_n cx dX4_isLatest_22 rfl ?_
          refine kg_ialdN cx 10 0 (i + j + 1) rfl rfl (rfl) (by omega) (by decide) (rfl) dX4_isLatest_23 ?_
          refine kg_aload_n cx dX4_isLatest_24 rfl ?_
          refine kg_get (ci := 4) cx 0 14 kfs_X4 rfl (by decide) rfl rfl kf_X4_38 dX4_isLatest_25 ?_
          refine kg_iload_n cx dX4_isLatest_28 rfl ?_
          refine kg_ialdN cx 10 0 i rfl rfl (rfl) (by omega) (by decide) (rfl) dX4_isLatest_29 ?_
          refine kg_icmp_ne cx 43 dX4_isLatest_30 (by decide) (fun h3 => ?_) (fun h3 => ?_)
          · refine kg_iconst (v := 1) cx dX4_isLatest_43 (by decide) ?_
            refine kg_goto cx 48 dX4_isLatest_44 (by decide) ?_
            refine kg_istore_n cx dX4_isLatest_48 (by decide) ?_
            refine kg_iinc (v := nI (i + (j + 1) + 1)) cx dX4_isLatest_49 rfl (nI_1 _) (by decide) ?_
            refine kg_goto cx 6 dX4_isLatest_52 (by decide) ?_
            have e9 : kIsl u i (j + 1) = 1 := kb_1 ⟨h2, Or.inl h3⟩
            have := ih (j + 1) (by omega) (by omega)
            rw [e9] at this
            exact this
          · refine kg_aload_n cx dX4_isLatest_33 rfl ?_
            refine kg_get (ci := 4) cx 0 13 kfs_X4 rfl (by decide) rfl rfl kf_X4_35 dX4_isLatest_34 ?_
            refine kg_iload_n cx dX4_isLatest_37 rfl ?_
            refine kg_ialdN cx 9 0 (i + j + 1) rfl rfl (rfl) (by omega) (by decide) (rfl) dX4_isLatest_38 ?_
            refine kg_iconst (v := (nI 2)) cx dX4_isLatest_39 (by decide) ?_
            refine kg_icmp_ge cx 47 dX4_isLatest_40 (by decide) (fun h4 => ?_) (fun h4 => ?_)
            · refine kg_iconst (v := 0) cx dX4_isLatest_47 (by decide) ?_
              refine kg_istore_n cx dX4_isLatest_48 (by decide) ?_
              refine kg_iinc (v := nI (i + (j + 1) + 1)) cx dX4_isLatest_49 rfl (nI_1 _) (by decide) ?_
              refine kg_goto cx 6 dX4_isLatest_52 (by decide) ?_
              have e9 : kIsl u i (j + 1) = 0 := kb_0 (fun q => q.2.elim (fun q => q h3) (fun q => absurd q (Int32.not_lt.mpr h4)))
              have := ih (j + 1) (by omega) (by omega)
              rw [e9] at this
              exact this
            · refine kg_iconst (v := 1) cx dX4_isLatest_43 (by decide) ?_
              refine kg_goto cx 48 dX4_isLatest_44 (by decide) ?_
              refine kg_istore_n cx dX4_isLatest_48 (by decide) ?_
              refine kg_iinc (v := nI (i + (j + 1) + 1)) cx dX4_isLatest_49 rfl (nI_1 _) (by decide) ?_
              refine kg_goto cx 6 dX4_isLatest_52 (by decide) ?_
              have e9 : kIsl u i (j + 1) = 1 := kb_1 ⟨h2, Or.inr (Int32.not_le.mp h4)⟩
              have := ih (j + 1) (by omega) (by omega)
              rw [e9] at this
              exact this
  exact loop (z - i) 0 rfl (Nat.zero_le _)
/-- what the k records behind the flushed ones had undone is so no longer -/
def kLose (u : kS) (fl : Nat) : Nat → kS
  | 0 => u
  | k + 1 => if u 9 (fl + k + 1) 0 = 1 then ku (kLose u fl k) 22 (kNat (u 9 (fl + k + 1) 6)) 0 0 else kLose u fl k
theorem kLose_F {u : kS} {fl F a b : Nat} (h : F ≠ 22) : ∀ k, kLose u fl k F a b = u F a b
  | 0 => rfl
  | k + 1 => by
    unfold kLose
    split
    · rw [ku_F h]; exact kLose_F h k
    · exact kLose_F h k
set_option maxHeartbeats 4000000 in
set_option maxRecDepth 100000 in
theorem r_loseRecords (l : Launch) (D : va_G) (c : Nat → ClassId) (rd : Nat → Nat) (u : kS) (fl : Nat) (z : Nat) (hs : u 14 0 0 = nI z) (hz : z ≤ 400) (hf : u 15 0 0 = nI fl) (hfz : fl ≤ z) (hW : ∀ i, i ≤ z → 1 ≤ i → u 9 i 0 = 1 → ∃ w, w ≤ 400 ∧ u 9 i 6 = nI w) : kR l D c rd yX4_loseRecords (Cond.code yX4_loseRecords cX4_loseRecords 2 none) 0 0 u [.ref (rd 0)] (fun v u9 => v = none ∧ u9 = ku (kLose u fl (z - fl)) 14 0 0 (nI fl)) := by
  refine kR.mk (by decide) (by simp [Value.category]) (Nat.le_of_ble_eq_true rfl) ?_
  intro p e s m args below meth c9 cx hr
  refine kg_aload_n cx dX4_loseRecords_0 rfl ?_
  refine kg_get (ci := 4) cx 0 12 kfs_X4 rfl (by decide) rfl rfl kf_X4_72 dX4_loseRecords_1 ?_
  refine kg_top (nI fl) (hf) ?_
  refine kg_iconst (v := 1) cx dX4_loseRecords_4 (by decide) ?_
  refine kg_iadd cx dX4_loseRecords_5 ?_
  refine kg_top (nI (fl + 1)) (nI_1 fl) ?_
  refine kg_istore_n cx dX4_loseRecords_6 (by decide) ?_
  have loop : ∀ (k j : Nat), z - fl - j = k → j ≤ z - fl → kgR p l e 0 0 s m args below meth c9 2 D c rd u (fun v u9 => v = none ∧ u9 = ku (kLose u fl (z - fl)) 14 0 0 (nI fl)) (kLose u fl j) 7 [some (.ref (rd 0)), some (.int (nI (fl + j + 1)))] [] := by
    intro k
    induction k with
    | zero =>
      intro j hk hj
      have e8 : j = z - fl := by omega
      subst j
      refine kg_iload_n cx dX4_loseRecords_7 rfl ?_
      refine kg_aload_n cx dX4_loseRecords_8 rfl ?_
      refine kg_get (ci := 4) cx 0 11 kfs_X4 rfl (by decide) rfl rfl kf_X4_113 dX4_loseRecords_9 ?_
      refine kg_top (nI z) (by rw [kLose_F (by decide)]; exact hs) ?_
      refine kg_icmp_gt cx 43 dX4_loseRecords_12 (by decide) (fun h1 => ?_) (fun h1 => ?_)
      · refine kg_aload_n cx dX4_loseRecords_43 rfl ?_
        refine kg_aload_n cx dX4_loseRecords_44 rfl ?_
        refine kg_get (ci := 4) cx 0 12 kfs_X4 rfl (by decide) rfl rfl kf_X4_72 dX4_loseRecords_45 ?_
        refine kg_top (nI fl) (by rw [kLose_F (by decide)]; exact hf) ?_
        refine kg_put (ci := 4) (ty := .int) cx 0 11 kfs_X4 tyX4 tyX4_ok nmX4 rfl (by decide) rfl (Nat.le_of_ble_eq_true rfl) kf_X4_113 rfl (by decide +kernel) rfl rfl (kq_records _) dX4_loseRecords_48 ?_
        exact kg_return cx hr _ rfl (⟨rfl, rfl⟩) dX4_loseRecords_51
      · exact absurd (nI_lt (show z < fl + (z - fl) + 1 by omega) (by omega)) h1
    | succ k ih =>
      intro j hk hj
      refine kg_iload_n cx dX4_loseRecords_7 rfl ?_
      refine kg_aload_n cx dX4_loseRecords_8 rfl ?_
      refine kg_get (ci := 4) cx 0 11 kfs_X4 rfl (by decide) rfl rfl kf_X4_113 dX4_loseRecords_9 ?_
      refine kg_top (nI z) (by rw [kLose_F (by decide)]; exact hs) ?_
      refine kg_icmp_gt cx 43 dX4_loseRecords_12 (by decide) (fun h1 => ?_) (fun h1 => ?_)
      · exact absurd h1 (nI_nlt (show fl + j + 1 ≤ z by omega) (by omega))
      · refine kg_aload_n cx dX4_loseRecords_15 rfl ?_
        refine kg_get (ci := 4) cx 0 13 kfs_X4 rfl (by decide) rfl rfl kf_X4_35 dX4_loseRecords_16 ?_
        refine kg_iload_n cx dX4_loseRecords_19 rfl ?_
        refine kg_ialdN (v := (u 9 (fl + j + 1) 0)) cx 9 0 (fl + j + 1) rfl rfl (rfl) (by omega) (by decide) (kLose_F (by decide) j) dX4_loseRecords_20 ?_
        refine kg_iconst (v := 1) cx dX4_loseRecords_21 (by decide) ?_
        refine kg_icmp_ne cx 37 dX4_loseRecords_22 (by decide) (fun h2 => ?_) (fun h2 => ?_)
        · refine kg_iinc (v := nI (fl + (j + 1) + 1)) cx dX4_loseRecords_37 rfl (nI_1 _) (by decide) ?_
          refine kg_goto cx 7 dX4_loseRecords_40 (by decide) ?_
          have e9 : kLose u fl (j + 1) = kLose u fl j := if_neg h2
          have := ih (j + 1) (by omega) (by omega)
          rw [e9] at this
          exact this
        · obtain ⟨w9, hw1, hw2⟩ := hW (fl + j + 1) (by omega) (by omega) h2
          refine kg_aload_n cx dX4_loseRecords_25 rfl ?_
          refine kg_get (ci := 4) cx 0 20 kfs_X4 rfl (by decide) rfl rfl kf_X4_56 dX4_loseRecords_26 ?_
          refine kg_aload_n cx dX4_loseRecords_29 rfl ?_
          refine kg_get (ci := 4) cx 0 19 kfs_X4 rfl (by decide) rfl rfl kf_X4_53 dX4_loseRecords_30 ?_
          refine kg_iload_n cx dX4_loseRecords_33 rfl ?_
          refine kg_ialdN (v := (u 9 (fl + j + 1) 6)) cx 15 0 (fl + j + 1) rfl rfl (rfl) (by omega) (by decide) (kLose_F (by decide) j) dX4_loseRecords_34 ?_
          refine kg_top (nI w9) (hw2) ?_
          refine kg_iconst (v := 0) cx dX4_loseRecords_35 (by decide) ?_
          refine kg_zastN cx 16 1 w9 rfl rfl (rfl) (by omega) (by decide) (by decide) (kq_isUndone w9 _) dX4_loseRecords_36 ?_
          refine kg_iinc (v := nI (fl + (j + 1) + 1)) cx dX4_loseRecords_37 rfl (nI_1 _) (by decide) ?_
          refine kg_goto cx 7 dX4_loseRecords_40 (by decide) ?_
          have e9 : kLose u fl (j + 1) = ku (kLose u fl j) 22 w9 0 0 := by
            show (if _ then _ else _) = _
            rw [if_pos h2, hw2, kNat_n (by omega)]
          have := ih (j + 1) (by omega) (by omega)
          rw [e9] at this
          exact this
  exact loop (z - fl) 0 rfl (Nat.zero_le _)
end
section
def kRedoR (u : kS) (Pg Nb : Nat → Nat) : Nat → kS
  | 0 => u
  | i + 1 => if kRedoR u Pg Nb i 9 (i + 1) 0 < nI 2 ∧ kRedoR u Pg Nb i 0 (Pg (i + 1)) 8 < nI (i + 1) then kPut (kRedoR u Pg Nb i) (i + 1) (Pg (i + 1)) (Nb (i + 1)) else kRedoR u Pg Nb i
theorem kRedoR_F {u : kS} {Pg Nb : Nat → Nat} {F a b : Nat} (h : F ≠ 0) : ∀ k, kRedoR u Pg Nb k F a b = u F a b
  | 0 => rfl
  | k + 1 => by
    have e := kRedoR_F (u := u) (Pg := Pg) (Nb := Nb) (a := a) (b := b) h k
    unfold kRedoR
    split
    · rw [kPut_F h, e]
    · exact e
set_option maxHeartbeats 4000000 in
set_option maxRecDepth 100000 in
theorem r_redo (l : Launch) (D : va_G) (c : Nat → ClassId) (rd : Nat → Nat) (u : kS) (z : Nat) (hs : u 14 0 0 = nI z) (hz : z ≤ 400) (Pg Nb : Nat → Nat) (hP : ∀ i, i ≤ z → 1 ≤ i → u 9 i 0 < nI 2 → u 9 i 2 = nI (Pg i) ∧ Pg i < 32 ∧ u 9 i 3 = nI (Nb i) ∧ Nb i < 8) : kR l D c rd yX4_redo (Cond.code yX4_redo cX4_redo 2 none) 0 0 u [.ref (rd 0)] (fun v u9 => v = none ∧ u9 = kRedoR u Pg Nb z) := by
  refine kR.mk (by decide) (by simp [Value.category]) (Nat.le_of_ble_eq_true rfl) ?_
  intro p e s m args below meth c9 cx hr
  refine kg_iconst (v := 1) cx dX4_redo_0 (by decide) ?_
  refine kg_istore_n cx dX4_redo_1 (by decide) ?_
  have loop : ∀ (k i : Nat), z - i = k → i ≤ z → kgR p l e 0 0 s m args below meth c9 2 D c rd u (fun v u9 => v = none ∧ u9 = kRedoR u Pg Nb z) (kRedoR u Pg Nb i) 2 [some (.ref (rd 0)), some (.int (nI (i + 1)))] [] := by
    intro k
    induction k with
    | zero =>
      intro i hk hi
      have e8 : i = z := by omega
      subst i
      refine kg_iload_n cx dX4_redo_2 rfl ?_
      refine kg_aload_n cx dX4_redo_3 rfl ?_
      refine kg_get (ci := 4) cx 0 11 kfs_X4 rfl (by decide) rfl rfl kf_X4_113 dX4_redo_4 ?_
      refine kg_top (nI z) (by rw [kRedoR_F (by decide)]; exact hs) ?_
      refine kg_icmp_gt cx 80 dX4_redo_7 (by decide) (fun h1 => ?_) (fun h1 => ?_)
      · exact kg_return cx hr _ rfl (⟨rfl, rfl⟩) dX4_redo_80
      · exact absurd (nI_lt (show z < z + 1 by omega) (by omega)) h1
    | succ k ih =>
      intro i hk hi
      refine kg_iload_n cx dX4_redo_2 rfl ?_
      refine kg_aload_n cx dX4_redo_3 rfl ?_
      refine kg_get (ci := 4) cx 0 11 kfs_X4 rfl (by decide) rfl rfl kf_X4_113 dX4_redo_4 ?_
      refine kg_top (nI z) (by rw [kRedoR_F (by decide)]; exact hs) ?_
      refine kg_icmp_gt cx 80 dX4_redo_7 (by decide) (fun h1 => ?_) (fun h1 => ?_)
      · exact absurd h1 (nI_nlt (show i + 1 ≤ z by omega) (by omega))
      · refine kg_aload_n cx dX4_redo_10 rfl ?_
        refine kg_get (ci := 4) cx 0 13 kfs_X4 rfl (by decide) rfl rfl kf_X4_35 dX4_redo_11 ?_
        refine kg_iload_n cx dX4_redo_14 rfl ?_
        refine kg_ialdN cx 9 0 (i + 1) rfl rfl (rfl) (by omega) (by decide) (rfl) dX4_redo_15 ?_
        refine kg_iconst (v := (nI 2)) cx dX4_redo_16 (by decide) ?_
        refine kg_icmp_ge cx 74 dX4_redo_17 (by decide) (fun h2 => ?_) (fun h2 => ?_)
        · refine kg_iinc (v := nI (i + 1 + 1)) cx dX4_redo_74 rfl (nI_1 _) (by decide) ?_
          refine kg_goto cx 2 dX4_redo_77 (by decide) ?_
          have e9 : kRedoR u Pg Nb (i + 1) = kRedoR u Pg Nb i := if_neg (fun q => absurd q.1 (Int32.not_lt.mpr h2))
          have := ih (i + 1) (by omega) (by omega)
          rw [e9] at this
          exact this
        · have hp9 := hP (i + 1) (by omega) (by omega) (by have := Int32.not_le.mp h2; rw [kRedoR_F (by decide)] at this; exact this)
          refine kg_iload_n cx dX4_redo_20 rfl ?_
          refine kg_aload_n cx dX4_redo_21 rfl ?_
          refine kg_get (ci := 4) cx 0 3 kfs_X4 rfl (by decide) rfl rfl kf_X4_13 dX4_redo_22 ?_
          refine kg_aload_n cx dX4_redo_25 rfl ?_
          refine kg_get (ci := 4) cx 0 15 kfs_X4 rfl (by decide) rfl rfl kf_X4_41 dX4_redo_26 ?_
          refine kg_iload_n cx dX4_redo_29 rfl ?_
          refine kg_ialdN (v := (nI (Pg (i + 1)))) cx 11 0 (i + 1) rfl rfl (rfl) (by omega) (by decide) ((kRedoR_F (by decide) i).trans hp9.1) dX4_redo_30 ?_
          refine kg_ialdN cx 2 0 (Pg (i + 1)) rfl rfl (rfl) (hp9.2.1) (by decide) (rfl) dX4_redo_31 ?_
          refine kg_icmp_le cx 74 dX4_redo_32 (by decide) (fun h3 => ?_) (fun h3 => ?_)
          · refine kg_iinc (v := nI (i + 1 + 1)) cx dX4_redo_74 rfl (nI_1 _) (by decide) ?_
            refine kg_goto cx 2 dX4_redo_77 (by decide) ?_
            have e9 : kRedoR u Pg Nb (i + 1) = kRedoR u Pg Nb i := if_neg (fun q => absurd q.2 (Int32.not_lt.mpr h3))
            have := ih (i + 1) (by omega) (by omega)
            rw [e9] at this
            exact this
          · refine kg_aload_n cx dX4_redo_35 rfl ?_
            refine kg_get (ci := 4) cx 0 2 kfs_X4 rfl (by decide) rfl rfl kf_X4_7 dX4_redo_36 ?_
            refine kg_bipush (v := (nI 8)) cx dX4_redo_39 (by decide) ?_
            refine kg_aload_n cx dX4_redo_41 rfl ?_
            refine kg_get (ci := 4) cx 0 15 kfs_X4 rfl (by decide) rfl rfl kf_X4_41 dX4_redo_42 ?_
            refine kg_iload_n cx dX4_redo_45 rfl ?_
            refine kg_ialdN (v := (nI (Pg (i + 1)))) cx 11 0 (i + 1) rfl rfl (rfl) (by omega) (by decide) ((kRedoR_F (by decide) i).trans hp9.1) dX4_redo_46 ?_
            refine kg_imul cx dX4_redo_47 ?_
            refine kg_top (nI (8 * Pg (i + 1))) (pk_mul 8 _) ?_
            refine kg_aload_n cx dX4_redo_48 rfl ?_
            refine kg_get (ci := 4) cx 0 16 kfs_X4 rfl (by decide) rfl rfl kf_X4_44 dX4_redo_49 ?_
            refine kg_iload_n cx dX4_redo_52 rfl ?_
            refine kg_ialdN (v := (nI (Nb (i + 1)))) cx 12 0 (i + 1) rfl rfl (rfl) (by omega) (by decide) ((kRedoR_F (by decide) i).trans hp9.2.2.1) dX4_redo_53 ?_
            refine kg_iadd cx dX4_redo_54 ?_
            refine kg_top (nI (8 * Pg (i + 1) + Nb (i + 1))) (nI_add _ _) ?_
            refine kg_aload_n cx dX4_redo_55 rfl ?_
            refine kg_get (ci := 4) cx 0 18 kfs_X4 rfl (by decide) rfl rfl kf_X4_50 dX4_redo_56 ?_
            refine kg_iload_n cx dX4_redo_59 rfl ?_
            refine kg_ialdN cx 14 0 (i + 1) rfl rfl (rfl) (by omega) (by decide) (rfl) dX4_redo_60 ?_
            refine kg_iastN cx 1 0 (8 * Pg (i + 1) + Nb (i + 1)) rfl rfl (rfl) (by have := hp9.2.1; have := hp9.2.2.2; omega) (by decide) (kq_disk (Pg (i + 1)) (Nb (i + 1)) hp9.2.2.2 _) dX4_redo_61 ?_
            refine kg_aload_n cx dX4_redo_62 rfl ?_
            refine kg_get (ci := 4) cx 0 3 kfs_X4 rfl (by decide) rfl rfl kf_X4_13 dX4_redo_63 ?_
            refine kg_aload_n cx dX4_redo_66 rfl ?_
            refine kg_get (ci := 4) cx 0 15 kfs_X4 rfl (by decide) rfl rfl kf_X4_41 dX4_redo_67 ?_
            refine kg_iload_n cx dX4_redo_70 rfl ?_
            refine kg_ialdN (v := (nI (Pg (i + 1)))) cx 11 0 (i + 1) rfl rfl (rfl) (by omega) (by decide) ((ku_F (by decide)).trans ((kRedoR_F (by decide) i).trans hp9.1)) dX4_redo_71 ?_
            refine kg_iload_n cx dX4_redo_72 rfl ?_
            refine kg_iastN cx 2 0 (Pg (i + 1)) rfl rfl (rfl) (hp9.2.1) (by decide) (kq_diskLsn (Pg (i + 1)) _) dX4_redo_73 ?_
            refine kg_iinc (v := nI (i + 1 + 1)) cx dX4_redo_74 rfl (nI_1 _) (by decide) ?_
            refine kg_goto cx 2 dX4_redo_77 (by decide) ?_
            have e9 : kRedoR u Pg Nb (i + 1) = kPut (kRedoR u Pg Nb i) (i + 1) (Pg (i + 1)) (Nb (i + 1)) := if_pos ⟨Int32.not_le.mp h2, Int32.not_le.mp h3⟩
            have := ih (i + 1) (by omega) (by omega)
            rw [e9] at this
            exact this
  exact loop z 0 rfl (Nat.zero_le _)
/-- whether one of the first i frames may be taken -/
def kSm (u : kS) : Nat → Int32
  | 0 => 0
  | i + 1 => kb (kSm u i ≠ 0 ∨ kMay u i (u 15 0 0))
theorem kSm_iff (u : kS) : ∀ i, kSm u i ≠ 0 ↔ ∃ j, j < i ∧ kMay u j (u 15 0 0)
  | 0 => by
    constructor
    · intro h; exact absurd rfl h
    · rintro ⟨j, hj, -⟩; omega
  | i + 1 => by
    have ih := kSm_iff u i
    by_cases h : kSm u i ≠ 0 ∨ kMay u i (u 15 0 0)
    · have e : kSm u (i + 1) = 1 := kb_1 h
      rw [e]
      refine ⟨fun _ => ?_, fun _ => by decide⟩
      rcases h with h | h
      · obtain ⟨j, h1, h2⟩ := ih.mp h
        exact ⟨j, by omega, h2⟩
      · exact ⟨i, by omega, h⟩
    · have e : kSm u (i + 1) = 0 := kb_0 h
      rw [e]
      refine ⟨fun q => absurd rfl q, ?_⟩
      rintro ⟨j, h1, h2⟩
      by_cases hj : j = i
      · subst hj
        exact absurd (Or.inr h2) h
      · exact absurd (Or.inl (ih.mpr ⟨j, by omega, h2⟩)) h
theorem ku_cm {u : kS} {F G a b i j : Nat} {x y : Int32} (h : F ≠ G) : ku (ku u F a b x) G i j y = ku (ku u G i j y) F a b x := by
  funext F' i' j'
  by_cases h1 : F' = F
  · subst h1
    simp [ku, h]
  · by_cases h2 : F' = G
    · subst h2
      simp [ku, h1]
    · simp [ku, h1, h2]
/-- the frame f is taken: written, if it is dirty -/
def kTk (v : kS) (f : Nat) : kS := if v 3 f 0 = 0 then v else kBackR v f (kNat (v 1 f 0))
def kRoomR (u : kS) (n h : Nat) (r : Int32) (u9 : kS) : Prop :=
  (∃ f, f < n ∧ u 1 f 0 < 0 ∧ (∀ j, j < f → ¬ u 1 j 0 < 0) ∧ r = nI f ∧ u9 = u) ∨
  ((∀ j, j < n → ¬ u 1 j 0 < 0) ∧ (¬ ∃ j, j < n ∧ kMay u j (u 15 0 0)) ∧ r = -1 ∧ u9 = u) ∨
  (∃ f, f < n ∧ (∀ j, j < n → ¬ u 1 j 0 < 0) ∧ (kTurn n (u 15 0 0) (2 * n) u h).2 = some f ∧ r = nI f ∧ u9 = kTk (kTurn n (u 15 0 0) (2 * n) u h).1 f)
theorem k_wrap {h n : Nat} (hh : h < n) : (h + 1) % n = if h + 1 < n then h + 1 else 0 := by
  split
  · rename_i q; exact Nat.mod_eq_of_lt q
  · rename_i q
    have e : h + 1 = n := by omega
    rw [e, Nat.mod_self]
set_option maxHeartbeats 4000000 in
set_option maxRecDepth 100000 in
theorem r_room (l : Launch) (D : va_G) (c : Nat → ClassId) (rd : Nat → Nat) (n : Nat) (u : kS) (hn : n ≤ 8) (hF : u 21 0 0 = nI n) (h : Nat) (hh : h < n) (hH : u 6 0 0 = nI h) (hQ : ∀ f, f < n → u 3 f 0 ≠ 0 → ∃ q, q < 32 ∧ u 1 f 0 = nI q) (hTn : (∃ j, j < n ∧ kMay u j (u 15 0 0)) → ∃ f, (kTurn n (u 15 0 0) (2 * n) u h).2 = some f) : kR l D c rd yX4_room (Cond.code yX4_room cX4_room 3 (some .int)) 1 22 u [.ref (rd 0)] (fun v u9 => ∃ r, v = some (.int r) ∧ kRoomR u n h r u9) := by
  refine kR.mk (by decide) (by simp [Value.category]) (Nat.le_of_ble_eq_true rfl) ?_
  intro p e s m args below meth c9 cx hr
  have wl : ∀ (k : Nat) (v : kS) (g i : Nat) (x : Int32), g < n → v 6 0 0 = nI g → (∀ F a b, F ≠ 4 → F ≠ 6 → v F a b = u F a b) → (∀ j, j < n → ¬ u 1 j 0 < 0) → (∃ f, (kTurn n (u 15 0 0) (2 * n) u h).2 = some f) → kTurn n (u 15 0 0) (2 * n) u h = kTurn n (u 15 0 0) k v g → kgR p l e 1 22 s m args below meth c9 3 D c rd u (fun v u9 => ∃ r, v = some (.int r) ∧ kRoomR u n h r u9) v 53 [some (.ref (rd 0)), some (.int x), some (.int (nI i))] [] := by
    intro k
    induction k with
    | zero =>
      intro v g i x hg hv hk hno hex he
      obtain ⟨f, hf⟩ := hex
      rw [he] at hf
      cases hf
    | succ k ih =>
      intro v g i x hg hv hk hno hex he
      rw [kTurn_s] at he
      have hfl : v 15 0 0 = u 15 0 0 := hk 15 0 0 (by decide) (by decide)
      have hfr : v 21 0 0 = nI n := (hk 21 0 0 (by decide) (by decide)).trans hF
      refine kg_aload_n cx dX4_room_53 rfl ?_
      refine kg_aload_n cx dX4_room_54 rfl ?_
      refine kg_get (ci := 4) cx 0 10 kfs_X4 rfl (by decide) rfl rfl kf_X4_82 dX4_room_55 ?_
      refine kg_top (nI g) (hv) ?_
      refine kg_callV (ci := 4) (na := 1) cx (r_mayGo l D c rd v g (by omega)) 0 rfl rfl kcd_X4_mayGo km_X4_78 kin_X4 kim_X4_mayGo ksl_X4_mayGo (by decide +kernel) rfl (by decide) (by decide) rfl (Nat.le_of_ble_eq_true rfl) dX4_room_58 (fun _ => kr_adr _ _) (fun v9 u9 h9 => ?_)
      obtain ⟨rfl, h9⟩ := h9
      subst u9
      refine kg_if_eq cx 76 dX4_room_61 (by decide) (fun h1 => ?_) (fun h1 => ?_)
      · have hm : ¬ kMay v g (v 15 0 0) := fun q => absurd ((kb_1 q).symm.trans h1) (by decide)
        rw [if_neg (by rw [← hfl]; exact hm)] at he
        refine kg_aload_n cx dX4_room_76 rfl ?_
        refine kg_aload_n cx dX4_room_77 rfl ?_
        refine kg_get (ci := 4) cx 0 10 kfs_X4 rfl (by decide) rfl rfl kf_X4_82 dX4_room_78 ?_
        refine kg_top (nI g) (hv) ?_
        refine kg_callV (ci := 4) (na := 1) cx (r_mayGo l D c rd v g (by omega)) 0 rfl rfl kcd_X4_mayGo km_X4_78 kin_X4 kim_X4_mayGo ksl_X4_mayGo (by decide +kernel) rfl (by decide) (by decide) rfl (Nat.le_of_ble_eq_true rfl) dX4_room_81 (fun _ => kr_adr _ _) (fun v9 u9 h9 => ?_)
        obtain ⟨rfl, h9⟩ := h9
        subst u9
        refine kg_top 0 (kb_0 hm) ?_
        refine kg_if_eq cx 97 dX4_room_84 (by decide) (fun h9 => ?_) (fun h9 => absurd h9 (by decide))
        refine kg_aload_n cx dX4_room_97 rfl ?_
        refine kg_aload_n cx dX4_room_98 rfl ?_
        refine kg_get (ci := 4) cx 0 10 kfs_X4 rfl (by decide) rfl rfl kf_X4_82 dX4_room_99 ?_
        refine kg_top (nI g) (hv) ?_
        refine kg_iconst (v := 1) cx dX4_room_102 (by decide) ?_
        refine kg_iadd cx dX4_room_103 ?_
        refine kg_top (nI (g + 1)) (nI_1 g) ?_
        refine kg_aload_n cx dX4_room_104 rfl ?_
        refine kg_get (ci := 4) cx 0 1 kfs_X4 rfl (by decide) rfl rfl kf_X4_65 dX4_room_105 ?_
        refine kg_top (nI n) (hfr) ?_
        refine kg_irem cx dX4_room_108 (nI_ne0 (by omega) (by omega)) ?_
        refine kg_top (nI ((g + 1) % n)) (pk_rem (by omega) (by omega) (by omega)) ?_
        refine kg_put (ci := 4) (ty := .int) cx 0 10 kfs_X4 tyX4 tyX4_ok nmX4 rfl (by decide) rfl (Nat.le_of_ble_eq_true rfl) kf_X4_82 rfl (by decide +kernel) rfl rfl (kq_hand _) dX4_room_109 ?_
        refine kg_goto cx 53 dX4_room_112 (by decide) ?_
        rw [k_wrap hg]
        exact ih _ _ i x (by split <;> omega) (ku_s _ _ _ _ _) (fun F a b h4 h6 => (ku_F h6).trans (hk F a b h4 h6)) hno hex he
      · have hm : kMay v g (v 15 0 0) := by
          by_cases q : kMay v g (v 15 0 0)
          · exact q
          · exact absurd (kb_0 q) h1
        rw [if_pos (by rw [← hfl]; exact hm)] at he
        refine kg_aload_n cx dX4_room_64 rfl ?_
        refine kg_get (ci := 4) cx 0 9 kfs_X4 rfl (by decide) rfl rfl kf_X4_32 dX4_room_65 ?_
        refine kg_aload_n cx dX4_room_68 rfl ?_
        refine kg_get (ci := 4) cx 0 10 kfs_X4 rfl (by decide) rfl rfl kf_X4_82 dX4_room_69 ?_
        refine kg_top (nI g) (hv) ?_
        refine kg_zaldN cx 8 1 g rfl rfl (rfl) (by omega) (by decide) (rfl) dX4_room_72 ?_
        refine kg_if_eq cx 115 dX4_room_73 (by decide) (fun h2 => ?_) (fun h2 => ?_)
        · rw [if_pos h2, ← k_wrap hg] at he
          have e1 : (kTurn n (u 15 0 0) (2 * n) u h).2 = some g := by rw [he]
          have e2 : (kTurn n (u 15 0 0) (2 * n) u h).1 = ku v 6 0 0 (nI ((g + 1) % n)) := by rw [he]
          refine kg_aload_n cx dX4_room_115 rfl ?_
          refine kg_get (ci := 4) cx 0 10 kfs_X4 rfl (by decide) rfl rfl kf_X4_82 dX4_room_116 ?_
          refine kg_top (nI g) (hv) ?_
          refine kg_istore_n cx dX4_room_119 (by decide) ?_
          refine kg_aload_n cx dX4_room_120 rfl ?_
          refine kg_aload_n cx dX4_room_121 rfl ?_
          refine kg_get (ci := 4) cx 0 10 kfs_X4 rfl (by decide) rfl rfl kf_X4_82 dX4_room_122 ?_
          refine kg_top (nI g) (hv) ?_
          refine kg_iconst (v := 1) cx dX4_room_125 (by decide) ?_
          refine kg_iadd cx dX4_room_126 ?_
          refine kg_top (nI (g + 1)) (nI_1 g) ?_
          refine kg_aload_n cx dX4_room_127 rfl ?_
          refine kg_get (ci := 4) cx 0 1 kfs_X4 rfl (by decide) rfl rfl kf_X4_65 dX4_room_128 ?_
          refine kg_top (nI n) (hfr) ?_
          refine kg_irem cx dX4_room_131 (nI_ne0 (by omega) (by omega)) ?_
          refine kg_top (nI ((g + 1) % n)) (pk_rem (by omega) (by omega) (by omega)) ?_
          refine kg_put (ci := 4) (ty := .int) cx 0 10 kfs_X4 tyX4 tyX4_ok nmX4 rfl (by decide) rfl (Nat.le_of_ble_eq_true rfl) kf_X4_82 rfl (by decide +kernel) rfl rfl (kq_hand _) dX4_room_132 ?_
          refine kg_aload_n cx dX4_room_135 rfl ?_
          refine kg_get (ci := 4) cx 0 8 kfs_X4 rfl (by decide) rfl rfl kf_X4_28 dX4_room_136 ?_
          refine kg_iload_n cx dX4_room_139 rfl ?_
          refine kg_zaldN cx 7 1 g rfl rfl (rfl) (by omega) (by decide) (rfl) dX4_room_140 ?_
          refine kg_if_eq cx 149 dX4_room_141 (by decide) (fun h3 => ?_) (fun h3 => ?_)
          · refine kg_iload_n cx dX4_room_149 rfl ?_
            exact kg_ireturn cx hr (rfl) _ rfl (⟨_, rfl, Or.inr (Or.inr ⟨g, hg, hno, e1, rfl, by rw [e2]; unfold kTk; rw [if_pos h3]⟩)⟩) dX4_room_150
          · obtain ⟨q, hq, hq2⟩ := hQ g hg (fun q9 => h3 ((ku_F (by decide)).trans ((hk 3 g 0 (by decide) (by decide)).trans q9)))
            have hq3 : ku v 6 0 0 (nI ((g + 1) % n)) 1 g 0 = nI q := (ku_F (by decide)).trans ((hk 1 g 0 (by decide) (by decide)).trans hq2)
            refine kg_aload_n cx dX4_room_144 rfl ?_
            refine kg_iload_n cx dX4_room_145 rfl ?_
            refine kg_callV (ci := 4) (na := 1) cx (r_write l D c rd _ g q (by omega) hq hq3) 0 rfl rfl kcd_X4_write km_X4_85 kin_X4 kim_X4_write ksl_X4_write (by decide +kernel) rfl (by decide) (by decide) rfl (Nat.le_of_ble_eq_true rfl) dX4_room_146 (fun _ => kr_adr _ _) (fun v9 u9 h9 => ?_)
            obtain ⟨rfl, h9⟩ := h9
            subst u9
            refine kg_iload_n cx dX4_room_149 rfl ?_
            exact kg_ireturn cx hr (rfl) _ rfl (⟨_, rfl, Or.inr (Or.inr ⟨g, hg, hno, e1, rfl, by rw [e2]; unfold kTk; rw [if_neg h3, hq3, kNat_n (by omega)]⟩)⟩) dX4_room_150
        · rw [if_neg h2, ← k_wrap hg] at he
          refine kg_aload_n cx dX4_room_76 rfl ?_
          refine kg_aload_n cx dX4_room_77 rfl ?_
          refine kg_get (ci := 4) cx 0 10 kfs_X4 rfl (by decide) rfl rfl kf_X4_82 dX4_room_78 ?_
          refine kg_top (nI g) (hv) ?_
          refine kg_callV (ci := 4) (na := 1) cx (r_mayGo l D c rd v g (by omega)) 0 rfl rfl kcd_X4_mayGo km_X4_78 kin_X4 kim_X4_mayGo ksl_X4_mayGo (by decide +kernel) rfl (by decide) (by decide) rfl (Nat.le_of_ble_eq_true rfl) dX4_room_81 (fun _ => kr_adr _ _) (fun v9 u9 h9 => ?_)
          obtain ⟨rfl, h9⟩ := h9
          subst u9
          refine kg_top 1 (kb_1 hm) ?_
          refine kg_if_eq cx 97 dX4_room_84 (by decide) (fun h9 => absurd h9 (by decide)) (fun h9 => ?_)
          refine kg_aload_n cx dX4_room_87 rfl ?_
          refine kg_get (ci := 4) cx 0 9 kfs_X4 rfl (by decide) rfl rfl kf_X4_32 dX4_room_88 ?_
          refine kg_aload_n cx dX4_room_91 rfl ?_
          refine kg_get (ci := 4) cx 0 10 kfs_X4 rfl (by decide) rfl rfl kf_X4_82 dX4_room_92 ?_
          refine kg_top (nI g) (hv) ?_
          refine kg_iconst (v := 0) cx dX4_room_95 (by decide) ?_
          refine kg_zastN cx 8 1 g rfl rfl (rfl) (by omega) (by decide) (by decide) (kq_isMarked g _) dX4_room_96 ?_
          refine kg_aload_n cx dX4_room_97 rfl ?_
          refine kg_aload_n cx dX4_room_98 rfl ?_
          refine kg_get (ci := 4) cx 0 10 kfs_X4 rfl (by decide) rfl rfl kf_X4_82 dX4_room_99 ?_
          refine kg_top (nI g) ((ku_F (by decide)).trans hv) ?_
          refine kg_iconst (v := 1) cx dX4_room_102 (by decide) ?_
          refine kg_iadd cx dX4_room_103 ?_
          refine kg_top (nI (g + 1)) (nI_1 g) ?_
          refine kg_aload_n cx dX4_room_104 rfl ?_
          refine kg_get (ci := 4) cx 0 1 kfs_X4 rfl (by decide) rfl rfl kf_X4_65 dX4_room_105 ?_
          refine kg_top (nI n) ((ku_F (by decide)).trans hfr) ?_
          refine kg_irem cx dX4_room_108 (nI_ne0 (by omega) (by omega)) ?_
          refine kg_top (nI ((g + 1) % n)) (pk_rem (by omega) (by omega) (by omega)) ?_
          refine kg_put (ci := 4) (ty := .int) cx 0 10 kfs_X4 tyX4 tyX4_ok nmX4 rfl (by decide) rfl (Nat.le_of_ble_eq_true rfl) kf_X4_82 rfl (by decide +kernel) rfl rfl (kq_hand _) dX4_room_109 ?_
          refine kg_goto cx 53 dX4_room_112 (by decide) ?_
          refine kg_eq (congrArg (kr rd c) (ku_cm (by decide))) rfl rfl rfl ?_
          exact ih _ _ i x (by rw [k_wrap hg]; split <;> omega) ((ku_F (by decide)).trans (ku_s _ _ _ _ _)) (fun F a b h4 h6 => (ku_F h4).trans ((ku_F h6).trans (hk F a b h4 h6))) hno hex he
  refine kg_iconst (v := 0) cx dX4_room_0 (by decide) ?_
  refine kg_istore_n cx dX4_room_1 (by decide) ?_
  refine kg_iconst (v := 0) cx dX4_room_2 (by decide) ?_
  refine kg_istore_n cx dX4_room_3 (by decide) ?_
  have loop : ∀ (k i : Nat), n - i = k → i ≤ n → (∀ j, j < i → ¬ u 1 j 0 < 0) → kgR p l e 1 22 s m args below meth c9 3 D c rd u (fun v u9 => ∃ r, v = some (.int r) ∧ kRoomR u n h r u9) u 4 [some (.ref (rd 0)), some (.int (kSm u i)), some (.int (nI i))] [] := by
    intro k
    induction k with
    | zero =>
      intro i hk hi hj
      have e8 : i = n := by omega
      subst i
      refine kg_iload_n cx dX4_room_4 rfl ?_
      refine kg_aload_n cx dX4_room_5 rfl ?_
      refine kg_get (ci := 4) cx 0 1 kfs_X4 rfl (by decide) rfl rfl kf_X4_65 dX4_room_6 ?_
      refine kg_top (nI n) (hF) ?_
      refine kg_icmp_ge cx 47 dX4_room_9 (by decide) (fun h1 => ?_) (fun h1 => ?_)
      · refine kg_iload_n cx dX4_room_47 rfl ?_
        refine kg_if_ne cx 53 dX4_room_48 (by decide) (fun h2 => ?_) (fun h2 => ?_)
        · exact wl (2 * n) u h n _ hh hH (fun _ _ _ _ _ => rfl) hj (hTn ((kSm_iff u n).mp h2)) rfl
        · refine kg_iconst (v := (-1)) cx dX4_room_51 (by decide) ?_
          exact kg_ireturn cx hr (rfl) _ rfl (⟨_, rfl, Or.inr (Or.inl ⟨hj, fun q => (kSm_iff u n).mpr q h2, rfl, rfl⟩)⟩) dX4_room_52
      · exact absurd (Int32.le_refl _) h1
    | succ k ih =>
      intro i hk hi hj
      have hin : i < n := by omega
      refine kg_iload_n cx dX4_room_4 rfl ?_
      refine kg_aload_n cx dX4_room_5 rfl ?_
      refine kg_get (ci := 4) cx 0 1 kfs_X4 rfl (by decide) rfl rfl kf_X4_65 dX4_room_6 ?_
      refine kg_top (nI n) (hF) ?_
      refine kg_icmp_ge cx 47 dX4_room_9 (by decide) (fun h1 => ?_) (fun h1 => ?_)
      · exact absurd h1 (nI_ge hin (by omega))
      · refine kg_aload_n cx dX4_room_12 rfl ?_
        refine kg_get (ci := 4) cx 0 4 kfs_X4 rfl (by decide) rfl rfl kf_X4_16 dX4_room_13 ?_
        refine kg_iload_n cx dX4_room_16 rfl ?_
        refine kg_ialdN cx 3 0 i rfl rfl (rfl) (by omega) (by decide) (rfl) dX4_room_17 ?_
        refine kg_if_ge cx 23 dX4_room_18 (by decide) (fun h2 => ?_) (fun h2 => ?_)
        · refine kg_iload_n cx dX4_room_23 rfl ?_
          refine kg_if_ne cx 35 dX4_room_24 (by decide) (fun h3 => ?_) (fun h3 => ?_)
          · refine kg_iconst (v := 1) cx dX4_room_35 (by decide) ?_
            refine kg_goto cx 40 dX4_room_36 (by decide) ?_
            refine kg_istore_n cx dX4_room_40 (by decide) ?_
            refine kg_iinc (v := nI (i + 1)) cx dX4_room_41 rfl (nI_1 i) (by decide) ?_
            refine kg_goto cx 4 dX4_room_44 (by decide) ?_
            have e9 : kSm u (i + 1) = 1 := kb_1 (Or.inl h3)
            have := ih (i + 1) (by omega) (by omega) (fun j hj9 => by
              by_cases e8 : j = i
              · rw [e8]; exact Int32.not_lt.mpr h2
              · exact hj j (by omega))
            rw [e9] at this
            exact this
          · refine kg_aload_n cx dX4_room_27 rfl ?_
            refine kg_iload_n cx dX4_room_28 rfl ?_
            refine kg_callV (ci := 4) (na := 1) cx (r_mayGo l D c rd u i (by omega)) 0 rfl rfl kcd_X4_mayGo km_X4_78 kin_X4 kim_X4_mayGo ksl_X4_mayGo (by decide +kernel) rfl (by decide) (by decide) rfl (Nat.le_of_ble_eq_true rfl) dX4_room_29 (fun _ => kr_adr _ _) (fun v9 u9 h9 => ?_)
            obtain ⟨rfl, h9⟩ := h9
            subst u9
            refine kg_if_eq cx 39 dX4_room_32 (by decide) (fun h4 => ?_) (fun h4 => ?_)
            · refine kg_iconst (v := 0) cx dX4_room_39 (by decide) ?_
              refine kg_istore_n cx dX4_room_40 (by decide) ?_
              refine kg_iinc (v := nI (i + 1)) cx dX4_room_41 rfl (nI_1 i) (by decide) ?_
              refine kg_goto cx 4 dX4_room_44 (by decide) ?_
              have e9 : kSm u (i + 1) = 0 := kb_0 (fun q => q.elim (fun q => q h3) (fun q => absurd ((kb_1 q).symm.trans h4) (by decide)))
              have := ih (i + 1) (by omega) (by omega) (fun j hj9 => by
                by_cases e8 : j = i
                · rw [e8]; exact Int32.not_lt.mpr h2
                · exact hj j (by omega))
              rw [e9] at this
              exact this
            · refine kg_iconst (v := 1) cx dX4_room_35 (by decide) ?_
              refine kg_goto cx 40 dX4_room_36 (by decide) ?_
              refine kg_istore_n cx dX4_room_40 (by decide) ?_
              refine kg_iinc (v := nI (i + 1)) cx dX4_room_41 rfl (nI_1 i) (by decide) ?_
              refine kg_goto cx 4 dX4_room_44 (by decide) ?_
              have e9 : kSm u (i + 1) = 1 := kb_1 (Or.inr (by
                by_cases q : kMay u i (u 15 0 0)
                · exact q
                · exact absurd (kb_0 q) h4))
              have := ih (i + 1) (by omega) (by omega) (fun j hj9 => by
                by_cases e8 : j = i
                · rw [e8]; exact Int32.not_lt.mpr h2
                · exact hj j (by omega))
              rw [e9] at this
              exact this
        · refine kg_iload_n cx dX4_room_21 rfl ?_
          exact kg_ireturn cx hr (rfl) _ rfl (⟨_, rfl, Or.inl ⟨i, hin, Int32.not_le.mp h2, hj, rfl, rfl⟩⟩) dX4_room_22
  exact loop n 0 rfl (Nat.zero_le _) (fun j h => absurd h (Nat.not_lt_zero _))
end
section
def kcN (u : kS) (f q k : Nat) : kS := fun F i j => if F = 23 ∧ i = f ∧ j < k then u 0 q j else u F i j
theorem kcN_0 (u : kS) (f q : Nat) : kcN u f q 0 = u := by funext F i j; simp [kcN]
theorem kcN_s (u : kS) (f q k : Nat) : ku (kcN u f q k) 23 f k (u 0 q k) = kcN u f q (k + 1) := by
  funext F i j
  by_cases h1 : F = 23
  · subst h1
    by_cases h2 : i = f
    · subst h2
      by_cases h3 : j = k
      · simp [ku, kcN, h3]
      · by_cases h4 : j < k
        · simp [ku, kcN, h3, h4, Nat.lt_succ_of_lt h4]
        · simp [ku, kcN, h3, h4, show ¬ j < k + 1 by omega]
    · simp [ku, kcN, h2]
  · simp [ku, kcN, h1]
def kLd0 (u : kS) (q f : Nat) : kS := ku (ku (ku (ku u 1 f 0 (nI q)) 2 f 0 0) 3 f 0 0) 5 f 8 (u 0 q 8)
/-- the page q comes into the frame f, by the reference -/
def kLoadR (u : kS) (q f : Nat) : kS := ku (kcN (kLd0 u q f) f q 8) 8 0 0 (u 8 0 0 + 1)
def kBringR (u : kS) (n q h : Nat) (r : Int32) (u9 : kS) : Prop :=
  (∃ f, f < n ∧ u 1 f 0 = nI q ∧ (∀ j, j < f → u 1 j 0 ≠ nI q) ∧ r = nI f ∧ u9 = ku u 4 f 0 1) ∨
  ((∀ j, j < n → u 1 j 0 ≠ nI q) ∧ ∃ r1 u1, kRoomR u n h r1 u1 ∧ ((r1 = -1 ∧ r = -1 ∧ u9 = u1) ∨ (∃ f, f < n ∧ r1 = nI f ∧ r = nI f ∧ u9 = ku (kLoadR u1 q f) 4 f 0 1)))
theorem kRoomR_r {u : kS} {n h : Nat} {r : Int32} {u9 : kS} (hb : kRoomR u n h r u9) : (∃ f, f < n ∧ r = nI f) ∨ r = -1 := by
  rcases hb with ⟨f, h1, -, -, h2, -⟩ | ⟨-, -, h2, -⟩ | ⟨f, h1, -, -, h2, -⟩
  · exact Or.inl ⟨f, h1, h2⟩
  · exact Or.inr h2
  · exact Or.inl ⟨f, h1, h2⟩
theorem kBringR_r {u : kS} {n q h : Nat} {r : Int32} {u9 : kS} (hb : kBringR u n q h r u9) : (∃ f, f < n ∧ r = nI f) ∨ r = -1 := by
  rcases hb with ⟨f, h1, -, -, h2, -⟩ | ⟨-, r1, u1, -, ⟨-, h2, -⟩ | ⟨f, h1, -, h2, -⟩⟩
  · exact Or.inl ⟨f, h1, h2⟩
  · exact Or.inr h2
  · exact Or.inl ⟨f, h1, h2⟩
theorem kIn_iff {x : Int32} {B : Nat} (hB : B < 2 ^ 30) : (0 ≤ x ∧ x ≤ nI B) ↔ kIn x (B + 1) := by
  constructor
  · rintro ⟨h1, h2⟩
    rcases pk_ix x (n := B + 1) (by omega) with h | h | h
    · exact absurd h (Int32.not_lt.mpr h1)
    · exact absurd (Int32.le_trans h h2) (nI_ge (show B < B + 1 by omega) (by omega))
    · exact h
  · rintro ⟨j, hj, rfl⟩
    exact ⟨nI_pos' (by omega), nI_le (by omega) (by omega)⟩
theorem kPinR_20 {u : kS} {n f : Nat} {pg x : Int32} : kPinR (ku u 20 0 0 x) n pg f ↔ kPinR u n pg f := by simp [kPinR, ku]
set_option maxHeartbeats 4000000 in
set_option maxRecDepth 100000 in
theorem r_bring (l : Launch) (D : va_G) (c : Nat → ClassId) (rd : Nat → Nat) (n : Nat) (u : kS) (hn : n ≤ 8) (hF : u 21 0 0 = nI n) (q : Nat) (hq : q < 32) (h : Nat) (hh : h < n) (hH : u 6 0 0 = nI h) (hQ : ∀ f, f < n → u 3 f 0 ≠ 0 → ∃ q, q < 32 ∧ u 1 f 0 = nI q) (hTn : (∃ j, j < n ∧ kMay u j (u 15 0 0)) → ∃ f, (kTurn n (u 15 0 0) (2 * n) u h).2 = some f) : kR l D c rd yX4_bring (Cond.code yX4_bring cX4_bring 4 (some .int)) 2 44 u [.ref (rd 0), .int (nI q)] (fun v u9 => ∃ r, v = some (.int r) ∧ kBringR u n q h r u9) := by
  refine kR.mk (by decide) (by simp [Value.category]) (Nat.le_of_ble_eq_true rfl) ?_
  intro p e s m args below meth c9 cx hr
  refine kg_aload_n cx dX4_bring_0 rfl ?_
  refine kg_iload_n cx dX4_bring_1 rfl ?_
  refine kg_callV (ci := 4) (na := 1) cx (r_frameOf l D c rd n u (nI q) hn hF) 0 rfl rfl kcd_X4_frameOf km_X4_89 kin_X4 kim_X4_frameOf ksl_X4_frameOf (by decide +kernel) rfl (by decide) (by decide) rfl (Nat.le_of_ble_eq_true rfl) dX4_bring_2 (fun _ => kr_adr _ _) (fun v9 u9 h9 => ?_)
  obtain ⟨⟨r9, rfl, hr9⟩, h9⟩ := h9
  subst u9
  rcases hr9 with ⟨f, hf, rfl, hpf, hlf⟩ | ⟨rfl, hno⟩
  · refine kg_istore_n cx dX4_bring_5 (by decide) ?_
    refine kg_iload_n cx dX4_bring_6 rfl ?_
    refine kg_if_ge cx 100 dX4_bring_7 (by decide) (fun h9 => ?_) (fun h9 => absurd (nI_ge0 (by omega)) h9)
    refine kg_aload_n cx dX4_bring_100 rfl ?_
    refine kg_get (ci := 4) cx 0 9 kfs_X4 rfl (by decide) rfl rfl kf_X4_32 dX4_bring_101 ?_
    refine kg_iload_n cx dX4_bring_104 rfl ?_
    refine kg_iconst (v := 1) cx dX4_bring_105 (by decide) ?_
    refine kg_zastN cx 8 1 f rfl rfl (rfl) (by omega) (by decide) (by decide) (kq_isMarked f _) dX4_bring_106 ?_
    refine kg_iload_n cx dX4_bring_107 rfl ?_
    exact kg_ireturn cx hr (rfl) _ rfl (⟨_, rfl, Or.inl ⟨f, hf, hpf, hlf, rfl, rfl⟩⟩) dX4_bring_108
  · refine kg_istore_n cx dX4_bring_5 (by decide) ?_
    refine kg_iload_n cx dX4_bring_6 rfl ?_
    refine kg_if_ge cx 100 dX4_bring_7 (by decide) (fun h9 => absurd h9 (by decide)) (fun h9 => ?_)
    refine kg_aload_n cx dX4_bring_10 rfl ?_
    refine kg_callV (ci := 4) (na := 0) cx (r_room l D c rd n u hn hF h hh hH hQ hTn) 0 rfl rfl kcd_X4_room km_X4_93 kin_X4 kim_X4_room ksl_X4_room (by decide +kernel) rfl (by decide) (by decide) rfl (Nat.le_of_ble_eq_true rfl) dX4_bring_11 (fun _ => kr_adr _ _) (fun v9 u9 h9 => ?_)
    obtain ⟨r9, rfl, hr9⟩ := h9
    rcases kRoomR_r hr9 with ⟨f, hf, rfl⟩ | rfl
    · refine kg_istore_n cx dX4_bring_14 (by decide) ?_
      refine kg_iload_n cx dX4_bring_15 rfl ?_
      refine kg_if_ge cx 21 dX4_bring_16 (by decide) (fun h9 => ?_) (fun h9 => absurd (nI_ge0 (by omega)) h9)
      refine kg_aload_n cx dX4_bring_21 rfl ?_
      refine kg_get (ci := 4) cx 0 4 kfs_X4 rfl (by decide) rfl rfl kf_X4_16 dX4_bring_22 ?_
      refine kg_iload_n cx dX4_bring_25 rfl ?_
      refine kg_iload_n cx dX4_bring_26 rfl ?_
      refine kg_iastN cx 3 0 f rfl rfl (rfl) (by omega) (by decide) (kq_held f _) dX4_bring_27 ?_
      refine kg_aload_n cx dX4_bring_28 rfl ?_
      refine kg_get (ci := 4) cx 0 7 kfs_X4 rfl (by decide) rfl rfl kf_X4_25 dX4_bring_29 ?_
      refine kg_iload_n cx dX4_bring_32 rfl ?_
      refine kg_iconst (v := 0) cx dX4_bring_33 (by decide) ?_
      refine kg_iastN cx 6 0 f rfl rfl (rfl) (by omega) (by decide) (kq_pins f _) dX4_bring_34 ?_
      refine kg_aload_n cx dX4_bring_35 rfl ?_
      refine kg_get (ci := 4) cx 0 8 kfs_X4 rfl (by decide) rfl rfl kf_X4_28 dX4_bring_36 ?_
      refine kg_iload_n cx dX4_bring_39 rfl ?_
      refine kg_iconst (v := 0) cx dX4_bring_40 (by decide) ?_
      refine kg_zastN cx 7 1 f rfl rfl (rfl) (by omega) (by decide) (by decide) (kq_isDirty f _) dX4_bring_41 ?_
      refine kg_aload_n cx dX4_bring_42 rfl ?_
      refine kg_get (ci := 4) cx 0 6 kfs_X4 rfl (by decide) rfl rfl kf_X4_22 dX4_bring_43 ?_
      refine kg_iload_n cx dX4_bring_46 rfl ?_
      refine kg_aload_n cx dX4_bring_47 rfl ?_
      refine kg_get (ci := 4) cx 0 3 kfs_X4 rfl (by decide) rfl rfl kf_X4_13 dX4_bring_48 ?_
      refine kg_iload_n cx dX4_bring_51 rfl ?_
      refine kg_ialdN (v := (u9 0 q 8)) cx 2 0 q rfl rfl (rfl) (hq) (by decide) (by simp [ku]) dX4_bring_52 ?_
      refine kg_iastN cx 5 0 f rfl rfl (rfl) (by omega) (by decide) (kq_frameLsn f _) dX4_bring_53 ?_
      refine kg_iconst (v := 0) cx dX4_bring_54 (by decide) ?_
      refine kg_istore_n cx dX4_bring_55 (by decide) ?_
      have loop : ∀ (k i : Nat), 8 - i = k → i ≤ 8 → kgR p l e 2 44 s m args below meth c9 4 D c rd u (fun v u9 => ∃ r, v = some (.int r) ∧ kBringR u n q h r u9) (kcN (kLd0 u9 q f) f q i) 56 [some (.ref (rd 0)), some (.int (nI q)), some (.int (nI f)), some (.int (nI i))] [] := by
        intro k
        induction k with
        | zero =>
          intro i hk hi
          have e8 : i = 8 := by omega
          subst i
          refine kg_iload_n cx dX4_bring_56 rfl ?_
          refine kg_bipush (v := (nI 8)) cx dX4_bring_57 (by decide) ?_
          refine kg_icmp_ge cx 90 dX4_bring_59 (by decide) (fun h1 => ?_) (fun h1 => ?_)
          · refine kg_aload_n cx dX4_bring_90 rfl ?_
            refine kg_dup cx dX4_bring_91 rfl ?_
            refine kg_get (ci := 4) cx 0 24 kfs_X4 rfl (by decide) rfl rfl kf_X4_97 dX4_bring_92 ?_
            refine kg_top (u9 8 0 0) (by simp [kcN, kLd0, ku]) ?_
            refine kg_iconst (v := 1) cx dX4_bring_95 (by decide) ?_
            refine kg_iadd cx dX4_bring_96 ?_
            refine kg_put (ci := 4) (ty := .int) cx 0 24 kfs_X4 tyX4 tyX4_ok nmX4 rfl (by decide) rfl (Nat.le_of_ble_eq_true rfl) kf_X4_97 rfl (by decide +kernel) rfl rfl (kq_come _) dX4_bring_97 ?_
            refine kg_aload_n cx dX4_bring_100 rfl ?_
            refine kg_get (ci := 4) cx 0 9 kfs_X4 rfl (by decide) rfl rfl kf_X4_32 dX4_bring_101 ?_
            refine kg_iload_n cx dX4_bring_104 rfl ?_
            refine kg_iconst (v := 1) cx dX4_bring_105 (by decide) ?_
            refine kg_zastN cx 8 1 f rfl rfl (rfl) (by omega) (by decide) (by decide) (kq_isMarked f _) dX4_bring_106 ?_
            refine kg_iload_n cx dX4_bring_107 rfl ?_
            exact kg_ireturn cx hr (rfl) _ rfl (⟨_, rfl, Or.inr ⟨hno, _, _, hr9, Or.inr ⟨f, hf, rfl, rfl, rfl⟩⟩⟩) dX4_bring_108
          · exact absurd (Int32.le_refl _) h1
        | succ k ih =>
          intro i hk hi
          have hin : i < 8 := by omega
          refine kg_iload_n cx dX4_bring_56 rfl ?_
          refine kg_bipush (v := (nI 8)) cx dX4_bring_57 (by decide) ?_
          refine kg_icmp_ge cx 90 dX4_bring_59 (by decide) (fun h1 => ?_) (fun h1 => ?_)
          · exact absurd h1 (nI_ge hin (by omega))
          · refine kg_aload_n cx dX4_bring_62 rfl ?_
            refine kg_get (ci := 4) cx 0 5 kfs_X4 rfl (by decide) rfl rfl kf_X4_19 dX4_bring_63 ?_
            refine kg_bipush (v := (nI 8)) cx dX4_bring_66 (by decide) ?_
            refine kg_iload_n cx dX4_bring_68 rfl ?_
            refine kg_imul cx dX4_bring_69 ?_
            refine kg_top (nI (8 * f)) (pk_mul 8 f) ?_
            refine kg_iload_n cx dX4_bring_70 rfl ?_
            refine kg_iadd cx dX4_bring_71 ?_
            refine kg_top (nI (8 * f + i)) (nI_add _ _) ?_
            refine kg_aload_n cx dX4_bring_72 rfl ?_
            refine kg_get (ci := 4) cx 0 2 kfs_X4 rfl (by decide) rfl rfl kf_X4_7 dX4_bring_73 ?_
            refine kg_bipush (v := (nI 8)) cx dX4_bring_76 (by decide) ?_
            refine kg_iload_n cx dX4_bring_78 rfl ?_
            refine kg_imul cx dX4_bring_79 ?_
            refine kg_top (nI (8 * q)) (pk_mul 8 q) ?_
            refine kg_iload_n cx dX4_bring_80 rfl ?_
            refine kg_iadd cx dX4_bring_81 ?_
            refine kg_top (nI (8 * q + i)) (nI_add _ _) ?_
            refine kg_ialdN (v := (kLd0 u9 q f 0 q i)) cx 1 0 (8 * q + i) rfl rfl (rfl) (by omega) (by decide) (by show kcN (kLd0 u9 q f) f q i 0 ((8 * q + i) / 8) ((8 * q + i) % 8) = _; rw [show (8 * q + i) / 8 = q by omega, show (8 * q + i) % 8 = i by omega]; simp [kcN]) dX4_bring_82 ?_
            refine kg_iastN cx 4 0 (8 * f + i) rfl rfl (rfl) (by omega) (by decide) (kq_number f i hin _) dX4_bring_83 ?_
            refine kg_iinc (v := nI (i + 1)) cx dX4_bring_84 rfl (nI_1 i) (by decide) ?_
            refine kg_goto cx 56 dX4_bring_87 (by decide) ?_
            have := ih (i + 1) (by omega) (by omega)
            rw [← kcN_s] at this
            exact this
      have := loop 8 0 rfl (by decide)
      rw [kcN_0] at this
      exact this
    · refine kg_istore_n cx dX4_bring_14 (by decide) ?_
      refine kg_iload_n cx dX4_bring_15 rfl ?_
      refine kg_if_ge cx 21 dX4_bring_16 (by decide) (fun h9 => absurd h9 (by decide)) (fun h9 => ?_)
      refine kg_iconst (v := (-1)) cx dX4_bring_19 (by decide) ?_
      exact kg_ireturn cx hr (rfl) _ rfl (⟨_, rfl, Or.inr ⟨hno, _, _, hr9, Or.inl ⟨rfl, rfl, rfl⟩⟩⟩) dX4_bring_20
set_option maxHeartbeats 4000000 in
set_option maxRecDepth 100000 in
theorem r_fetch_bad (l : Launch) (D : va_G) (c : Nat → ClassId) (rd : Nat → Nat) (u : kS) (x : Int32) (hx : ¬ kIn x 32) : kR l D c rd yX4_fetch (Cond.code yX4_fetch cX4_fetch 3 (some .int)) 3 67 u [.ref (rd 0), .int x] (fun v u9 => v = some (.int 0) ∧ u9 = ku u 20 0 0 1) := by
  refine kR.mk (by decide) (by simp [Value.category]) (Nat.le_of_ble_eq_true rfl) ?_
  intro p e s m args below meth c9 cx hr
  refine kg_aload_n cx dX4_fetch_0 rfl ?_
  refine kg_iload_n cx dX4_fetch_1 rfl ?_
  refine kg_iconst (v := 0) cx dX4_fetch_2 (by decide) ?_
  refine kg_bipush (v := (nI 31)) cx dX4_fetch_3 (by decide) ?_
  refine kg_callS (na := 3) cx (r_isIn l D c rd u x 0 (nI 31)) kcd_X4_isIn km_X4_100 kin_X4 kst_X4_isIn (by decide +kernel) rfl (by decide) (by decide) rfl (Nat.le_of_ble_eq_true rfl) dX4_fetch_5 (fun _ => kr_adr _ _) (fun v9 u9 h9 => ?_)
  obtain ⟨rfl, h9⟩ := h9
  subst u9
  refine kg_top 0 (kb_0 (fun q9 => hx ((kIn_iff (by decide)).mp q9))) ?_
  refine kg_if_eq cx 15 dX4_fetch_8 (by decide) (fun h9 => ?_) (fun h9 => absurd h9 (by decide))
  refine kg_iconst (v := 1) cx dX4_fetch_15 (by decide) ?_
  refine kg_callV (ci := 4) (na := 1) cx (r_refused l D c rd u 1) 0 rfl rfl kcd_X4_refused km_X4_104 kin_X4 kim_X4_refused ksl_X4_refused (by decide +kernel) rfl (by decide) (by decide) rfl (Nat.le_of_ble_eq_true rfl) dX4_fetch_16 (fun _ => kr_adr _ _) (fun v9 u9 h9 => ?_)
  obtain ⟨rfl, h9⟩ := h9
  subst u9
  refine kg_top 1 (kb_1 (by decide)) ?_
  refine kg_if_eq cx 24 dX4_fetch_19 (by decide) (fun h9 => absurd h9 (by decide)) (fun h9 => ?_)
  refine kg_iconst (v := 0) cx dX4_fetch_22 (by decide) ?_
  exact kg_ireturn cx hr (rfl) _ rfl (⟨rfl, rfl⟩) dX4_fetch_23
set_option maxHeartbeats 4000000 in
set_option maxRecDepth 100000 in
theorem r_fetch_ok (l : Launch) (D : va_G) (c : Nat → ClassId) (rd : Nat → Nat) (n : Nat) (u : kS) (w9 : kS) (hw : ku u 20 0 0 0 = w9) (hn : n ≤ 8) (hF : w9 21 0 0 = nI n) (q : Nat) (hq : q < 32) (h : Nat) (hh : h < n) (hH : w9 6 0 0 = nI h) (hQ : ∀ f, f < n → w9 3 f 0 ≠ 0 → ∃ q, q < 32 ∧ w9 1 f 0 = nI q) (hTn : (∃ j, j < n ∧ kMay w9 j (w9 15 0 0)) → ∃ f, (kTurn n (w9 15 0 0) (2 * n) w9 h).2 = some f) : kR l D c rd yX4_fetch (Cond.code yX4_fetch cX4_fetch 3 (some .int)) 3 67 u [.ref (rd 0), .int (nI q)] (fun v u9 => (kBringR w9 n q h (-1) u9 ∧ v = some (.int (-2))) ∨ (∃ f u1, f < n ∧ kBringR w9 n q h (nI f) u1 ∧ v = some (.int (nI f)) ∧ u9 = ku u1 2 f 0 (u1 2 f 0 + 1))) := by
  refine kR.mk (by decide) (by simp [Value.category]) (Nat.le_of_ble_eq_true rfl) ?_
  intro p e s m args below meth c9 cx hr
  refine kg_aload_n cx dX4_fetch_0 rfl ?_
  refine kg_iload_n cx dX4_fetch_1 rfl ?_
  refine kg_iconst (v := 0) cx dX4_fetch_2 (by decide) ?_
  refine kg_bipush (v := (nI 31)) cx dX4_fetch_3 (by decide) ?_
  refine kg_callS (na := 3) cx (r_isIn l D c rd u (nI q) 0 (nI 31)) kcd_X4_isIn km_X4_100 kin_X4 kst_X4_isIn (by decide +kernel) rfl (by decide) (by decide) rfl (Nat.le_of_ble_eq_true rfl) dX4_fetch_5 (fun _ => kr_adr _ _) (fun v9 u9 h9 => ?_)
  obtain ⟨rfl, h9⟩ := h9
  subst u9
  refine kg_top 1 (kb_1 ((kIn_iff (by decide)).mpr ⟨q, hq, rfl⟩)) ?_
  refine kg_if_eq cx 15 dX4_fetch_8 (by decide) (fun h9 => absurd h9 (by decide)) (fun h9 => ?_)
  refine kg_iconst (v := 0) cx dX4_fetch_11 (by decide) ?_
  refine kg_goto cx 16 dX4_fetch_12 (by decide) ?_
  refine kg_callV (ci := 4) (na := 1) cx (r_refused l D c rd u 0) 0 rfl rfl kcd_X4_refused km_X4_104 kin_X4 kim_X4_refused ksl_X4_refused (by decide +kernel) rfl (by decide) (by decide) rfl (Nat.le_of_ble_eq_true rfl) dX4_fetch_16 (fun _ => kr_adr _ _) (fun v9 u9 h9 => ?_)
  obtain ⟨rfl, h9⟩ := h9
  subst u9
  refine kg_top 0 (kb_0 (by decide)) ?_
  refine kg_if_eq cx 24 dX4_fetch_19 (by decide) (fun h9 => ?_) (fun h9 => absurd h9 (by decide))
  refine kg_eq (congrArg (kr rd c) hw) rfl rfl rfl ?_
  refine kg_aload_n cx dX4_fetch_24 rfl ?_
  refine kg_iload_n cx dX4_fetch_25 rfl ?_
  refine kg_callV (ci := 4) (na := 1) cx (r_bring l D c rd n w9 hn hF q hq h hh hH hQ hTn) 0 rfl rfl kcd_X4_bring km_X4_107 kin_X4 kim_X4_bring ksl_X4_bring (by decide +kernel) rfl (by decide) (by decide) rfl (Nat.le_of_ble_eq_true rfl) dX4_fetch_26 (fun _ => kr_adr _ _) (fun v9 u9 h9 => ?_)
  obtain ⟨r9, rfl, hr9⟩ := h9
  rcases kBringR_r hr9 with ⟨f, hf, rfl⟩ | rfl
  · refine kg_istore_n cx dX4_fetch_29 (by decide) ?_
    refine kg_iload_n cx dX4_fetch_30 rfl ?_
    refine kg_if_ge cx 37 dX4_fetch_31 (by decide) (fun h9 => ?_) (fun h9 => absurd (nI_ge0 (by omega)) h9)
    refine kg_aload_n cx dX4_fetch_37 rfl ?_
    refine kg_get (ci := 4) cx 0 7 kfs_X4 rfl (by decide) rfl rfl kf_X4_25 dX4_fetch_38 ?_
    refine kg_iload_n cx dX4_fetch_41 rfl ?_
    refine kg_dup2 cx dX4_fetch_42 rfl rfl ?_
    refine kg_ialdN cx 6 0 f rfl rfl (rfl) (by omega) (by decide) (rfl) dX4_fetch_43 ?_
    refine kg_iconst (v := 1) cx dX4_fetch_44 (by decide) ?_
    refine kg_iadd cx dX4_fetch_45 ?_
    refine kg_iastN cx 6 0 f rfl rfl (rfl) (by omega) (by decide) (kq_pins f _) dX4_fetch_46 ?_
    refine kg_iload_n cx dX4_fetch_47 rfl ?_
    exact kg_ireturn cx hr (rfl) _ rfl (Or.inr ⟨f, _, hf, hr9, rfl, rfl⟩) dX4_fetch_48
  · refine kg_istore_n cx dX4_fetch_29 (by decide) ?_
    refine kg_iload_n cx dX4_fetch_30 rfl ?_
    refine kg_if_ge cx 37 dX4_fetch_31 (by decide) (fun h9 => absurd h9 (by decide)) (fun h9 => ?_)
    refine kg_bipush (v := (-2)) cx dX4_fetch_34 (by decide) ?_
    exact kg_ireturn cx hr (rfl) _ rfl (Or.inl ⟨hr9, rfl⟩) dX4_fetch_36
set_option maxHeartbeats 4000000 in
set_option maxRecDepth 100000 in
theorem r_release_bad (l : Launch) (D : va_G) (c : Nat → ClassId) (rd : Nat → Nat) (u : kS) (x : Int32) (hx : ¬ kIn x 32) : kR l D c rd yX4_release (Cond.code yX4_release cX4_release 3 (some .int)) 2 44 u [.ref (rd 0), .int x] (fun v u9 => v = some (.int 0) ∧ u9 = ku u 20 0 0 1) := by
  refine kR.mk (by decide) (by simp [Value.category]) (Nat.le_of_ble_eq_true rfl) ?_
  intro p e s m args below meth c9 cx hr
  refine kg_aload_n cx dX4_release_0 rfl ?_
  refine kg_iload_n cx dX4_release_1 rfl ?_
  refine kg_iconst (v := 0) cx dX4_release_2 (by decide) ?_
  refine kg_bipush (v := (nI 31)) cx dX4_release_3 (by decide) ?_
  refine kg_callS (na := 3) cx (r_isIn l D c rd u x 0 (nI 31)) kcd_X4_isIn km_X4_100 kin_X4 kst_X4_isIn (by decide +kernel) rfl (by decide) (by decide) rfl (Nat.le_of_ble_eq_true rfl) dX4_release_5 (fun _ => kr_adr _ _) (fun v9 u9 h9 => ?_)
  obtain ⟨rfl, h9⟩ := h9
  subst u9
  refine kg_top 0 (kb_0 (fun q9 => hx ((kIn_iff (by decide)).mp q9))) ?_
  refine kg_if_ne cx 15 dX4_release_8 (by decide) (fun h9 => absurd h9 (by decide)) (fun h9 => ?_)
  refine kg_iconst (v := 1) cx dX4_release_11 (by decide) ?_
  refine kg_goto cx 28 dX4_release_12 (by decide) ?_
  refine kg_callV (ci := 4) (na := 1) cx (r_refused l D c rd u 1) 0 rfl rfl kcd_X4_refused km_X4_104 kin_X4 kim_X4_refused ksl_X4_refused (by decide +kernel) rfl (by decide) (by decide) rfl (Nat.le_of_ble_eq_true rfl) dX4_release_28 (fun _ => kr_adr _ _) (fun v9 u9 h9 => ?_)
  obtain ⟨rfl, h9⟩ := h9
  subst u9
  refine kg_top 1 (kb_1 (by decide)) ?_
  refine kg_if_eq cx 36 dX4_release_31 (by decide) (fun h9 => absurd h9 (by decide)) (fun h9 => ?_)
  refine kg_iconst (v := 0) cx dX4_release_34 (by decide) ?_
  exact kg_ireturn cx hr (rfl) _ rfl (⟨rfl, rfl⟩) dX4_release_35
set_option maxHeartbeats 4000000 in
set_option maxRecDepth 100000 in
theorem r_release_bad2 (l : Launch) (D : va_G) (c : Nat → ClassId) (rd : Nat → Nat) (n : Nat) (u : kS) (hn : n ≤ 8) (hF : u 21 0 0 = nI n) (q : Nat) (hq : q < 32) (hf : ¬ ∃ f, kPinR u n (nI q) f) : kR l D c rd yX4_release (Cond.code yX4_release cX4_release 3 (some .int)) 2 44 u [.ref (rd 0), .int (nI q)] (fun v u9 => v = some (.int 0) ∧ u9 = ku u 20 0 0 (nI 2)) := by
  refine kR.mk (by decide) (by simp [Value.category]) (Nat.le_of_ble_eq_true rfl) ?_
  intro p e s m args below meth c9 cx hr
  refine kg_aload_n cx dX4_release_0 rfl ?_
  refine kg_iload_n cx dX4_release_1 rfl ?_
  refine kg_iconst (v := 0) cx dX4_release_2 (by decide) ?_
  refine kg_bipush (v := (nI 31)) cx dX4_release_3 (by decide) ?_
  refine kg_callS (na := 3) cx (r_isIn l D c rd u (nI q) 0 (nI 31)) kcd_X4_isIn km_X4_100 kin_X4 kst_X4_isIn (by decide +kernel) rfl (by decide) (by decide) rfl (Nat.le_of_ble_eq_true rfl) dX4_release_5 (fun _ => kr_adr _ _) (fun v9 u9 h9 => ?_)
  obtain ⟨rfl, h9⟩ := h9
  subst u9
  refine kg_top 1 (kb_1 ((kIn_iff (by decide)).mpr ⟨q, hq, rfl⟩)) ?_
  refine kg_if_ne cx 15 dX4_release_8 (by decide) (fun h9 => ?_) (fun h9 => absurd h9 (by decide))
  refine kg_aload_n cx dX4_release_15 rfl ?_
  refine kg_iload_n cx dX4_release_16 rfl ?_
  refine kg_callV (ci := 4) (na := 1) cx (r_isPinned l D c rd n u (nI q) hn hF) 0 rfl rfl kcd_X4_isPinned km_X4_110 kin_X4 kim_X4_isPinned ksl_X4_isPinned (by decide +kernel) rfl (by decide) (by decide) rfl (Nat.le_of_ble_eq_true rfl) dX4_release_17 (fun _ => kr_adr _ _) (fun v9 u9 h9 => ?_)
  obtain ⟨h9, e9⟩ := h9
  subst u9
  rcases h9 with ⟨hp9, rfl⟩ | ⟨hp9, rfl⟩
  case inl => exact absurd hp9 hf
  refine kg_if_ne cx 27 dX4_release_20 (by decide) (fun h9 => absurd h9 (by decide)) (fun h9 => ?_)
  refine kg_iconst (v := (nI 2)) cx dX4_release_23 (by decide) ?_
  refine kg_goto cx 28 dX4_release_24 (by decide) ?_
  refine kg_callV (ci := 4) (na := 1) cx (r_refused l D c rd u (nI 2)) 0 rfl rfl kcd_X4_refused km_X4_104 kin_X4 kim_X4_refused ksl_X4_refused (by decide +kernel) rfl (by decide) (by decide) rfl (Nat.le_of_ble_eq_true rfl) dX4_release_28 (fun _ => kr_adr _ _) (fun v9 u9 h9 => ?_)
  obtain ⟨rfl, h9⟩ := h9
  subst u9
  refine kg_top 1 (kb_1 (by decide)) ?_
  refine kg_if_eq cx 36 dX4_release_31 (by decide) (fun h9 => absurd h9 (by decide)) (fun h9 => ?_)
  refine kg_iconst (v := 0) cx dX4_release_34 (by decide) ?_
  exact kg_ireturn cx hr (rfl) _ rfl (⟨rfl, rfl⟩) dX4_release_35
set_option maxHeartbeats 4000000 in
set_option maxRecDepth 100000 in
theorem r_release_ok (l : Launch) (D : va_G) (c : Nat → ClassId) (rd : Nat → Nat) (n : Nat) (u : kS) (w9 : kS) (hw : ku u 20 0 0 0 = w9) (hn : n ≤ 8) (hF : u 21 0 0 = nI n) (q : Nat) (hq : q < 32) (f : Nat) (hf : kPinR u n (nI q) f) : kR l D c rd yX4_release (Cond.code yX4_release cX4_release 3 (some .int)) 2 44 u [.ref (rd 0), .int (nI q)] (fun v u9 => v = some (.int (w9 2 f 0 - 1)) ∧ u9 = ku w9 2 f 0 (w9 2 f 0 - 1)) := by
  refine kR.mk (by decide) (by simp [Value.category]) (Nat.le_of_ble_eq_true rfl) ?_
  intro p e s m args below meth c9 cx hr
  refine kg_aload_n cx dX4_release_0 rfl ?_
  refine kg_iload_n cx dX4_release_1 rfl ?_
  refine kg_iconst (v := 0) cx dX4_release_2 (by decide) ?_
  refine kg_bipush (v := (nI 31)) cx dX4_release_3 (by decide) ?_
  refine kg_callS (na := 3) cx (r_isIn l D c rd u (nI q) 0 (nI 31)) kcd_X4_isIn km_X4_100 kin_X4 kst_X4_isIn (by decide +kernel) rfl (by decide) (by decide) rfl (Nat.le_of_ble_eq_true rfl) dX4_release_5 (fun _ => kr_adr _ _) (fun v9 u9 h9 => ?_)
  obtain ⟨rfl, h9⟩ := h9
  subst u9
  refine kg_top 1 (kb_1 ((kIn_iff (by decide)).mpr ⟨q, hq, rfl⟩)) ?_
  refine kg_if_ne cx 15 dX4_release_8 (by decide) (fun h9 => ?_) (fun h9 => absurd h9 (by decide))
  refine kg_aload_n cx dX4_release_15 rfl ?_
  refine kg_iload_n cx dX4_release_16 rfl ?_
  refine kg_callV (ci := 4) (na := 1) cx (r_isPinned l D c rd n u (nI q) hn hF) 0 rfl rfl kcd_X4_isPinned km_X4_110 kin_X4 kim_X4_isPinned ksl_X4_isPinned (by decide +kernel) rfl (by decide) (by decide) rfl (Nat.le_of_ble_eq_true rfl) dX4_release_17 (fun _ => kr_adr _ _) (fun v9 u9 h9 => ?_)
  obtain ⟨h9, e9⟩ := h9
  subst u9
  rcases h9 with ⟨hp9, rfl⟩ | ⟨hp9, rfl⟩
  case inr => exact absurd ⟨f, hf⟩ hp9
  refine kg_if_ne cx 27 dX4_release_20 (by decide) (fun h9 => ?_) (fun h9 => absurd h9 (by decide))
  refine kg_iconst (v := 0) cx dX4_release_27 (by decide) ?_
  refine kg_callV (ci := 4) (na := 1) cx (r_refused l D c rd u 0) 0 rfl rfl kcd_X4_refused km_X4_104 kin_X4 kim_X4_refused ksl_X4_refused (by decide +kernel) rfl (by decide) (by decide) rfl (Nat.le_of_ble_eq_true rfl) dX4_release_28 (fun _ => kr_adr _ _) (fun v9 u9 h9 => ?_)
  obtain ⟨rfl, h9⟩ := h9
  subst u9
  refine kg_top 0 (kb_0 (by decide)) ?_
  refine kg_if_eq cx 36 dX4_release_31 (by decide) (fun h9 => ?_) (fun h9 => absurd h9 (by decide))
  refine kg_eq (congrArg (kr rd c) hw) rfl rfl rfl ?_
  refine kg_aload_n cx dX4_release_36 rfl ?_
  refine kg_iload_n cx dX4_release_37 rfl ?_
  refine kg_callV (ci := 4) (na := 1) cx (r_frameOf l D c rd n w9 (nI q) hn (by rw [← hw]; exact (ku_F (by decide)).trans hF)) 0 rfl rfl kcd_X4_frameOf km_X4_89 kin_X4 kim_X4_frameOf ksl_X4_frameOf (by decide +kernel) rfl (by decide) (by decide) rfl (Nat.le_of_ble_eq_true rfl) dX4_release_38 (fun _ => kr_adr _ _) (fun v9 u9 h9 => ?_)
  obtain ⟨⟨r9, rfl, hr9⟩, h9⟩ := h9
  subst u9
  have hfw : kPinR w9 n (nI q) f := by rw [← hw]; exact kPinR_20.mpr hf
  have er9 : r9 = nI f := by
    rcases hr9 with ⟨g, g1, rfl, g2, g3⟩ | ⟨-, g1⟩
    · rw [kLeast_eq hfw.2.1 hfw.2.2.1 g2 g3]
    · exact absurd hfw.2.1 (g1 f hfw.1)
  subst er9
  have hfn : f < 8 := Nat.lt_of_lt_of_le hfw.1 hn
  refine kg_istore_n cx dX4_release_41 (by decide) ?_
  refine kg_aload_n cx dX4_release_42 rfl ?_
  refine kg_get (ci := 4) cx 0 7 kfs_X4 rfl (by decide) rfl rfl kf_X4_25 dX4_release_43 ?_
  refine kg_iload_n cx dX4_release_46 rfl ?_
  refine kg_dup2 cx dX4_release_47 rfl rfl ?_
  refine kg_ialdN cx 6 0 f rfl rfl (rfl) (hfn) (by decide) (rfl) dX4_release_48 ?_
  refine kg_iconst (v := 1) cx dX4_release_49 (by decide) ?_
  refine kg_isub cx dX4_release_50 ?_
  refine kg_iastN cx 6 0 f rfl rfl (rfl) (hfn) (by decide) (kq_pins f _) dX4_release_51 ?_
  refine kg_aload_n cx dX4_release_52 rfl ?_
  refine kg_get (ci := 4) cx 0 7 kfs_X4 rfl (by decide) rfl rfl kf_X4_25 dX4_release_53 ?_
  refine kg_iload_n cx dX4_release_56 rfl ?_
  refine kg_ialdN (v := (w9 2 f 0 - 1)) cx 6 0 f rfl rfl (rfl) (hfn) (by decide) (ku_s _ _ _ _ _) dX4_release_57 ?_
  exact kg_ireturn cx hr (rfl) _ rfl (⟨rfl, rfl⟩) dX4_release_58
set_option maxHeartbeats 4000000 in
set_option maxRecDepth 100000 in
theorem r_get_bad (l : Launch) (D : va_G) (c : Nat → ClassId) (rd : Nat → Nat) (u : kS) (x y : Int32) (hx : ¬ (kIn x 32 ∧ kIn y 8)) : kR l D c rd yX4_get (Cond.code yX4_get cX4_get 4 (some .int)) 2 44 u [.ref (rd 0), .int x, .int y] (fun v u9 => v = some (.int 0) ∧ u9 = ku u 20 0 0 1) := by
  refine kR.mk (by decide) (by simp [Value.category]) (Nat.le_of_ble_eq_true rfl) ?_
  intro p e s m args below meth c9 cx hr
  by_cases h1 : kIn x 32
  · refine kg_iload_n cx dX4_get_0 rfl ?_
    refine kg_iconst (v := 0) cx dX4_get_1 (by decide) ?_
    refine kg_bipush (v := (nI 31)) cx dX4_get_2 (by decide) ?_
    refine kg_callS (na := 3) cx (r_isIn l D c rd u x 0 (nI 31)) kcd_X4_isIn km_X4_100 kin_X4 kst_X4_isIn (by decide +kernel) rfl (by decide) (by decide) rfl (Nat.le_of_ble_eq_true rfl) dX4_get_4 (fun _ => kr_adr _ _) (fun v9 u9 h9 => ?_)
    obtain ⟨rfl, h9⟩ := h9
    subst u9
    refine kg_top 1 (kb_1 ((kIn_iff (by decide)).mpr h1)) ?_
    refine kg_if_eq cx 24 dX4_get_7 (by decide) (fun h9 => absurd h9 (by decide)) (fun h9 => ?_)
    refine kg_iload_n cx dX4_get_10 rfl ?_
    refine kg_iconst (v := 0) cx dX4_get_11 (by decide) ?_
    refine kg_bipush (v := (nI 7)) cx dX4_get_12 (by decide) ?_
    refine kg_callS (na := 3) cx (r_isIn l D c rd u y 0 (nI 7)) kcd_X4_isIn km_X4_100 kin_X4 kst_X4_isIn (by decide +kernel) rfl (by decide) (by decide) rfl (Nat.le_of_ble_eq_true rfl) dX4_get_14 (fun _ => kr_adr _ _) (fun v9 u9 h9 => ?_)
    obtain ⟨rfl, h9⟩ := h9
    subst u9
    refine kg_top 0 (kb_0 (fun q9 => (fun q8 => hx ⟨h1, q8⟩) ((kIn_iff (by decide)).mp q9))) ?_
    refine kg_if_eq cx 24 dX4_get_17 (by decide) (fun h9 => ?_) (fun h9 => absurd h9 (by decide))
    refine kg_iconst (v := 0) cx dX4_get_24 (by decide) ?_
    refine kg_istore_n cx dX4_get_25 (by decide) ?_
    refine kg_aload_n cx dX4_get_26 rfl ?_
    refine kg_iload_n cx dX4_get_27 rfl ?_
    refine kg_if_ne cx 35 dX4_get_28 (by decide) (fun h9 => absurd h9 (by decide)) (fun h9 => ?_)
    refine kg_iconst (v := 1) cx dX4_get_31 (by decide) ?_
    refine kg_goto cx 48 dX4_get_32 (by decide) ?_
    refine kg_callV (ci := 4) (na := 1) cx (r_refused l D c rd u 1) 0 rfl rfl kcd_X4_refused km_X4_104 kin_X4 kim_X4_refused ksl_X4_refused (by decide +kernel) rfl (by decide) (by decide) rfl (Nat.le_of_ble_eq_true rfl) dX4_get_48 (fun _ => kr_adr _ _) (fun v9 u9 h9 => ?_)
    obtain ⟨rfl, h9⟩ := h9
    subst u9
    refine kg_top 1 (kb_1 (by decide)) ?_
    refine kg_if_eq cx 56 dX4_get_51 (by decide) (fun h9 => absurd h9 (by decide)) (fun h9 => ?_)
    refine kg_iconst (v := 0) cx dX4_get_54 (by decide) ?_
    exact kg_ireturn cx hr (rfl) _ rfl (⟨rfl, rfl⟩) dX4_get_55
  · refine kg_iload_n cx dX4_get_0 rfl ?_
    refine kg_iconst (v := 0) cx dX4_get_1 (by decide) ?_
    refine kg_bipush (v := (nI 31)) cx dX4_get_2 (by decide) ?_
    refine kg_callS (na := 3) cx (r_isIn l D c rd u x 0 (nI 31)) kcd_X4_isIn km_X4_100 kin_X4 kst_X4_isIn (by decide +kernel) rfl (by decide) (by decide) rfl (Nat.le_of_ble_eq_true rfl) dX4_get_4 (fun _ => kr_adr _ _) (fun v9 u9 h9 => ?_)
    obtain ⟨rfl, h9⟩ := h9
    subst u9
    refine kg_top 0 (kb_0 (fun q9 => h1 ((kIn_iff (by decide)).mp q9))) ?_
    refine kg_if_eq cx 24 dX4_get_7 (by decide) (fun h9 => ?_) (fun h9 => absurd h9 (by decide))
    refine kg_iconst (v := 0) cx dX4_get_24 (by decide) ?_
    refine kg_istore_n cx dX4_get_25 (by decide) ?_
    refine kg_aload_n cx dX4_get_26 rfl ?_
    refine kg_iload_n cx dX4_get_27 rfl ?_
    refine kg_if_ne cx 35 dX4_get_28 (by decide) (fun h9 => absurd h9 (by decide)) (fun h9 => ?_)
    refine kg_iconst (v := 1) cx dX4_get_31 (by decide) ?_
    refine kg_goto cx 48 dX4_get_32 (by decide) ?_
    refine kg_callV (ci := 4) (na := 1) cx (r_refused l D c rd u 1) 0 rfl rfl kcd_X4_refused km_X4_104 kin_X4 kim_X4_refused ksl_X4_refused (by decide +kernel) rfl (by decide) (by decide) rfl (Nat.le_of_ble_eq_true rfl) dX4_get_48 (fun _ => kr_adr _ _) (fun v9 u9 h9 => ?_)
    obtain ⟨rfl, h9⟩ := h9
    subst u9
    refine kg_top 1 (kb_1 (by decide)) ?_
    refine kg_if_eq cx 56 dX4_get_51 (by decide) (fun h9 => absurd h9 (by decide)) (fun h9 => ?_)
    refine kg_iconst (v := 0) cx dX4_get_54 (by decide) ?_
    exact kg_ireturn cx hr (rfl) _ rfl (⟨rfl, rfl⟩) dX4_get_55
set_option maxHeartbeats 4000000 in
set_option maxRecDepth 100000 in
theorem r_get_bad2 (l : Launch) (D : va_G) (c : Nat → ClassId) (rd : Nat → Nat) (n : Nat) (u : kS) (hn : n ≤ 8) (hF : u 21 0 0 = nI n) (q : Nat) (hq : q < 32) (k : Nat) (hk : k < 8) (hf : ¬ ∃ f, kPinR u n (nI q) f) : kR l D c rd yX4_get (Cond.code yX4_get cX4_get 4 (some .int)) 2 44 u [.ref (rd 0), .int (nI q), .int (nI k)] (fun v u9 => v = some (.int 0) ∧ u9 = ku u 20 0 0 (nI 2)) := by
  refine kR.mk (by decide) (by simp [Value.category]) (Nat.le_of_ble_eq_true rfl) ?_
  intro p e s m args below meth c9 cx hr
  refine kg_iload_n cx dX4_get_0 rfl ?_
  refine kg_iconst (v := 0) cx dX4_get_1 (by decide) ?_
  refine kg_bipush (v := (nI 31)) cx dX4_get_2 (by decide) ?_
  refine kg_callS (na := 3) cx (r_isIn l D c rd u (nI q) 0 (nI 31)) kcd_X4_isIn km_X4_100 kin_X4 kst_X4_isIn (by decide +kernel) rfl (by decide) (by decide) rfl (Nat.le_of_ble_eq_true rfl) dX4_get_4 (fun _ => kr_adr _ _) (fun v9 u9 h9 => ?_)
  obtain ⟨rfl, h9⟩ := h9
  subst u9
  refine kg_top 1 (kb_1 ((kIn_iff (by decide)).mpr ⟨q, hq, rfl⟩)) ?_
  refine kg_if_eq cx 24 dX4_get_7 (by decide) (fun h9 => absurd h9 (by decide)) (fun h9 => ?_)
  refine kg_iload_n cx dX4_get_10 rfl ?_
  refine kg_iconst (v := 0) cx dX4_get_11 (by decide) ?_
  refine kg_bipush (v := (nI 7)) cx dX4_get_12 (by decide) ?_
  refine kg_callS (na := 3) cx (r_isIn l D c rd u (nI k) 0 (nI 7)) kcd_X4_isIn km_X4_100 kin_X4 kst_X4_isIn (by decide +kernel) rfl (by decide) (by decide) rfl (Nat.le_of_ble_eq_true rfl) dX4_get_14 (fun _ => kr_adr _ _) (fun v9 u9 h9 => ?_)
  obtain ⟨rfl, h9⟩ := h9
  subst u9
  refine kg_top 1 (kb_1 ((kIn_iff (by decide)).mpr ⟨k, hk, rfl⟩)) ?_
  refine kg_if_eq cx 24 dX4_get_17 (by decide) (fun h9 => absurd h9 (by decide)) (fun h9 => ?_)
  refine kg_iconst (v := 1) cx dX4_get_20 (by decide) ?_
  refine kg_goto cx 25 dX4_get_21 (by decide) ?_
  refine kg_istore_n cx dX4_get_25 (by decide) ?_
  refine kg_aload_n cx dX4_get_26 rfl ?_
  refine kg_iload_n cx dX4_get_27 rfl ?_
  refine kg_if_ne cx 35 dX4_get_28 (by decide) (fun h9 => ?_) (fun h9 => absurd h9 (by decide))
  refine kg_aload_n cx dX4_get_35 rfl ?_
  refine kg_iload_n cx dX4_get_36 rfl ?_
  refine kg_callV (ci := 4) (na := 1) cx (r_isPinned l D c rd n u (nI q) hn hF) 0 rfl rfl kcd_X4_isPinned km_X4_110 kin_X4 kim_X4_isPinned ksl_X4_isPinned (by decide +kernel) rfl (by decide) (by decide) rfl (Nat.le_of_ble_eq_true rfl) dX4_get_37 (fun _ => kr_adr _ _) (fun v9 u9 h9 => ?_)
  obtain ⟨h9, e9⟩ := h9
  subst u9
  rcases h9 with ⟨hp9, rfl⟩ | ⟨hp9, rfl⟩
  case inl => exact absurd hp9 hf
  refine kg_if_ne cx 47 dX4_get_40 (by decide) (fun h9 => absurd h9 (by decide)) (fun h9 => ?_)
  refine kg_iconst (v := (nI 2)) cx dX4_get_43 (by decide) ?_
  refine kg_goto cx 48 dX4_get_44 (by decide) ?_
  refine kg_callV (ci := 4) (na := 1) cx (r_refused l D c rd u (nI 2)) 0 rfl rfl kcd_X4_refused km_X4_104 kin_X4 kim_X4_refused ksl_X4_refused (by decide +kernel) rfl (by decide) (by decide) rfl (Nat.le_of_ble_eq_true rfl) dX4_get_48 (fun _ => kr_adr _ _) (fun v9 u9 h9 => ?_)
  obtain ⟨rfl, h9⟩ := h9
  subst u9
  refine kg_top 1 (kb_1 (by decide)) ?_
  refine kg_if_eq cx 56 dX4_get_51 (by decide) (fun h9 => absurd h9 (by decide)) (fun h9 => ?_)
  refine kg_iconst (v := 0) cx dX4_get_54 (by decide) ?_
  exact kg_ireturn cx hr (rfl) _ rfl (⟨rfl, rfl⟩) dX4_get_55
set_option maxHeartbeats 4000000 in
set_option maxRecDepth 100000 in
theorem r_get_ok (l : Launch) (D : va_G) (c : Nat → ClassId) (rd : Nat → Nat) (n : Nat) (u : kS) (w9 : kS) (hw : ku u 20 0 0 0 = w9) (hn : n ≤ 8) (hF : u 21 0 0 = nI n) (q : Nat) (hq : q < 32) (k : Nat) (hk : k < 8) (f : Nat) (hf : kPinR u n (nI q) f) : kR l D c rd yX4_get (Cond.code yX4_get cX4_get 4 (some .int)) 2 44 u [.ref (rd 0), .int (nI q), .int (nI k)] (fun v u9 => v = some (.int (w9 23 f k)) ∧ u9 = w9) := by
  refine kR.mk (by decide) (by simp [Value.category]) (Nat.le_of_ble_eq_true rfl) ?_
  intro p e s m args below meth c9 cx hr
  refine kg_iload_n cx dX4_get_0 rfl ?_
  refine kg_iconst (v := 0) cx dX4_get_1 (by decide) ?_
  refine kg_bipush (v := (nI 31)) cx dX4_get_2 (by decide) ?_
  refine kg_callS (na := 3) cx (r_isIn l D c rd u (nI q) 0 (nI 31)) kcd_X4_isIn km_X4_100 kin_X4 kst_X4_isIn (by decide +kernel) rfl (by decide) (by decide) rfl (Nat.le_of_ble_eq_true rfl) dX4_get_4 (fun _ => kr_adr _ _) (fun v9 u9 h9 => ?_)
  obtain ⟨rfl, h9⟩ := h9
  subst u9
  refine kg_top 1 (kb_1 ((kIn_iff (by decide)).mpr ⟨q, hq, rfl⟩)) ?_
  refine kg_if_eq cx 24 dX4_get_7 (by decide) (fun h9 => absurd h9 (by decide)) (fun h9 => ?_)
  refine kg_iload_n cx dX4_get_10 rfl ?_
  refine kg_iconst (v := 0) cx dX4_get_11 (by decide) ?_
  refine kg_bipush (v := (nI 7)) cx dX4_get_12 (by decide) ?_
  refine kg_callS (na := 3) cx (r_isIn l D c rd u (nI k) 0 (nI 7)) kcd_X4_isIn km_X4_100 kin_X4 kst_X4_isIn (by decide +kernel) rfl (by decide) (by decide) rfl (Nat.le_of_ble_eq_true rfl) dX4_get_14 (fun _ => kr_adr _ _) (fun v9 u9 h9 => ?_)
  obtain ⟨rfl, h9⟩ := h9
  subst u9
  refine kg_top 1 (kb_1 ((kIn_iff (by decide)).mpr ⟨k, hk, rfl⟩)) ?_
  refine kg_if_eq cx 24 dX4_get_17 (by decide) (fun h9 => absurd h9 (by decide)) (fun h9 => ?_)
  refine kg_iconst (v := 1) cx dX4_get_20 (by decide) ?_
  refine kg_goto cx 25 dX4_get_21 (by decide) ?_
  refine kg_istore_n cx dX4_get_25 (by decide) ?_
  refine kg_aload_n cx dX4_get_26 rfl ?_
  refine kg_iload_n cx dX4_get_27 rfl ?_
  refine kg_if_ne cx 35 dX4_get_28 (by decide) (fun h9 => ?_) (fun h9 => absurd h9 (by decide))
  refine kg_aload_n cx dX4_get_35 rfl ?_
  refine kg_iload_n cx dX4_get_36 rfl ?_
  refine kg_callV (ci := 4) (na := 1) cx (r_isPinned l D c rd n u (nI q) hn hF) 0 rfl rfl kcd_X4_isPinned km_X4_110 kin_X4 kim_X4_isPinned ksl_X4_isPinned (by decide +kernel) rfl (by decide) (by decide) rfl (Nat.le_of_ble_eq_true rfl) dX4_get_37 (fun _ => kr_adr _ _) (fun v9 u9 h9 => ?_)
  obtain ⟨h9, e9⟩ := h9
  subst u9
  rcases h9 with ⟨hp9, rfl⟩ | ⟨hp9, rfl⟩
  case inr => exact absurd ⟨f, hf⟩ hp9
  refine kg_if_ne cx 47 dX4_get_40 (by decide) (fun h9 => ?_) (fun h9 => absurd h9 (by decide))
  refine kg_iconst (v := 0) cx dX4_get_47 (by decide) ?_
  refine kg_callV (ci := 4) (na := 1) cx (r_refused l D c rd u 0) 0 rfl rfl kcd_X4_refused km_X4_104 kin_X4 kim_X4_refused ksl_X4_refused (by decide +kernel) rfl (by decide) (by decide) rfl (Nat.le_of_ble_eq_true rfl) dX4_get_48 (fun _ => kr_adr _ _) (fun v9 u9 h9 => ?_)
  obtain ⟨rfl, h9⟩ := h9
  subst u9
  refine kg_top 0 (kb_0 (by decide)) ?_
  refine kg_if_eq cx 56 dX4_get_51 (by decide) (fun h9 => ?_) (fun h9 => absurd h9 (by decide))
  refine kg_eq (congrArg (kr rd c) hw) rfl rfl rfl ?_
  refine kg_aload_n cx dX4_get_56 rfl ?_
  refine kg_get (ci := 4) cx 0 5 kfs_X4 rfl (by decide) rfl rfl kf_X4_19 dX4_get_57 ?_
  refine kg_bipush (v := (nI 8)) cx dX4_get_60 (by decide) ?_
  refine kg_aload_n cx dX4_get_62 rfl ?_
  refine kg_iload_n cx dX4_get_63 rfl ?_
  refine kg_callV (ci := 4) (na := 1) cx (r_frameOf l D c rd n w9 (nI q) hn (by rw [← hw]; exact (ku_F (by decide)).trans hF)) 0 rfl rfl kcd_X4_frameOf km_X4_89 kin_X4 kim_X4_frameOf ksl_X4_frameOf (by decide +kernel) rfl (by decide) (by decide) rfl (Nat.le_of_ble_eq_true rfl) dX4_get_64 (fun _ => kr_adr _ _) (fun v9 u9 h9 => ?_)
  obtain ⟨⟨r9, rfl, hr9⟩, h9⟩ := h9
  subst u9
  have hfw : kPinR w9 n (nI q) f := by rw [← hw]; exact kPinR_20.mpr hf
  have er9 : r9 = nI f := by
    rcases hr9 with ⟨g, g1, rfl, g2, g3⟩ | ⟨-, g1⟩
    · rw [kLeast_eq hfw.2.1 hfw.2.2.1 g2 g3]
    · exact absurd hfw.2.1 (g1 f hfw.1)
  subst er9
  have hfn : f < 8 := Nat.lt_of_lt_of_le hfw.1 hn
  refine kg_imul cx dX4_get_67 ?_
  refine kg_top (nI (8 * f)) (pk_mul 8 f) ?_
  refine kg_iload_n cx dX4_get_68 rfl ?_
  refine kg_iadd cx dX4_get_69 ?_
  refine kg_top (nI (8 * f + k)) (nI_add _ _) ?_
  refine kg_ialdN cx 4 0 (8 * f + k) rfl rfl (rfl) (by omega) (by decide) (by show w9 23 ((8 * f + k) / 8) ((8 * f + k) % 8) = w9 23 f k; rw [show (8 * f + k) / 8 = f by omega, show (8 * f + k) % 8 = k by omega]) dX4_get_70 ?_
  exact kg_ireturn cx hr (rfl) _ rfl (⟨rfl, rfl⟩) dX4_get_71
end
