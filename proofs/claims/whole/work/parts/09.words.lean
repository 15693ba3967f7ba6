/-- the words that every method is given: those of the tables that stay when tables warm -/
def kT : List Cond := lw_tbl.filter goodWord
theorem kT_t {w : Cond} (h : w ∈ tables_1) (g : goodWord w = true) : w ∈ kT := List.mem_filter.mpr ⟨List.mem_append_right _ h, g⟩
theorem kT_1 {w : Cond} (i : Nat) (h : tables_1_1[i]? = some w) (g : goodWord w = true) : w ∈ kT := kT_t (List.mem_append_left _ (List.mem_of_getElem? h)) g
theorem kT_2 {w : Cond} (i : Nat) (h : tables_1_2[i]? = some w) (g : goodWord w = true) : w ∈ kT := kT_t (List.mem_append_right _ (List.mem_append_left _ (List.mem_of_getElem? h))) g
theorem kT_3 {w : Cond} (i : Nat) (h : tables_1_3[i]? = some w) (g : goodWord w = true) : w ∈ kT := kT_t (List.mem_append_right _ (List.mem_append_right _ (List.mem_of_getElem? h))) g
theorem kT_s {q : MethodName × Nat} (h : q ∈ lw_privs) (g : goodWord (Cond.selects q.1.cls q.1 q.1) = true) : Cond.selects q.1.cls q.1 q.1 ∈ kT := List.mem_filter.mpr ⟨List.mem_append_left _ (List.mem_map.mpr ⟨q, h, rfl⟩), g⟩
theorem kT_good {big : List Cond} {y : Cond} (hy : y ∈ big) (hg : goodWord y = true) (hb : ∀ w ∈ kT, w ∈ big) : GoodIn big (y :: kT) := by
  intro w hw
  rcases List.mem_cons.mp hw with rfl | h
  · exact ⟨hy, good_of_word hg⟩
  · exact ⟨hb w h, good_of_word (List.mem_filter.mp h).2⟩
theorem kT_law {args : Array Value} {s : State} (h : ∀ w ∈ lw_tbl, w.before args s = true) : ∀ w ∈ kT, w.before args s = true := fun w hw => h w (List.mem_filter.mp hw).1
/-- the words on members of nest mates: they stay too, but are told by a premise of their own -/
def kN_is : Cond → Bool
  | .fieldLinkNest _ _ _ _ _ _ => true
  | .methodLinkNest _ _ _ _ => true
  | .declares _ => true
  | .castable _ _ => true
  | .privateMethod _ => true
  | _ => false
def kN (U : State) : Prop := ∀ w ∈ tables_1, kN_is w = true → va_Nw w U
theorem kN_moved {s U : State} (hW : s.WarmedH U.vm) (h : kN s) : kN U := by
  intro w hw hi
  have h0 := h w hw hi
  cases w <;> first | exact va_Nw.warmF hW h0 | exact va_Nw.warmM hW h0 | exact va_tabs rfl (rfl : (s.setVm U.vm).vm = U.vm) (Cond.before_shiftedFace (State.Shifted.of_warmed hW) _ rfl h0) | cases hi
theorem kN_same {s U : State} (hv : s.vm = U.vm) (h : kN s) : kN U := by
  intro w hw hi
  have h0 := h w hw hi
  cases w <;> first | exact va_Nw.same rfl hv h0 | cases hi
theorem kN_of {args : Array Value} {s : State} (h : ∀ w ∈ lw_tbl, w.before args s = true) : kN s := by
  intro w hw hi
  have h0 := h w (List.mem_append_right _ hw)
  cases w <;> first | exact va_Nw.of rfl h0 | cases hi
theorem kN_1 {U : State} {w : Cond} (hN : kN U) (i : Nat) (h : tables_1_1[i]? = some w) (g : kN_is w = true) : va_Nw w U := hN w (List.mem_append_left _ (List.mem_of_getElem? h)) g
theorem kN_2 {U : State} {w : Cond} (hN : kN U) (i : Nat) (h : tables_1_2[i]? = some w) (g : kN_is w = true) : va_Nw w U := hN w (List.mem_append_right _ (List.mem_append_left _ (List.mem_of_getElem? h))) g
theorem kN_3 {U : State} {w : Cond} (hN : kN U) (i : Nat) (h : tables_1_3[i]? = some w) (g : kN_is w = true) : va_Nw w U := hN w (List.mem_append_right _ (List.mem_append_right _ (List.mem_of_getElem? h))) g
theorem kin_L : Cond.initialized RL ∈ kT := kT_1 0 rfl rfl
theorem kin_X3 : Cond.initialized RX3 ∈ kT := kT_1 1 rfl rfl
theorem kin_X2 : Cond.initialized RX2 ∈ kT := kT_1 2 rfl rfl
theorem kin_J9 : Cond.initialized "java/lang/Math" ∈ kT := kT_1 3 rfl rfl
theorem kin_X0 : Cond.initialized RX0 ∈ kT := kT_1 4 rfl rfl
theorem kin_X1 : Cond.initialized RX1 ∈ kT := kT_1 5 rfl rfl
theorem kin_X4 : Cond.initialized RX4 ∈ kT := kT_1 6 rfl rfl
theorem kin_Throwable : Cond.initialized "java/lang/Throwable" ∈ kT := kT_1 7 rfl rfl
theorem kin_Exception : Cond.initialized "java/lang/Exception" ∈ kT := kT_1 8 rfl rfl
theorem kin_RuntimeException : Cond.initialized "java/lang/RuntimeException" ∈ kT := kT_1 9 rfl rfl
theorem kin_IllegalArgumentException : Cond.initialized "java/lang/IllegalArgumentException" ∈ kT := kT_1 10 rfl rfl
theorem kin_J10 : Cond.initialized "java/lang/System" ∈ kT := kT_1 11 rfl rfl
theorem kin_IllegalStateException : Cond.initialized "java/lang/IllegalStateException" ∈ kT := kT_1 12 rfl rfl
theorem kin_J7 : Cond.initialized RJ7 ∈ kT := kT_1 13 rfl rfl
theorem kcl_L_8 : Cond.classLink RL 8 RX3 ∈ kT := kT_1 14 rfl rfl
theorem kis_X3 : Cond.instantiable RX3 6 ∈ kT := kT_1 15 rfl rfl
theorem km_L_59 : Cond.methodLink RL 59 yX3_init ∈ kT := kT_1 16 rfl rfl
theorem kim_X3_init : Cond.instanceMethod yX3_init ∈ kT := kT_1 17 rfl rfl
theorem kcd_X3_init : Cond.code yX3_init cX3_init 2 none ∈ kT := kT_1 18 rfl rfl
theorem km_X3_3 : Cond.methodLink RX3 3 objectInit ∈ kT := kT_1 19 rfl rfl
theorem kim_objectInit : Cond.instanceMethod objectInit ∈ kT := kT_1 20 rfl rfl
theorem kcd_objectInit : Cond.code objectInit ⟨#[0xb1]⟩ 1 none ∈ kT := kT_1 21 rfl rfl
theorem kcl_X3_9 : Cond.classLink RX3 9 RX2 ∈ kT := kT_1 22 rfl rfl
theorem kis_X2 : Cond.instantiable RX2 5 ∈ kT := kT_1 23 rfl rfl
theorem km_X3_11 : Cond.methodLink RX3 11 Lib.Math.min.name ∈ kT := kT_1 24 rfl rfl
theorem kst_Lib_Math_min_name : Cond.static Lib.Math.min.name ∈ kT := kT_1 25 rfl rfl
theorem kcd_Math_min : Cond.code Lib.Math.min.name Lib.Math.min.code 2 (some .int) ∈ kT := kT_1 26 rfl rfl
theorem km_X3_17 : Cond.methodLink RX3 17 Lib.Math.max.name ∈ kT := kT_1 27 rfl rfl
theorem kst_Lib_Math_max_name : Cond.static Lib.Math.max.name ∈ kT := kT_1 28 rfl rfl
theorem kcd_Math_max : Cond.code Lib.Math.max.name Lib.Math.max.code 2 (some .int) ∈ kT := kT_1 29 rfl rfl
theorem kmn_X3_20 {U : State} (hN : kN U) : va_Nw (Cond.methodLinkNest RX3 20 yX2_init "ClockPool") U := kN_1 hN 30 rfl rfl
theorem kim_X2_init : Cond.instanceMethod yX2_init ∈ kT := kT_1 31 rfl rfl
theorem kcd_X2_init : Cond.code yX2_init cX2_init 3 none ∈ kT := kT_1 32 rfl rfl
theorem km_X2_3 : Cond.methodLink RX2 3 objectInit ∈ kT := kT_1 33 rfl rfl
theorem kcl_X2_9 : Cond.classLink RX2 9 "[[I" ∈ kT := kT_1 34 rfl rfl
theorem kcl_X2_16 : Cond.classLink RX2 16 RX0 ∈ kT := kT_1 36 rfl rfl
theorem kis_X0 : Cond.instantiable RX0 5 ∈ kT := kT_1 38 rfl rfl
theorem kmn_X2_22 {U : State} (hN : kN U) : va_Nw (Cond.methodLinkNest RX2 22 yX0_init "ClockPool") U := kN_1 hN 39 rfl rfl
theorem kim_X0_init : Cond.instanceMethod yX0_init ∈ kT := kT_1 40 rfl rfl
theorem kcd_X0_init : Cond.code yX0_init cX0_init 1 none ∈ kT := kT_1 41 rfl rfl
theorem km_X0_3 : Cond.methodLink RX0 3 objectInit ∈ kT := kT_1 42 rfl rfl
theorem kf_X0_9 : Cond.fieldLink RX0 9 "ClockPool$Frame" "row" "[I" ∈ kT := kT_1 43 rfl rfl
theorem kfn_X3_65 {U : State} (hN : kN U) : va_Nw (Cond.fieldLinkNest RX3 65 "ClockPool$Frame" "row" "[I" "ClockPool") U := kN_1 hN 44 rfl rfl
theorem kfn_X2_59 {U : State} (hN : kN U) : va_Nw (Cond.fieldLinkNest RX2 59 "ClockPool$Frame" "row" "[I" "ClockPool") U := kN_1 hN 45 rfl rfl
theorem kf_X0_15 : Cond.fieldLink RX0 15 "ClockPool$Frame" "page" "I" ∈ kT := kT_1 46 rfl rfl
theorem kfn_X2_23 {U : State} (hN : kN U) : va_Nw (Cond.fieldLinkNest RX2 23 "ClockPool$Frame" "page" "I" "ClockPool") U := kN_1 hN 47 rfl rfl
theorem kfn_X3_155 {U : State} (hN : kN U) : va_Nw (Cond.fieldLinkNest RX3 155 "ClockPool$Frame" "page" "I" "ClockPool") U := kN_1 hN 48 rfl rfl
theorem kfn_X3_56 {U : State} (hN : kN U) : va_Nw (Cond.fieldLinkNest RX3 56 "ClockPool$Frame" "pins" "I" "ClockPool") U := kN_1 hN 49 rfl rfl
theorem kf_X0_23 : Cond.fieldLink RX0 23 "ClockPool$Frame" "pins" "I" ∈ kT := kT_1 50 rfl rfl
theorem kf_X0_19 : Cond.fieldLink RX0 19 "ClockPool$Frame" "dirty" "Z" ∈ kT := kT_1 51 rfl rfl
theorem kfn_X2_52 {U : State} (hN : kN U) : va_Nw (Cond.fieldLinkNest RX2 52 "ClockPool$Frame" "dirty" "Z" "ClockPool") U := kN_1 hN 52 rfl rfl
theorem kfn_X3_119 {U : State} (hN : kN U) : va_Nw (Cond.fieldLinkNest RX3 119 "ClockPool$Frame" "dirty" "Z" "ClockPool") U := kN_1 hN 53 rfl rfl
theorem kfn_X2_38 {U : State} (hN : kN U) : va_Nw (Cond.fieldLinkNest RX2 38 "ClockPool$Frame" "marked" "Z" "ClockPool") U := kN_1 hN 54 rfl rfl
theorem kf_X0_32 : Cond.fieldLink RX0 32 "ClockPool$Frame" "marked" "Z" ∈ kT := kT_1 55 rfl rfl
theorem kfn_X3_158 {U : State} (hN : kN U) : va_Nw (Cond.fieldLinkNest RX3 158 "ClockPool$Frame" "marked" "Z" "ClockPool") U := kN_1 hN 56 rfl rfl
theorem kac_int : Cond.arrayClass .int ∈ kT := kT_1 68 rfl rfl
theorem kf_X2_11 : Cond.fieldLink RX2 11 "ClockPool$Pool" "disk" "[[I" ∈ kT := kT_1 69 rfl rfl
theorem kfn_X3_151 {U : State} (hN : kN U) : va_Nw (Cond.fieldLinkNest RX3 151 "ClockPool$Pool" "disk" "[[I" "ClockPool") U := kN_1 hN 70 rfl rfl
theorem kf_X2_18 : Cond.fieldLink RX2 18 "ClockPool$Pool" "frames" "[LClockPool$Frame;" ∈ kT := kT_1 71 rfl rfl
theorem kfn_X3_52 {U : State} (hN : kN U) : va_Nw (Cond.fieldLinkNest RX3 52 "ClockPool$Pool" "frames" "[LClockPool$Frame;" "ClockPool") U := kN_1 hN 72 rfl rfl
theorem kf_X2_45 : Cond.fieldLink RX2 45 "ClockPool$Pool" "hand" "I" ∈ kT := kT_1 73 rfl rfl
theorem kfn_X3_161 {U : State} (hN : kN U) : va_Nw (Cond.fieldLinkNest RX3 161 "ClockPool$Pool" "hand" "I" "ClockPool") U := kN_1 hN 74 rfl rfl
theorem kf_X2_72 : Cond.fieldLink RX2 72 "ClockPool$Pool" "written" "I" ∈ kT := kT_1 75 rfl rfl
theorem kfn_X3_164 {U : State} (hN : kN U) : va_Nw (Cond.fieldLinkNest RX3 164 "ClockPool$Pool" "written" "I" "ClockPool") U := kN_1 hN 76 rfl rfl
theorem kf_X2_69 : Cond.fieldLink RX2 69 "ClockPool$Pool" "come" "I" ∈ kT := kT_1 77 rfl rfl
theorem kfn_X3_167 {U : State} (hN : kN U) : va_Nw (Cond.fieldLinkNest RX3 167 "ClockPool$Pool" "come" "I" "ClockPool") U := kN_1 hN 78 rfl rfl
theorem kcl_X3_27 : Cond.classLink RX3 27 RX1 ∈ kT := kT_1 90 rfl rfl
theorem kis_X1 : Cond.instantiable RX1 7 ∈ kT := kT_1 91 rfl rfl
theorem kmn_X3_29 {U : State} (hN : kN U) : va_Nw (Cond.methodLinkNest RX3 29 yX1_init "ClockPool") U := kN_1 hN 92 rfl rfl
theorem kim_X1_init : Cond.instanceMethod yX1_init ∈ kT := kT_1 93 rfl rfl
theorem kcd_X1_init : Cond.code yX1_init cX1_init 1 none ∈ kT := kT_1 94 rfl rfl
theorem km_X1_3 : Cond.methodLink RX1 3 objectInit ∈ kT := kT_1 95 rfl rfl
theorem kf_X1_9 : Cond.fieldLink RX1 9 "ClockPool$Log" "cells" "[I" ∈ kT := kT_1 96 rfl rfl
theorem kf_X1_15 : Cond.fieldLink RX1 15 "ClockPool$Log" "undone" "[Z" ∈ kT := kT_1 97 rfl rfl
theorem kf_X1_19 : Cond.fieldLink RX1 19 "ClockPool$Log" "lastUpdate" "[I" ∈ kT := kT_1 98 rfl rfl
theorem kf_X1_22 : Cond.fieldLink RX1 22 "ClockPool$Log" "lastOver" "[I" ∈ kT := kT_1 99 rfl rfl
theorem kf_X1_25 : Cond.fieldLink RX1 25 "ClockPool$Log" "openUpdates" "[I" ∈ kT := kT_1 100 rfl rfl
theorem kf_X1_32 : Cond.fieldLink RX1 32 "ClockPool$Log" "size" "I" ∈ kT := kT_1 101 rfl rfl
theorem kfn_X3_100 {U : State} (hN : kN U) : va_Nw (Cond.fieldLinkNest RX3 100 "ClockPool$Log" "size" "I" "ClockPool") U := kN_1 hN 102 rfl rfl
theorem kfn_X3_45 {U : State} (hN : kN U) : va_Nw (Cond.fieldLinkNest RX3 45 "ClockPool$Log" "flushed" "I" "ClockPool") U := kN_1 hN 103 rfl rfl
theorem kf_X1_44 : Cond.fieldLink RX1 44 "ClockPool$Log" "flushed" "I" ∈ kT := kT_1 104 rfl rfl
theorem kac_boolean : Cond.arrayClass .boolean ∈ kT := kT_1 120 rfl rfl
theorem kf_X3_23 : Cond.fieldLink RX3 23 "ClockPool" "pool" "LClockPool$Pool;" ∈ kT := kT_1 121 rfl rfl
theorem kf_X3_30 : Cond.fieldLink RX3 30 "ClockPool" "records" "LClockPool$Log;" ∈ kT := kT_1 122 rfl rfl
theorem kf_X3_34 : Cond.fieldLink RX3 34 "ClockPool" "active" "[Z" ∈ kT := kT_1 123 rfl rfl
theorem kf_X3_38 : Cond.fieldLink RX3 38 "ClockPool" "abortBegun" "[Z" ∈ kT := kT_1 124 rfl rfl
theorem kf_X3_148 : Cond.fieldLink RX3 148 "ClockPool" "crashes" "I" ∈ kT := kT_1 125 rfl rfl
theorem kf_X3_142 : Cond.fieldLink RX3 142 "ClockPool" "undoneByCrash" "I" ∈ kT := kT_1 126 rfl rfl
theorem km_L_80 : Cond.methodLink RL 80 yX3_begin ∈ kT := kT_1 140 rfl rfl
theorem kim_X3_begin : Cond.instanceMethod yX3_begin ∈ kT := kT_1 141 rfl rfl
theorem ksl_X3_begin : Cond.selects RX3 yX3_begin yX3_begin ∈ kT := kT_1 142 rfl rfl
theorem kcd_X3_begin : Cond.code yX3_begin cX3_begin 2 (some .int) ∈ kT := kT_1 143 rfl rfl
theorem km_X3_69 : Cond.methodLink RX3 69 yX3_leastInactive ∈ kT := kT_1 144 rfl rfl
theorem kim_X3_leastInactive : Cond.instanceMethod yX3_leastInactive ∈ kT := kT_1 146 rfl rfl
theorem kcd_X3_leastInactive : Cond.code yX3_leastInactive cX3_leastInactive 2 (some .int) ∈ kT := kT_1 147 rfl rfl
theorem km_X3_73 : Cond.methodLink RX3 73 yX3_activeOnes ∈ kT := kT_1 148 rfl rfl
theorem kim_X3_activeOnes : Cond.instanceMethod yX3_activeOnes ∈ kT := kT_1 150 rfl rfl
theorem kcd_X3_activeOnes : Cond.code yX3_activeOnes cX3_activeOnes 3 (some .int) ∈ kT := kT_1 151 rfl rfl
theorem kmn_X3_76 {U : State} (hN : kN U) : va_Nw (Cond.methodLinkNest RX3 76 yX1_hasRoomFor "ClockPool") U := kN_1 hN 152 rfl rfl
theorem kim_X1_hasRoomFor : Cond.instanceMethod yX1_hasRoomFor ∈ kT := kT_1 154 rfl rfl
theorem kcd_X1_hasRoomFor : Cond.code yX1_hasRoomFor cX1_hasRoomFor 4 (some .boolean) ∈ kT := kT_1 155 rfl rfl
theorem km_L_100 : Cond.methodLink RL 100 yX3_crash ∈ kT := kT_1 156 rfl rfl
theorem kim_X3_crash : Cond.instanceMethod yX3_crash ∈ kT := kT_1 157 rfl rfl
theorem ksl_X3_crash : Cond.selects RX3 yX3_crash yX3_crash ∈ kT := kT_1 158 rfl rfl
theorem kcd_X3_crash : Cond.code yX3_crash cX3_crash 2 (some .int) ∈ kT := kT_1 159 rfl rfl
theorem kmn_X3_127 {U : State} (hN : kN U) : va_Nw (Cond.methodLinkNest RX3 127 yX1_dropUnflushed "ClockPool") U := kN_1 hN 160 rfl rfl
theorem kim_X1_dropUnflushed : Cond.instanceMethod yX1_dropUnflushed ∈ kT := kT_1 162 rfl rfl
theorem kcd_X1_dropUnflushed : Cond.code yX1_dropUnflushed cX1_dropUnflushed 3 (some .int) ∈ kT := kT_1 163 rfl rfl
theorem km_X1_55 : Cond.methodLink RX1 55 yJ7_fill_53178 ∈ kT := kT_1 164 rfl rfl
theorem kst_J7_fill_53178 : Cond.static yJ7_fill_53178 ∈ kT := kT_1 165 rfl rfl
theorem kcd_J7_fill_53178 : Cond.code yJ7_fill_53178 cJ7_fill_53178 4 none ∈ kT := kT_1 166 rfl rfl
theorem km_X1_40 : Cond.methodLink RX1 40 yX1_follow ∈ kT := kT_1 167 rfl rfl
theorem kim_X1_follow : Cond.instanceMethod yX1_follow ∈ kT := kT_1 169 rfl rfl
theorem kcd_X1_follow : Cond.code yX1_follow cX1_follow 4 none ∈ kT := kT_1 170 rfl rfl
theorem km_X1_28 : Cond.methodLink RX1 28 yX1_value ∈ kT := kT_1 171 rfl rfl
theorem kim_X1_value : Cond.instanceMethod yX1_value ∈ kT := kT_1 173 rfl rfl
theorem kcd_X1_value : Cond.code yX1_value cX1_value 3 (some .int) ∈ kT := kT_1 174 rfl rfl
theorem kmn_X3_130 {U : State} (hN : kN U) : va_Nw (Cond.methodLinkNest RX3 130 yX2_clear "ClockPool") U := kN_1 hN 175 rfl rfl
theorem kim_X2_clear : Cond.instanceMethod yX2_clear ∈ kT := kT_1 177 rfl rfl
theorem kcd_X2_clear : Cond.code yX2_clear cX2_clear 2 none ∈ kT := kT_1 178 rfl rfl
theorem kmn_X2_75 {U : State} (hN : kN U) : va_Nw (Cond.methodLinkNest RX2 75 yX0_makeEmpty "ClockPool") U := kN_1 hN 179 rfl rfl
theorem kim_X0_makeEmpty : Cond.instanceMethod yX0_makeEmpty ∈ kT := kT_1 181 rfl rfl
theorem kcd_X0_makeEmpty : Cond.code yX0_makeEmpty cX0_makeEmpty 1 none ∈ kT := kT_1 182 rfl rfl
theorem km_X0_26 : Cond.methodLink RX0 26 yJ7_fill_53178 ∈ kT := kT_1 183 rfl rfl
theorem km_X3_133 : Cond.methodLink RX3 133 yX3_forgetActiveOnes ∈ kT := kT_1 184 rfl rfl
theorem kim_X3_forgetActiveOnes : Cond.instanceMethod yX3_forgetActiveOnes ∈ kT := kT_1 186 rfl rfl
theorem kcd_X3_forgetActiveOnes : Cond.code yX3_forgetActiveOnes cX3_forgetActiveOnes 2 none ∈ kT := kT_1 187 rfl rfl
theorem km_X3_136 : Cond.methodLink RX3 136 yX3_redoOnDisk ∈ kT := kT_1 188 rfl rfl
theorem kim_X3_redoOnDisk : Cond.instanceMethod yX3_redoOnDisk ∈ kT := kT_1 190 rfl rfl
theorem kcd_X3_redoOnDisk : Cond.code yX3_redoOnDisk cX3_redoOnDisk 2 none ∈ kT := kT_1 191 rfl rfl
theorem kmn_X3_176 {U : State} (hN : kN U) : va_Nw (Cond.methodLinkNest RX3 176 yX1_changesPage "ClockPool") U := kN_1 hN 192 rfl rfl
theorem kim_X1_changesPage : Cond.instanceMethod yX1_changesPage ∈ kT := kT_1 194 rfl rfl
theorem kcd_X1_changesPage : Cond.code yX1_changesPage cX1_changesPage 3 (some .boolean) ∈ kT := kT_1 195 rfl rfl
theorem kmn_X3_106 {U : State} (hN : kN U) : va_Nw (Cond.methodLinkNest RX3 106 yX1_value "ClockPool") U := kN_1 hN 196 rfl rfl
theorem km_X3_179 : Cond.methodLink RX3 179 yX3_putOnDisk ∈ kT := kT_1 197 rfl rfl
theorem kim_X3_putOnDisk : Cond.instanceMethod yX3_putOnDisk ∈ kT := kT_1 199 rfl rfl
theorem kcd_X3_putOnDisk : Cond.code yX3_putOnDisk cX3_putOnDisk 3 none ∈ kT := kT_1 200 rfl rfl
theorem km_X3_139 : Cond.methodLink RX3 139 yX3_undoOnDisk ∈ kT := kT_1 201 rfl rfl
theorem kim_X3_undoOnDisk : Cond.instanceMethod yX3_undoOnDisk ∈ kT := kT_1 203 rfl rfl
theorem kcd_X3_undoOnDisk : Cond.code yX3_undoOnDisk cX3_undoOnDisk 4 (some .int) ∈ kT := kT_1 204 rfl rfl
theorem kmn_X3_103 {U : State} (hN : kN U) : va_Nw (Cond.methodLinkNest RX3 103 yX1_isOpen "ClockPool") U := kN_1 hN 205 rfl rfl
theorem kim_X1_isOpen : Cond.instanceMethod yX1_isOpen ∈ kT := kT_1 207 rfl rfl
theorem kcd_X1_isOpen : Cond.code yX1_isOpen cX1_isOpen 2 (some .boolean) ∈ kT := kT_1 208 rfl rfl
theorem kmn_X3_173 {U : State} (hN : kN U) : va_Nw (Cond.methodLinkNest RX3 173 yX1_appendUndo "ClockPool") U := kN_1 hN 209 rfl rfl
theorem kim_X1_appendUndo : Cond.instanceMethod yX1_appendUndo ∈ kT := kT_1 211 rfl rfl
theorem kcd_X1_appendUndo : Cond.code yX1_appendUndo cX1_appendUndo 3 (some .int) ∈ kT := kT_1 212 rfl rfl
theorem km_X1_36 : Cond.methodLink RX1 36 yX1_append ∈ kT := kT_1 213 rfl rfl
theorem kim_X1_append : Cond.instanceMethod yX1_append ∈ kT := kT_1 215 rfl rfl
theorem kcd_X1_append : Cond.code yX1_append cX1_append 9 (some .int) ∈ kT := kT_1 216 rfl rfl
theorem km_X3_145 : Cond.methodLink RX3 145 yX3_endUnended ∈ kT := kT_1 217 rfl rfl
theorem kim_X3_endUnended : Cond.instanceMethod yX3_endUnended ∈ kT := kT_1 219 rfl rfl
theorem kcd_X3_endUnended : Cond.code yX3_endUnended cX3_endUnended 2 none ∈ kT := kT_1 220 rfl rfl
theorem kmn_X3_182 {U : State} (hN : kN U) : va_Nw (Cond.methodLinkNest RX3 182 yX1_isUnended "ClockPool") U := kN_1 hN 221 rfl rfl
theorem kim_X1_isUnended : Cond.instanceMethod yX1_isUnended ∈ kT := kT_1 223 rfl rfl
theorem kcd_X1_isUnended : Cond.code yX1_isUnended cX1_isUnended 2 (some .boolean) ∈ kT := kT_1 224 rfl rfl
theorem kmn_X3_91 {U : State} (hN : kN U) : va_Nw (Cond.methodLinkNest RX3 91 yX1_appendLast "ClockPool") U := kN_1 hN 225 rfl rfl
theorem kim_X1_appendLast : Cond.instanceMethod yX1_appendLast ∈ kT := kT_1 227 rfl rfl
theorem kcd_X1_appendLast : Cond.code yX1_appendLast cX1_appendLast 3 (some .int) ∈ kT := kT_1 228 rfl rfl
theorem kmn_X3_94 {U : State} (hN : kN U) : va_Nw (Cond.methodLinkNest RX3 94 yX1_flushTo "ClockPool") U := kN_1 hN 229 rfl rfl
theorem kim_X1_flushTo : Cond.instanceMethod yX1_flushTo ∈ kT := kT_1 231 rfl rfl
theorem kcd_X1_flushTo : Cond.code yX1_flushTo cX1_flushTo 2 none ∈ kT := kT_1 232 rfl rfl
theorem km_X1_47 : Cond.methodLink RX1 47 Lib.Math.min.name ∈ kT := kT_1 233 rfl rfl
theorem km_X1_52 : Cond.methodLink RX1 52 Lib.Math.max.name ∈ kT := kT_1 234 rfl rfl
theorem km_L_53 : Cond.methodLink RL 53 yL_cell ∈ kT := kT_1 235 rfl rfl
theorem kst_L_cell : Cond.static yL_cell ∈ kT := kT_1 236 rfl rfl
theorem kcd_L_cell : Cond.code yL_cell cL_cell 2 (some .int) ∈ kT := kT_1 237 rfl rfl
theorem km_L_65 : Cond.methodLink RL 65 yL_fetch ∈ kT := kT_1 238 rfl rfl
theorem kst_L_fetch : Cond.static yL_fetch ∈ kT := kT_1 239 rfl rfl
theorem kcd_L_fetch : Cond.codeWith yL_fetch cL_fetch 4 (some .int) [(0, 9, 12, 13)] ∈ kT := kT_2 0 rfl rfl
theorem kcl_L_13 : Cond.classLink RL 13 "java/lang/IllegalArgumentException" ∈ kT := kT_2 1 rfl rfl
theorem km_L_7 : Cond.methodLink RL 7 yX3_fetch ∈ kT := kT_2 2 rfl rfl
theorem kim_X3_fetch : Cond.instanceMethod yX3_fetch ∈ kT := kT_2 3 rfl rfl
theorem ksl_X3_fetch : Cond.selects RX3 yX3_fetch yX3_fetch ∈ kT := kT_2 4 rfl rfl
theorem kcd_X3_fetch : Cond.code yX3_fetch cX3_fetch 3 (some .int) ∈ kT := kT_2 5 rfl rfl
theorem km_X3_41 : Cond.methodLink RX3 41 yX3_checkBelow ∈ kT := kT_2 6 rfl rfl
theorem kst_X3_checkBelow : Cond.static yX3_checkBelow ∈ kT := kT_2 7 rfl rfl
theorem kcd_X3_checkBelow : Cond.code yX3_checkBelow cX3_checkBelow 2 none ∈ kT := kT_2 8 rfl rfl
theorem kcl_X3_112 : Cond.classLink RX3 112 "java/lang/IllegalArgumentException" ∈ kT := kT_2 9 rfl rfl
theorem kis_IllegalArgumentException : Cond.instantiable "java/lang/IllegalArgumentException" 6 ∈ kT := kT_2 10 rfl rfl
theorem kf_Throwable_198 : Cond.fieldLink "java/lang/Throwable" 198 "java/lang/Throwable" "backtrace" "Ljava/lang/Object;" ∈ kT := kT_2 30 rfl rfl
theorem km_Throwable_1 : Cond.methodLink "java/lang/Throwable" 1 objectInit ∈ kT := kT_2 34 rfl rfl
theorem kf_Throwable_13 : Cond.fieldLink "java/lang/Throwable" 13 "java/lang/Throwable" "UNASSIGNED_STACK" "[Ljava/lang/StackTraceElement;" ∈ kT := kT_2 35 rfl rfl
theorem kf_Throwable_20 : Cond.fieldLink "java/lang/Throwable" 20 "java/lang/Throwable" "SUPPRESSED_SENTINEL" "Ljava/util/List;" ∈ kT := kT_2 37 rfl rfl
theorem kis_Throwable : Cond.instantiable "java/lang/Throwable" 6 ∈ kT := kT_2 47 rfl rfl
theorem kf_Throwable_7 : Cond.fieldLink "java/lang/Throwable" 7 "java/lang/Throwable" "cause" "Ljava/lang/Throwable;" ∈ kT := kT_2 60 rfl rfl
theorem kf_Throwable_17 : Cond.fieldLink "java/lang/Throwable" 17 "java/lang/Throwable" "stackTrace" "[Ljava/lang/StackTraceElement;" ∈ kT := kT_2 61 rfl rfl
theorem kf_Throwable_24 : Cond.fieldLink "java/lang/Throwable" 24 "java/lang/Throwable" "suppressedExceptions" "Ljava/util/List;" ∈ kT := kT_2 62 rfl rfl
theorem kmn_X3_49 {U : State} (hN : kN U) : va_Nw (Cond.methodLinkNest RX3 49 yX2_bring "ClockPool") U := kN_2 hN 71 rfl rfl
theorem kim_X2_bring : Cond.instanceMethod yX2_bring ∈ kT := kT_2 73 rfl rfl
theorem kcd_X2_bring : Cond.code yX2_bring cX2_bring 4 (some .int) ∈ kT := kT_2 74 rfl rfl
theorem km_X2_27 : Cond.methodLink RX2 27 yX2_find ∈ kT := kT_2 75 rfl rfl
theorem kim_X2_find : Cond.instanceMethod yX2_find ∈ kT := kT_2 77 rfl rfl
theorem kcd_X2_find : Cond.code yX2_find cX2_find 3 (some .int) ∈ kT := kT_2 78 rfl rfl
theorem km_X2_31 : Cond.methodLink RX2 31 yX2_roomFor ∈ kT := kT_2 79 rfl rfl
theorem kim_X2_roomFor : Cond.instanceMethod yX2_roomFor ∈ kT := kT_2 81 rfl rfl
theorem kcd_X2_roomFor : Cond.code yX2_roomFor cX2_roomFor 3 (some .int) ∈ kT := kT_2 82 rfl rfl
theorem km_X2_42 : Cond.methodLink RX2 42 yX2_turnHand ∈ kT := kT_2 83 rfl rfl
theorem kim_X2_turnHand : Cond.instanceMethod yX2_turnHand ∈ kT := kT_2 85 rfl rfl
theorem kcd_X2_turnHand : Cond.code yX2_turnHand cX2_turnHand 4 (some .int) ∈ kT := kT_2 86 rfl rfl
theorem kmn_X2_48 {U : State} (hN : kN U) : va_Nw (Cond.methodLinkNest RX2 48 yX0_mayBeTaken "ClockPool") U := kN_2 hN 87 rfl rfl
theorem kim_X0_mayBeTaken : Cond.instanceMethod yX0_mayBeTaken ∈ kT := kT_2 89 rfl rfl
theorem kcd_X0_mayBeTaken : Cond.code yX0_mayBeTaken cX0_mayBeTaken 2 (some .boolean) ∈ kT := kT_2 90 rfl rfl
theorem km_X2_34 : Cond.methodLink RX2 34 yX2_load ∈ kT := kT_2 91 rfl rfl
theorem kim_X2_load : Cond.instanceMethod yX2_load ∈ kT := kT_2 93 rfl rfl
theorem kcd_X2_load : Cond.code yX2_load cX2_load 3 none ∈ kT := kT_2 94 rfl rfl
theorem km_X2_55 : Cond.methodLink RX2 55 yX2_writeBack ∈ kT := kT_2 95 rfl rfl
theorem kim_X2_writeBack : Cond.instanceMethod yX2_writeBack ∈ kT := kT_2 97 rfl rfl
theorem kcd_X2_writeBack : Cond.code yX2_writeBack cX2_writeBack 2 none ∈ kT := kT_2 98 rfl rfl
theorem km_X2_63 : Cond.methodLink RX2 63 arraycopyName ∈ kT := kT_2 99 rfl rfl
theorem kst_arraycopyName : Cond.static arraycopyName ∈ kT := kT_2 100 rfl rfl
theorem knt_arraycopyName : Cond.native arraycopyName ∈ kT := kT_2 101 rfl rfl
theorem km_L_73 : Cond.methodLink RL 73 yL_release ∈ kT := kT_2 102 rfl rfl
theorem kst_L_release : Cond.static yL_release ∈ kT := kT_2 103 rfl rfl
theorem kcd_L_release : Cond.codeWith yL_release cL_release 4 (some .int) [(0, 9, 12, 13), (0, 9, 15, 18)] ∈ kT := kT_2 104 rfl rfl
theorem kcl_L_18 : Cond.classLink RL 18 "java/lang/IllegalStateException" ∈ kT := kT_2 105 rfl rfl
theorem km_L_15 : Cond.methodLink RL 15 yX3_release ∈ kT := kT_2 106 rfl rfl
theorem kim_X3_release : Cond.instanceMethod yX3_release ∈ kT := kT_2 107 rfl rfl
theorem ksl_X3_release : Cond.selects RX3 yX3_release yX3_release ∈ kT := kT_2 108 rfl rfl
theorem kcd_X3_release : Cond.code yX3_release cX3_release 3 (some .int) ∈ kT := kT_2 109 rfl rfl
theorem km_X3_61 : Cond.methodLink RX3 61 yX3_pinnedFrame ∈ kT := kT_2 110 rfl rfl
theorem kim_X3_pinnedFrame : Cond.instanceMethod yX3_pinnedFrame ∈ kT := kT_2 112 rfl rfl
theorem kcd_X3_pinnedFrame : Cond.code yX3_pinnedFrame cX3_pinnedFrame 3 (some (.object "ClockPool$Frame")) ∈ kT := kT_2 113 rfl rfl
theorem kmn_X3_115 {U : State} (hN : kN U) : va_Nw (Cond.methodLinkNest RX3 115 yX2_find "ClockPool") U := kN_2 hN 114 rfl rfl
theorem kcl_X3_170 : Cond.classLink RX3 170 "java/lang/IllegalStateException" ∈ kT := kT_2 115 rfl rfl
theorem kis_IllegalStateException : Cond.instantiable "java/lang/IllegalStateException" 6 ∈ kT := kT_2 116 rfl rfl
theorem km_L_76 : Cond.methodLink RL 76 yL_get ∈ kT := kT_2 130 rfl rfl
theorem kst_L_get : Cond.static yL_get ∈ kT := kT_2 131 rfl rfl
theorem kcd_L_get : Cond.codeWith yL_get cL_get 5 (some .int) [(0, 10, 13, 13), (0, 10, 17, 18)] ∈ kT := kT_2 132 rfl rfl
theorem km_L_20 : Cond.methodLink RL 20 yX3_get ∈ kT := kT_2 133 rfl rfl
theorem kim_X3_get : Cond.instanceMethod yX3_get ∈ kT := kT_2 134 rfl rfl
theorem ksl_X3_get : Cond.selects RX3 yX3_get yX3_get ∈ kT := kT_2 135 rfl rfl
theorem kcd_X3_get : Cond.code yX3_get cX3_get 3 (some .int) ∈ kT := kT_2 136 rfl rfl
theorem km_L_84 : Cond.methodLink RL 84 yL_set ∈ kT := kT_2 137 rfl rfl
theorem kst_L_set : Cond.static yL_set ∈ kT := kT_2 138 rfl rfl
theorem kcd_L_set : Cond.codeWith yL_set cL_set 7 (some .int) [(0, 14, 17, 13), (0, 14, 21, 18)] ∈ kT := kT_2 139 rfl rfl
theorem km_L_24 : Cond.methodLink RL 24 yX3_set ∈ kT := kT_2 140 rfl rfl
theorem kim_X3_set : Cond.instanceMethod yX3_set ∈ kT := kT_2 141 rfl rfl
theorem ksl_X3_set : Cond.selects RX3 yX3_set yX3_set ∈ kT := kT_2 142 rfl rfl
theorem kcd_X3_set : Cond.code yX3_set cX3_set 7 (some .int) ∈ kT := kT_2 143 rfl rfl
theorem km_X3_80 : Cond.methodLink RX3 80 yX3_checkGoesOn ∈ kT := kT_2 144 rfl rfl
theorem kim_X3_checkGoesOn : Cond.instanceMethod yX3_checkGoesOn ∈ kT := kT_2 146 rfl rfl
theorem kcd_X3_checkGoesOn : Cond.code yX3_checkGoesOn cX3_checkGoesOn 2 none ∈ kT := kT_2 147 rfl rfl
theorem km_X3_97 : Cond.methodLink RX3 97 yX3_checkActive ∈ kT := kT_2 148 rfl rfl
theorem kim_X3_checkActive : Cond.instanceMethod yX3_checkActive ∈ kT := kT_2 150 rfl rfl
theorem kcd_X3_checkActive : Cond.code yX3_checkActive cX3_checkActive 2 none ∈ kT := kT_2 151 rfl rfl
theorem kmn_X3_83 {U : State} (hN : kN U) : va_Nw (Cond.methodLinkNest RX3 83 yX1_append "ClockPool") U := kN_2 hN 152 rfl rfl
theorem kmn_X3_87 {U : State} (hN : kN U) : va_Nw (Cond.methodLinkNest RX3 87 yX0_change "ClockPool") U := kN_2 hN 153 rfl rfl
theorem kim_X0_change : Cond.instanceMethod yX0_change ∈ kT := kT_2 155 rfl rfl
theorem kcd_X0_change : Cond.code yX0_change cX0_change 4 none ∈ kT := kT_2 156 rfl rfl
theorem km_L_88 : Cond.methodLink RL 88 yL_commit ∈ kT := kT_2 157 rfl rfl
theorem kst_L_commit : Cond.static yL_commit ∈ kT := kT_2 158 rfl rfl
theorem kcd_L_commit : Cond.codeWith yL_commit cL_commit 4 (some .int) [(0, 9, 12, 13), (0, 9, 15, 18)] ∈ kT := kT_2 159 rfl rfl
theorem km_L_28 : Cond.methodLink RL 28 yX3_commit ∈ kT := kT_2 160 rfl rfl
theorem kim_X3_commit : Cond.instanceMethod yX3_commit ∈ kT := kT_2 161 rfl rfl
theorem ksl_X3_commit : Cond.selects RX3 yX3_commit yX3_commit ∈ kT := kT_2 162 rfl rfl
theorem kcd_X3_commit : Cond.code yX3_commit cX3_commit 3 (some .int) ∈ kT := kT_2 163 rfl rfl
theorem km_L_91 : Cond.methodLink RL 91 yL_abort ∈ kT := kT_2 164 rfl rfl
theorem kst_L_abort : Cond.static yL_abort ∈ kT := kT_2 165 rfl rfl
theorem kcd_L_abort : Cond.codeWith yL_abort cL_abort 4 (some .int) [(0, 9, 12, 13), (0, 9, 15, 18)] ∈ kT := kT_2 166 rfl rfl
theorem km_L_31 : Cond.methodLink RL 31 yX3_abort ∈ kT := kT_2 167 rfl rfl
theorem kim_X3_abort : Cond.instanceMethod yX3_abort ∈ kT := kT_2 168 rfl rfl
theorem ksl_X3_abort : Cond.selects RX3 yX3_abort yX3_abort ∈ kT := kT_2 169 rfl rfl
theorem kcd_X3_abort : Cond.code yX3_abort cX3_abort 4 (some .int) ∈ kT := kT_2 170 rfl rfl
theorem km_X3_109 : Cond.methodLink RX3 109 yX3_undoInPool ∈ kT := kT_2 171 rfl rfl
theorem kim_X3_undoInPool : Cond.instanceMethod yX3_undoInPool ∈ kT := kT_2 173 rfl rfl
theorem kcd_X3_undoInPool : Cond.code yX3_undoInPool cX3_undoInPool 6 (some .boolean) ∈ kT := kT_2 174 rfl rfl
theorem km_L_94 : Cond.methodLink RL 94 yL_flush ∈ kT := kT_2 175 rfl rfl
theorem kst_L_flush : Cond.static yL_flush ∈ kT := kT_2 176 rfl rfl
theorem kcd_L_flush : Cond.codeWith yL_flush cL_flush 4 (some .int) [(0, 9, 12, 13)] ∈ kT := kT_2 177 rfl rfl
theorem km_L_34 : Cond.methodLink RL 34 yX3_flush ∈ kT := kT_2 178 rfl rfl
theorem kim_X3_flush : Cond.instanceMethod yX3_flush ∈ kT := kT_2 179 rfl rfl
theorem ksl_X3_flush : Cond.selects RX3 yX3_flush yX3_flush ∈ kT := kT_2 180 rfl rfl
theorem kcd_X3_flush : Cond.code yX3_flush cX3_flush 2 (some .int) ∈ kT := kT_2 181 rfl rfl
theorem km_L_97 : Cond.methodLink RL 97 yL_clean ∈ kT := kT_2 182 rfl rfl
theorem kst_L_clean : Cond.static yL_clean ∈ kT := kT_2 183 rfl rfl
theorem kcd_L_clean : Cond.codeWith yL_clean cL_clean 4 (some .int) [(0, 16, 19, 13)] ∈ kT := kT_2 184 rfl rfl
theorem km_L_37 : Cond.methodLink RL 37 yX3_clean ∈ kT := kT_2 185 rfl rfl
theorem kim_X3_clean : Cond.instanceMethod yX3_clean ∈ kT := kT_2 186 rfl rfl
theorem ksl_X3_clean : Cond.selects RX3 yX3_clean yX3_clean ∈ kT := kT_2 187 rfl rfl
theorem kcd_X3_clean : Cond.code yX3_clean cX3_clean 4 (some .boolean) ∈ kT := kT_2 188 rfl rfl
theorem kmn_X3_123 {U : State} (hN : kN U) : va_Nw (Cond.methodLinkNest RX3 123 yX2_writeBack "ClockPool") U := kN_2 hN 189 rfl rfl
theorem km_L_104 : Cond.methodLink RL 104 yL_disk ∈ kT := kT_2 190 rfl rfl
theorem kst_L_disk : Cond.static yL_disk ∈ kT := kT_2 191 rfl rfl
theorem kcd_L_disk : Cond.codeWith yL_disk cL_disk 5 (some .int) [(0, 10, 13, 13)] ∈ kT := kT_2 192 rfl rfl
theorem km_L_41 : Cond.methodLink RL 41 yX3_disk ∈ kT := kT_2 193 rfl rfl
theorem kim_X3_disk : Cond.instanceMethod yX3_disk ∈ kT := kT_2 194 rfl rfl
theorem ksl_X3_disk : Cond.selects RX3 yX3_disk yX3_disk ∈ kT := kT_2 195 rfl rfl
theorem kcd_X3_disk : Cond.code yX3_disk cX3_disk 3 (some .int) ∈ kT := kT_2 196 rfl rfl
theorem km_L_107 : Cond.methodLink RL 107 yL_frame ∈ kT := kT_2 197 rfl rfl
theorem kst_L_frame : Cond.static yL_frame ∈ kT := kT_2 198 rfl rfl
theorem kcd_L_frame : Cond.codeWith yL_frame cL_frame 5 (some .int) [(0, 10, 13, 13)] ∈ kT := kT_2 199 rfl rfl
theorem km_L_44 : Cond.methodLink RL 44 yX3_frame ∈ kT := kT_2 200 rfl rfl
theorem kim_X3_frame : Cond.instanceMethod yX3_frame ∈ kT := kT_2 201 rfl rfl
theorem ksl_X3_frame : Cond.selects RX3 yX3_frame yX3_frame ∈ kT := kT_2 202 rfl rfl
theorem kcd_X3_frame : Cond.code yX3_frame cX3_frame 4 (some .int) ∈ kT := kT_2 203 rfl rfl
theorem km_L_110 : Cond.methodLink RL 110 yL_log ∈ kT := kT_2 204 rfl rfl
theorem kst_L_log : Cond.static yL_log ∈ kT := kT_2 205 rfl rfl
theorem kcd_L_log : Cond.codeWith yL_log cL_log 5 (some .int) [(0, 10, 13, 13)] ∈ kT := kT_2 206 rfl rfl
theorem km_L_47 : Cond.methodLink RL 47 yX3_log ∈ kT := kT_2 207 rfl rfl
theorem kim_X3_log : Cond.instanceMethod yX3_log ∈ kT := kT_2 208 rfl rfl
theorem ksl_X3_log : Cond.selects RX3 yX3_log yX3_log ∈ kT := kT_2 209 rfl rfl
theorem kcd_X3_log : Cond.code yX3_log cX3_log 3 (some .int) ∈ kT := kT_2 210 rfl rfl
theorem km_L_113 : Cond.methodLink RL 113 yL_count ∈ kT := kT_2 211 rfl rfl
theorem kst_L_count : Cond.static yL_count ∈ kT := kT_2 212 rfl rfl
theorem kcd_L_count : Cond.codeWith yL_count cL_count 4 (some .int) [(0, 9, 12, 13)] ∈ kT := kT_2 213 rfl rfl
theorem km_L_50 : Cond.methodLink RL 50 yX3_count ∈ kT := kT_2 214 rfl rfl
theorem kim_X3_count : Cond.instanceMethod yX3_count ∈ kT := kT_2 215 rfl rfl
theorem ksl_X3_count : Cond.selects RX3 yX3_count yX3_count ∈ kT := kT_2 216 rfl rfl
theorem kcd_X3_count : Cond.code yX3_count cX3_count 2 (some .int) ∈ kT := kT_2 217 rfl rfl
theorem kcl_L_62 : Cond.classLink RL 62 RX4 ∈ kT := kT_2 218 rfl rfl
theorem kis_X4 : Cond.instantiable RX4 27 ∈ kT := kT_2 219 rfl rfl
theorem km_L_64 : Cond.methodLink RL 64 yX4_init ∈ kT := kT_2 220 rfl rfl
theorem kim_X4_init : Cond.instanceMethod yX4_init ∈ kT := kT_2 221 rfl rfl
theorem kcd_X4_init : Cond.code yX4_init cX4_init 3 none ∈ kT := kT_2 222 rfl rfl
theorem km_X4_1 : Cond.methodLink RX4 1 objectInit ∈ kT := kT_2 223 rfl rfl
theorem kf_X4_69 : Cond.fieldLink RX4 69 "ClockPoolModel" "refusal" "I" ∈ kT := kT_2 224 rfl rfl
theorem kf_X4_65 : Cond.fieldLink RX4 65 "ClockPoolModel" "frames" "I" ∈ kT := kT_2 225 rfl rfl
theorem kf_X4_7 : Cond.fieldLink RX4 7 "ClockPoolModel" "disk" "[I" ∈ kT := kT_2 226 rfl rfl
theorem kf_X4_13 : Cond.fieldLink RX4 13 "ClockPoolModel" "diskLsn" "[I" ∈ kT := kT_2 227 rfl rfl
theorem kf_X4_16 : Cond.fieldLink RX4 16 "ClockPoolModel" "held" "[I" ∈ kT := kT_2 228 rfl rfl
theorem kf_X4_19 : Cond.fieldLink RX4 19 "ClockPoolModel" "number" "[I" ∈ kT := kT_2 229 rfl rfl
theorem kf_X4_22 : Cond.fieldLink RX4 22 "ClockPoolModel" "frameLsn" "[I" ∈ kT := kT_2 230 rfl rfl
theorem kf_X4_25 : Cond.fieldLink RX4 25 "ClockPoolModel" "pins" "[I" ∈ kT := kT_2 231 rfl rfl
theorem kf_X4_28 : Cond.fieldLink RX4 28 "ClockPoolModel" "isDirty" "[Z" ∈ kT := kT_2 232 rfl rfl
theorem kf_X4_32 : Cond.fieldLink RX4 32 "ClockPoolModel" "isMarked" "[Z" ∈ kT := kT_2 233 rfl rfl
theorem kf_X4_82 : Cond.fieldLink RX4 82 "ClockPoolModel" "hand" "I" ∈ kT := kT_2 234 rfl rfl
theorem kf_X4_113 : Cond.fieldLink RX4 113 "ClockPoolModel" "records" "I" ∈ kT := kT_2 235 rfl rfl
theorem kf_X4_72 : Cond.fieldLink RX4 72 "ClockPoolModel" "flushed" "I" ∈ kT := kT_2 236 rfl rfl
theorem kf_X4_35 : Cond.fieldLink RX4 35 "ClockPoolModel" "kind" "[I" ∈ kT := kT_2 237 rfl rfl
theorem kf_X4_38 : Cond.fieldLink RX4 38 "ClockPoolModel" "of" "[I" ∈ kT := kT_2 238 rfl rfl
theorem kf_X4_41 : Cond.fieldLink RX4 41 "ClockPoolModel" "page" "[I" ∈ kT := kT_2 239 rfl rfl
theorem kf_X4_44 : Cond.fieldLink RX4 44 "ClockPoolModel" "which" "[I" ∈ kT := kT_3 0 rfl rfl
theorem kf_X4_47 : Cond.fieldLink RX4 47 "ClockPoolModel" "was" "[I" ∈ kT := kT_3 1 rfl rfl
theorem kf_X4_50 : Cond.fieldLink RX4 50 "ClockPoolModel" "becomes" "[I" ∈ kT := kT_3 2 rfl rfl
theorem kf_X4_53 : Cond.fieldLink RX4 53 "ClockPoolModel" "undoes" "[I" ∈ kT := kT_3 3 rfl rfl
theorem kf_X4_56 : Cond.fieldLink RX4 56 "ClockPoolModel" "isUndone" "[Z" ∈ kT := kT_3 4 rfl rfl
theorem kf_X4_59 : Cond.fieldLink RX4 59 "ClockPoolModel" "isActive" "[Z" ∈ kT := kT_3 5 rfl rfl
theorem kf_X4_62 : Cond.fieldLink RX4 62 "ClockPoolModel" "isLeaving" "[Z" ∈ kT := kT_3 6 rfl rfl
theorem kf_X4_75 : Cond.fieldLink RX4 75 "ClockPoolModel" "written" "I" ∈ kT := kT_3 7 rfl rfl
theorem kf_X4_97 : Cond.fieldLink RX4 97 "ClockPoolModel" "come" "I" ∈ kT := kT_3 8 rfl rfl
theorem kf_X4_147 : Cond.fieldLink RX4 147 "ClockPoolModel" "crashes" "I" ∈ kT := kT_3 9 rfl rfl
theorem kf_X4_138 : Cond.fieldLink RX4 138 "ClockPoolModel" "undone" "I" ∈ kT := kT_3 10 rfl rfl
theorem km_L_69 : Cond.methodLink RL 69 yX4_thrown ∈ kT := kT_3 66 rfl rfl
theorem kim_X4_thrown : Cond.instanceMethod yX4_thrown ∈ kT := kT_3 67 rfl rfl
theorem ksl_X4_thrown : Cond.selects RX4 yX4_thrown yX4_thrown ∈ kT := kT_3 68 rfl rfl
theorem kcd_X4_thrown : Cond.code yX4_thrown cX4_thrown 1 (some .int) ∈ kT := kT_3 69 rfl rfl
theorem km_L_68 : Cond.methodLink RL 68 yX4_fetch ∈ kT := kT_3 70 rfl rfl
theorem kim_X4_fetch : Cond.instanceMethod yX4_fetch ∈ kT := kT_3 71 rfl rfl
theorem ksl_X4_fetch : Cond.selects RX4 yX4_fetch yX4_fetch ∈ kT := kT_3 72 rfl rfl
theorem kcd_X4_fetch : Cond.code yX4_fetch cX4_fetch 3 (some .int) ∈ kT := kT_3 73 rfl rfl
theorem km_X4_100 : Cond.methodLink RX4 100 yX4_isIn ∈ kT := kT_3 74 rfl rfl
theorem kst_X4_isIn : Cond.static yX4_isIn ∈ kT := kT_3 75 rfl rfl
theorem kcd_X4_isIn : Cond.code yX4_isIn cX4_isIn 3 (some .boolean) ∈ kT := kT_3 76 rfl rfl
theorem km_X4_104 : Cond.methodLink RX4 104 yX4_refused ∈ kT := kT_3 77 rfl rfl
theorem kim_X4_refused : Cond.instanceMethod yX4_refused ∈ kT := kT_3 79 rfl rfl
theorem kcd_X4_refused : Cond.code yX4_refused cX4_refused 2 (some .boolean) ∈ kT := kT_3 80 rfl rfl
theorem km_X4_107 : Cond.methodLink RX4 107 yX4_bring ∈ kT := kT_3 81 rfl rfl
theorem kim_X4_bring : Cond.instanceMethod yX4_bring ∈ kT := kT_3 83 rfl rfl
theorem kcd_X4_bring : Cond.code yX4_bring cX4_bring 4 (some .int) ∈ kT := kT_3 84 rfl rfl
theorem km_X4_89 : Cond.methodLink RX4 89 yX4_frameOf ∈ kT := kT_3 85 rfl rfl
theorem kim_X4_frameOf : Cond.instanceMethod yX4_frameOf ∈ kT := kT_3 87 rfl rfl
theorem kcd_X4_frameOf : Cond.code yX4_frameOf cX4_frameOf 3 (some .int) ∈ kT := kT_3 88 rfl rfl
theorem km_X4_93 : Cond.methodLink RX4 93 yX4_room ∈ kT := kT_3 89 rfl rfl
theorem kim_X4_room : Cond.instanceMethod yX4_room ∈ kT := kT_3 91 rfl rfl
theorem kcd_X4_room : Cond.code yX4_room cX4_room 3 (some .int) ∈ kT := kT_3 92 rfl rfl
theorem km_X4_78 : Cond.methodLink RX4 78 yX4_mayGo ∈ kT := kT_3 93 rfl rfl
theorem kim_X4_mayGo : Cond.instanceMethod yX4_mayGo ∈ kT := kT_3 95 rfl rfl
theorem kcd_X4_mayGo : Cond.code yX4_mayGo cX4_mayGo 2 (some .boolean) ∈ kT := kT_3 96 rfl rfl
theorem km_X4_85 : Cond.methodLink RX4 85 yX4_write ∈ kT := kT_3 97 rfl rfl
theorem kim_X4_write : Cond.instanceMethod yX4_write ∈ kT := kT_3 99 rfl rfl
theorem kcd_X4_write : Cond.code yX4_write cX4_write 3 none ∈ kT := kT_3 100 rfl rfl
theorem km_L_75 : Cond.methodLink RL 75 yX4_release ∈ kT := kT_3 101 rfl rfl
theorem kim_X4_release : Cond.instanceMethod yX4_release ∈ kT := kT_3 102 rfl rfl
theorem ksl_X4_release : Cond.selects RX4 yX4_release yX4_release ∈ kT := kT_3 103 rfl rfl
theorem kcd_X4_release : Cond.code yX4_release cX4_release 3 (some .int) ∈ kT := kT_3 104 rfl rfl
theorem km_X4_110 : Cond.methodLink RX4 110 yX4_isPinned ∈ kT := kT_3 105 rfl rfl
theorem kim_X4_isPinned : Cond.instanceMethod yX4_isPinned ∈ kT := kT_3 107 rfl rfl
theorem kcd_X4_isPinned : Cond.code yX4_isPinned cX4_isPinned 3 (some .boolean) ∈ kT := kT_3 108 rfl rfl
theorem km_L_79 : Cond.methodLink RL 79 yX4_get ∈ kT := kT_3 109 rfl rfl
theorem kim_X4_get : Cond.instanceMethod yX4_get ∈ kT := kT_3 110 rfl rfl
theorem ksl_X4_get : Cond.selects RX4 yX4_get yX4_get ∈ kT := kT_3 111 rfl rfl
theorem kcd_X4_get : Cond.code yX4_get cX4_get 4 (some .int) ∈ kT := kT_3 112 rfl rfl
theorem km_L_83 : Cond.methodLink RL 83 yX4_begin ∈ kT := kT_3 113 rfl rfl
theorem kim_X4_begin : Cond.instanceMethod yX4_begin ∈ kT := kT_3 114 rfl rfl
theorem ksl_X4_begin : Cond.selects RX4 yX4_begin yX4_begin ∈ kT := kT_3 115 rfl rfl
theorem kcd_X4_begin : Cond.code yX4_begin cX4_begin 2 (some .int) ∈ kT := kT_3 116 rfl rfl
theorem km_X4_119 : Cond.methodLink RX4 119 yX4_needed ∈ kT := kT_3 117 rfl rfl
theorem kim_X4_needed : Cond.instanceMethod yX4_needed ∈ kT := kT_3 119 rfl rfl
theorem kcd_X4_needed : Cond.code yX4_needed cX4_needed 3 (some .int) ∈ kT := kT_3 120 rfl rfl
theorem km_X4_116 : Cond.methodLink RX4 116 yX4_undosOf ∈ kT := kT_3 121 rfl rfl
theorem kim_X4_undosOf : Cond.instanceMethod yX4_undosOf ∈ kT := kT_3 123 rfl rfl
theorem kcd_X4_undosOf : Cond.code yX4_undosOf cX4_undosOf 4 (some .int) ∈ kT := kT_3 124 rfl rfl
theorem km_L_87 : Cond.methodLink RL 87 yX4_set ∈ kT := kT_3 125 rfl rfl
theorem kim_X4_set : Cond.instanceMethod yX4_set ∈ kT := kT_3 126 rfl rfl
theorem ksl_X4_set : Cond.selects RX4 yX4_set yX4_set ∈ kT := kT_3 127 rfl rfl
theorem kcd_X4_set : Cond.code yX4_set cX4_set 8 (some .int) ∈ kT := kT_3 128 rfl rfl
theorem km_X4_122 : Cond.methodLink RX4 122 yX4_record ∈ kT := kT_3 129 rfl rfl
theorem kim_X4_record : Cond.instanceMethod yX4_record ∈ kT := kT_3 131 rfl rfl
theorem kcd_X4_record : Cond.code yX4_record cX4_record 3 (some .int) ∈ kT := kT_3 132 rfl rfl
theorem km_L_90 : Cond.methodLink RL 90 yX4_commit ∈ kT := kT_3 133 rfl rfl
theorem kim_X4_commit : Cond.instanceMethod yX4_commit ∈ kT := kT_3 134 rfl rfl
theorem ksl_X4_commit : Cond.selects RX4 yX4_commit yX4_commit ∈ kT := kT_3 135 rfl rfl
theorem kcd_X4_commit : Cond.code yX4_commit cX4_commit 2 (some .int) ∈ kT := kT_3 136 rfl rfl
theorem km_L_93 : Cond.methodLink RL 93 yX4_abort ∈ kT := kT_3 137 rfl rfl
theorem kim_X4_abort : Cond.instanceMethod yX4_abort ∈ kT := kT_3 138 rfl rfl
theorem ksl_X4_abort : Cond.selects RX4 yX4_abort yX4_abort ∈ kT := kT_3 139 rfl rfl
theorem kcd_X4_abort : Cond.code yX4_abort cX4_abort 6 (some .int) ∈ kT := kT_3 140 rfl rfl
theorem km_X4_126 : Cond.methodLink RX4 126 yX4_lastOf ∈ kT := kT_3 141 rfl rfl
theorem kim_X4_lastOf : Cond.instanceMethod yX4_lastOf ∈ kT := kT_3 143 rfl rfl
theorem kcd_X4_lastOf : Cond.code yX4_lastOf cX4_lastOf 3 (some .int) ∈ kT := kT_3 144 rfl rfl
theorem km_X4_129 : Cond.methodLink RX4 129 yX4_tellUndo ∈ kT := kT_3 145 rfl rfl
theorem kim_X4_tellUndo : Cond.instanceMethod yX4_tellUndo ∈ kT := kT_3 147 rfl rfl
theorem kcd_X4_tellUndo : Cond.code yX4_tellUndo cX4_tellUndo 4 (some .int) ∈ kT := kT_3 148 rfl rfl
theorem km_L_96 : Cond.methodLink RL 96 yX4_flush ∈ kT := kT_3 149 rfl rfl
theorem kim_X4_flush : Cond.instanceMethod yX4_flush ∈ kT := kT_3 150 rfl rfl
theorem ksl_X4_flush : Cond.selects RX4 yX4_flush yX4_flush ∈ kT := kT_3 151 rfl rfl
theorem kcd_X4_flush : Cond.code yX4_flush cX4_flush 3 (some .int) ∈ kT := kT_3 152 rfl rfl
theorem km_L_99 : Cond.methodLink RL 99 yX4_clean ∈ kT := kT_3 153 rfl rfl
theorem kim_X4_clean : Cond.instanceMethod yX4_clean ∈ kT := kT_3 154 rfl rfl
theorem ksl_X4_clean : Cond.selects RX4 yX4_clean yX4_clean ∈ kT := kT_3 155 rfl rfl
theorem kcd_X4_clean : Cond.code yX4_clean cX4_clean 3 (some .boolean) ∈ kT := kT_3 156 rfl rfl
theorem km_L_103 : Cond.methodLink RL 103 yX4_crash ∈ kT := kT_3 157 rfl rfl
theorem kim_X4_crash : Cond.instanceMethod yX4_crash ∈ kT := kT_3 158 rfl rfl
theorem ksl_X4_crash : Cond.selects RX4 yX4_crash yX4_crash ∈ kT := kT_3 159 rfl rfl
theorem kcd_X4_crash : Cond.code yX4_crash cX4_crash 5 (some .int) ∈ kT := kT_3 160 rfl rfl
theorem km_X4_132 : Cond.methodLink RX4 132 yX4_loseRecords ∈ kT := kT_3 161 rfl rfl
theorem kim_X4_loseRecords : Cond.instanceMethod yX4_loseRecords ∈ kT := kT_3 163 rfl rfl
theorem kcd_X4_loseRecords : Cond.code yX4_loseRecords cX4_loseRecords 2 none ∈ kT := kT_3 164 rfl rfl
theorem km_X4_135 : Cond.methodLink RX4 135 yX4_redo ∈ kT := kT_3 165 rfl rfl
theorem kim_X4_redo : Cond.instanceMethod yX4_redo ∈ kT := kT_3 167 rfl rfl
theorem kcd_X4_redo : Cond.code yX4_redo cX4_redo 2 none ∈ kT := kT_3 168 rfl rfl
theorem km_X4_141 : Cond.methodLink RX4 141 yX4_isOpen ∈ kT := kT_3 169 rfl rfl
theorem kim_X4_isOpen : Cond.instanceMethod yX4_isOpen ∈ kT := kT_3 171 rfl rfl
theorem kcd_X4_isOpen : Cond.code yX4_isOpen cX4_isOpen 4 (some .boolean) ∈ kT := kT_3 172 rfl rfl
theorem km_X4_144 : Cond.methodLink RX4 144 yX4_isLatest ∈ kT := kT_3 173 rfl rfl
theorem kim_X4_isLatest : Cond.instanceMethod yX4_isLatest ∈ kT := kT_3 175 rfl rfl
theorem kcd_X4_isLatest : Cond.code yX4_isLatest cX4_isLatest 4 (some .boolean) ∈ kT := kT_3 176 rfl rfl
theorem km_L_106 : Cond.methodLink RL 106 yX4_disk ∈ kT := kT_3 177 rfl rfl
theorem kim_X4_disk : Cond.instanceMethod yX4_disk ∈ kT := kT_3 178 rfl rfl
theorem ksl_X4_disk : Cond.selects RX4 yX4_disk yX4_disk ∈ kT := kT_3 179 rfl rfl
theorem kcd_X4_disk : Cond.code yX4_disk cX4_disk 3 (some .int) ∈ kT := kT_3 180 rfl rfl
theorem km_L_109 : Cond.methodLink RL 109 yX4_frame ∈ kT := kT_3 181 rfl rfl
theorem kim_X4_frame : Cond.instanceMethod yX4_frame ∈ kT := kT_3 182 rfl rfl
theorem ksl_X4_frame : Cond.selects RX4 yX4_frame yX4_frame ∈ kT := kT_3 183 rfl rfl
theorem kcd_X4_frame : Cond.code yX4_frame cX4_frame 4 (some .int) ∈ kT := kT_3 184 rfl rfl
theorem km_L_112 : Cond.methodLink RL 112 yX4_log ∈ kT := kT_3 185 rfl rfl
theorem kim_X4_log : Cond.instanceMethod yX4_log ∈ kT := kT_3 186 rfl rfl
theorem ksl_X4_log : Cond.selects RX4 yX4_log yX4_log ∈ kT := kT_3 187 rfl rfl
theorem kcd_X4_log : Cond.code yX4_log cX4_log 3 (some .int) ∈ kT := kT_3 188 rfl rfl
theorem km_L_115 : Cond.methodLink RL 115 yX4_count ∈ kT := kT_3 189 rfl rfl
theorem kim_X4_count : Cond.instanceMethod yX4_count ∈ kT := kT_3 190 rfl rfl
theorem ksl_X4_count : Cond.selects RX4 yX4_count yX4_count ∈ kT := kT_3 191 rfl rfl
theorem kcd_X4_count : Cond.code yX4_count cX4_count 4 (some .int) ∈ kT := kT_3 192 rfl rfl
theorem kac_long : Cond.arrayClass .long ∈ kT := kT_3 193 rfl rfl
theorem ksl_X3_leastInactive : Cond.selects RX3 yX3_leastInactive yX3_leastInactive ∈ kT := kT_s (q := (yX3_leastInactive, 6)) (List.mem_append_left _ (List.mem_of_getElem? (i := 0) rfl)) rfl
theorem ksl_X3_activeOnes : Cond.selects RX3 yX3_activeOnes yX3_activeOnes ∈ kT := kT_s (q := (yX3_activeOnes, 6)) (List.mem_append_left _ (List.mem_of_getElem? (i := 1) rfl)) rfl
theorem ksl_X1_hasRoomFor : Cond.selects RX1 yX1_hasRoomFor yX1_hasRoomFor ∈ kT := kT_s (q := (yX1_hasRoomFor, 7)) (List.mem_append_left _ (List.mem_of_getElem? (i := 2) rfl)) rfl
theorem ksl_X1_dropUnflushed : Cond.selects RX1 yX1_dropUnflushed yX1_dropUnflushed ∈ kT := kT_s (q := (yX1_dropUnflushed, 7)) (List.mem_append_left _ (List.mem_of_getElem? (i := 3) rfl)) rfl
theorem ksl_X1_follow : Cond.selects RX1 yX1_follow yX1_follow ∈ kT := kT_s (q := (yX1_follow, 7)) (List.mem_append_left _ (List.mem_of_getElem? (i := 4) rfl)) rfl
theorem ksl_X1_value : Cond.selects RX1 yX1_value yX1_value ∈ kT := kT_s (q := (yX1_value, 7)) (List.mem_append_left _ (List.mem_of_getElem? (i := 5) rfl)) rfl
theorem ksl_X2_clear : Cond.selects RX2 yX2_clear yX2_clear ∈ kT := kT_s (q := (yX2_clear, 5)) (List.mem_append_left _ (List.mem_of_getElem? (i := 6) rfl)) rfl
theorem ksl_X0_makeEmpty : Cond.selects RX0 yX0_makeEmpty yX0_makeEmpty ∈ kT := kT_s (q := (yX0_makeEmpty, 5)) (List.mem_append_left _ (List.mem_of_getElem? (i := 7) rfl)) rfl
theorem ksl_X3_forgetActiveOnes : Cond.selects RX3 yX3_forgetActiveOnes yX3_forgetActiveOnes ∈ kT := kT_s (q := (yX3_forgetActiveOnes, 6)) (List.mem_append_left _ (List.mem_of_getElem? (i := 8) rfl)) rfl
theorem ksl_X3_redoOnDisk : Cond.selects RX3 yX3_redoOnDisk yX3_redoOnDisk ∈ kT := kT_s (q := (yX3_redoOnDisk, 6)) (List.mem_append_left _ (List.mem_of_getElem? (i := 9) rfl)) rfl
theorem ksl_X1_changesPage : Cond.selects RX1 yX1_changesPage yX1_changesPage ∈ kT := kT_s (q := (yX1_changesPage, 7)) (List.mem_append_left _ (List.mem_of_getElem? (i := 10) rfl)) rfl
theorem ksl_X3_putOnDisk : Cond.selects RX3 yX3_putOnDisk yX3_putOnDisk ∈ kT := kT_s (q := (yX3_putOnDisk, 6)) (List.mem_append_left _ (List.mem_of_getElem? (i := 11) rfl)) rfl
theorem ksl_X3_undoOnDisk : Cond.selects RX3 yX3_undoOnDisk yX3_undoOnDisk ∈ kT := kT_s (q := (yX3_undoOnDisk, 6)) (List.mem_append_left _ (List.mem_of_getElem? (i := 12) rfl)) rfl
theorem ksl_X1_isOpen : Cond.selects RX1 yX1_isOpen yX1_isOpen ∈ kT := kT_s (q := (yX1_isOpen, 7)) (List.mem_append_left _ (List.mem_of_getElem? (i := 13) rfl)) rfl
theorem ksl_X1_appendUndo : Cond.selects RX1 yX1_appendUndo yX1_appendUndo ∈ kT := kT_s (q := (yX1_appendUndo, 7)) (List.mem_append_left _ (List.mem_of_getElem? (i := 14) rfl)) rfl
theorem ksl_X1_append : Cond.selects RX1 yX1_append yX1_append ∈ kT := kT_s (q := (yX1_append, 7)) (List.mem_append_left _ (List.mem_of_getElem? (i := 15) rfl)) rfl
theorem ksl_X3_endUnended : Cond.selects RX3 yX3_endUnended yX3_endUnended ∈ kT := kT_s (q := (yX3_endUnended, 6)) (List.mem_append_right _ (List.mem_append_left _ (List.mem_of_getElem? (i := 0) rfl))) rfl
theorem ksl_X1_isUnended : Cond.selects RX1 yX1_isUnended yX1_isUnended ∈ kT := kT_s (q := (yX1_isUnended, 7)) (List.mem_append_right _ (List.mem_append_left _ (List.mem_of_getElem? (i := 1) rfl))) rfl
theorem ksl_X1_appendLast : Cond.selects RX1 yX1_appendLast yX1_appendLast ∈ kT := kT_s (q := (yX1_appendLast, 7)) (List.mem_append_right _ (List.mem_append_left _ (List.mem_of_getElem? (i := 2) rfl))) rfl
theorem ksl_X1_flushTo : Cond.selects RX1 yX1_flushTo yX1_flushTo ∈ kT := kT_s (q := (yX1_flushTo, 7)) (List.mem_append_right _ (List.mem_append_left _ (List.mem_of_getElem? (i := 3) rfl))) rfl
theorem ksl_X2_bring : Cond.selects RX2 yX2_bring yX2_bring ∈ kT := kT_s (q := (yX2_bring, 5)) (List.mem_append_right _ (List.mem_append_left _ (List.mem_of_getElem? (i := 5) rfl))) rfl
theorem ksl_X2_find : Cond.selects RX2 yX2_find yX2_find ∈ kT := kT_s (q := (yX2_find, 5)) (List.mem_append_right _ (List.mem_append_left _ (List.mem_of_getElem? (i := 6) rfl))) rfl
theorem ksl_X2_roomFor : Cond.selects RX2 yX2_roomFor yX2_roomFor ∈ kT := kT_s (q := (yX2_roomFor, 5)) (List.mem_append_right _ (List.mem_append_left _ (List.mem_of_getElem? (i := 7) rfl))) rfl
theorem ksl_X2_turnHand : Cond.selects RX2 yX2_turnHand yX2_turnHand ∈ kT := kT_s (q := (yX2_turnHand, 5)) (List.mem_append_right _ (List.mem_append_left _ (List.mem_of_getElem? (i := 8) rfl))) rfl
theorem ksl_X0_mayBeTaken : Cond.selects RX0 yX0_mayBeTaken yX0_mayBeTaken ∈ kT := kT_s (q := (yX0_mayBeTaken, 5)) (List.mem_append_right _ (List.mem_append_left _ (List.mem_of_getElem? (i := 9) rfl))) rfl
theorem ksl_X2_load : Cond.selects RX2 yX2_load yX2_load ∈ kT := kT_s (q := (yX2_load, 5)) (List.mem_append_right _ (List.mem_append_left _ (List.mem_of_getElem? (i := 10) rfl))) rfl
theorem ksl_X2_writeBack : Cond.selects RX2 yX2_writeBack yX2_writeBack ∈ kT := kT_s (q := (yX2_writeBack, 5)) (List.mem_append_right _ (List.mem_append_left _ (List.mem_of_getElem? (i := 11) rfl))) rfl
theorem ksl_X3_pinnedFrame : Cond.selects RX3 yX3_pinnedFrame yX3_pinnedFrame ∈ kT := kT_s (q := (yX3_pinnedFrame, 6)) (List.mem_append_right _ (List.mem_append_left _ (List.mem_of_getElem? (i := 12) rfl))) rfl
theorem ksl_X3_checkGoesOn : Cond.selects RX3 yX3_checkGoesOn yX3_checkGoesOn ∈ kT := kT_s (q := (yX3_checkGoesOn, 6)) (List.mem_append_right _ (List.mem_append_left _ (List.mem_of_getElem? (i := 13) rfl))) rfl
theorem ksl_X3_checkActive : Cond.selects RX3 yX3_checkActive yX3_checkActive ∈ kT := kT_s (q := (yX3_checkActive, 6)) (List.mem_append_right _ (List.mem_append_left _ (List.mem_of_getElem? (i := 14) rfl))) rfl
theorem ksl_X0_change : Cond.selects RX0 yX0_change yX0_change ∈ kT := kT_s (q := (yX0_change, 5)) (List.mem_append_right _ (List.mem_append_left _ (List.mem_of_getElem? (i := 15) rfl))) rfl
theorem ksl_X3_undoInPool : Cond.selects RX3 yX3_undoInPool yX3_undoInPool ∈ kT := kT_s (q := (yX3_undoInPool, 6)) (List.mem_append_right _ (List.mem_append_right _ (List.mem_append_left _ (List.mem_of_getElem? (i := 0) rfl)))) rfl
theorem ksl_X4_refused : Cond.selects RX4 yX4_refused yX4_refused ∈ kT := kT_s (q := (yX4_refused, 27)) (List.mem_append_right _ (List.mem_append_right _ (List.mem_append_left _ (List.mem_of_getElem? (i := 1) rfl)))) rfl
theorem ksl_X4_bring : Cond.selects RX4 yX4_bring yX4_bring ∈ kT := kT_s (q := (yX4_bring, 27)) (List.mem_append_right _ (List.mem_append_right _ (List.mem_append_left _ (List.mem_of_getElem? (i := 2) rfl)))) rfl
theorem ksl_X4_frameOf : Cond.selects RX4 yX4_frameOf yX4_frameOf ∈ kT := kT_s (q := (yX4_frameOf, 27)) (List.mem_append_right _ (List.mem_append_right _ (List.mem_append_left _ (List.mem_of_getElem? (i := 3) rfl)))) rfl
theorem ksl_X4_room : Cond.selects RX4 yX4_room yX4_room ∈ kT := kT_s (q := (yX4_room, 27)) (List.mem_append_right _ (List.mem_append_right _ (List.mem_append_left _ (List.mem_of_getElem? (i := 4) rfl)))) rfl
theorem ksl_X4_mayGo : Cond.selects RX4 yX4_mayGo yX4_mayGo ∈ kT := kT_s (q := (yX4_mayGo, 27)) (List.mem_append_right _ (List.mem_append_right _ (List.mem_append_left _ (List.mem_of_getElem? (i := 5) rfl)))) rfl
theorem ksl_X4_write : Cond.selects RX4 yX4_write yX4_write ∈ kT := kT_s (q := (yX4_write, 27)) (List.mem_append_right _ (List.mem_append_right _ (List.mem_append_left _ (List.mem_of_getElem? (i := 6) rfl)))) rfl
theorem ksl_X4_isPinned : Cond.selects RX4 yX4_isPinned yX4_isPinned ∈ kT := kT_s (q := (yX4_isPinned, 27)) (List.mem_append_right _ (List.mem_append_right _ (List.mem_append_left _ (List.mem_of_getElem? (i := 7) rfl)))) rfl
theorem ksl_X4_needed : Cond.selects RX4 yX4_needed yX4_needed ∈ kT := kT_s (q := (yX4_needed, 27)) (List.mem_append_right _ (List.mem_append_right _ (List.mem_append_left _ (List.mem_of_getElem? (i := 8) rfl)))) rfl
theorem ksl_X4_undosOf : Cond.selects RX4 yX4_undosOf yX4_undosOf ∈ kT := kT_s (q := (yX4_undosOf, 27)) (List.mem_append_right _ (List.mem_append_right _ (List.mem_append_left _ (List.mem_of_getElem? (i := 9) rfl)))) rfl
theorem ksl_X4_record : Cond.selects RX4 yX4_record yX4_record ∈ kT := kT_s (q := (yX4_record, 27)) (List.mem_append_right _ (List.mem_append_right _ (List.mem_append_left _ (List.mem_of_getElem? (i := 10) rfl)))) rfl
theorem ksl_X4_lastOf : Cond.selects RX4 yX4_lastOf yX4_lastOf ∈ kT := kT_s (q := (yX4_lastOf, 27)) (List.mem_append_right _ (List.mem_append_right _ (List.mem_append_left _ (List.mem_of_getElem? (i := 11) rfl)))) rfl
theorem ksl_X4_tellUndo : Cond.selects RX4 yX4_tellUndo yX4_tellUndo ∈ kT := kT_s (q := (yX4_tellUndo, 27)) (List.mem_append_right _ (List.mem_append_right _ (List.mem_append_left _ (List.mem_of_getElem? (i := 12) rfl)))) rfl
theorem ksl_X4_loseRecords : Cond.selects RX4 yX4_loseRecords yX4_loseRecords ∈ kT := kT_s (q := (yX4_loseRecords, 27)) (List.mem_append_right _ (List.mem_append_right _ (List.mem_append_left _ (List.mem_of_getElem? (i := 13) rfl)))) rfl
theorem ksl_X4_redo : Cond.selects RX4 yX4_redo yX4_redo ∈ kT := kT_s (q := (yX4_redo, 27)) (List.mem_append_right _ (List.mem_append_right _ (List.mem_append_left _ (List.mem_of_getElem? (i := 14) rfl)))) rfl
theorem ksl_X4_isOpen : Cond.selects RX4 yX4_isOpen yX4_isOpen ∈ kT := kT_s (q := (yX4_isOpen, 27)) (List.mem_append_right _ (List.mem_append_right _ (List.mem_append_left _ (List.mem_of_getElem? (i := 15) rfl)))) rfl
theorem ksl_X4_isLatest : Cond.selects RX4 yX4_isLatest yX4_isLatest ∈ kT := kT_s (q := (yX4_isLatest, 27)) (List.mem_append_right _ (List.mem_append_right _ (List.mem_append_right _ ((List.mem_of_getElem? (i := 0) rfl))))) rfl
theorem kfs_X0 : ∀ w ∈ wsX00, w ∈ kT := by decide +kernel
theorem kfs_X1 : ∀ w ∈ wsX10, w ∈ kT := by decide +kernel
theorem kfs_X2 : ∀ w ∈ wsX20, w ∈ kT := by decide +kernel
theorem kfs_X3 : ∀ w ∈ wsX30, w ∈ kT := by decide +kernel
theorem kfs_X4 : ∀ w ∈ wsX40, w ∈ kT := by decide +kernel
