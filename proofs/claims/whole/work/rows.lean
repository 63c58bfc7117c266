section
-- ===== PART A: goes FIRST, ahead of the names: the tables' words, and 'selects' of the private methods out of them =====
/-- a private method of a class that the tables say can be made, by its rows of tables_1 -/
def lw_okq (q : MethodName × Nat) : Prop := (q.1.cls ≠ "java/lang/invoke/MethodHandle" ∧ q.1.cls ≠ "java/lang/invoke/VarHandle") ∧ Cond.instantiable q.1.cls q.2 ∈ tables_1 ∧ Cond.privateMethod q.1 ∈ tables_1 ∧ Cond.instanceMethod q.1 ∈ tables_1
theorem lw_p0 : lw_okq (⟨"CallRows", "programOf", "(I)LCallRows$Program;"⟩, 12) := ⟨⟨by decide +kernel, by decide +kernel⟩, List.mem_of_getElem? (i := 11) (by decide +kernel), List.mem_of_getElem? (i := 114) (by decide +kernel), List.mem_of_getElem? (i := 115) (by decide +kernel)⟩
theorem lw_p1 : lw_okq (⟨"CallRows", "directlyWithin", "(LCallRows$Program;I)LCallRows$Program;"⟩, 12) := ⟨⟨by decide +kernel, by decide +kernel⟩, List.mem_of_getElem? (i := 11) (by decide +kernel), List.mem_of_getElem? (i := 121) (by decide +kernel), List.mem_of_getElem? (i := 122) (by decide +kernel)⟩
theorem lw_p2 : lw_okq (⟨"CallRows", "newCell", "(LCallRows$Program;J)I"⟩, 12) := ⟨⟨by decide +kernel, by decide +kernel⟩, List.mem_of_getElem? (i := 11) (by decide +kernel), List.mem_of_getElem? (i := 167) (by decide +kernel), List.mem_of_getElem? (i := 168) (by decide +kernel)⟩
theorem lw_p3 : lw_okq (⟨"CallRows", "placeOf", "(I)I"⟩, 12) := ⟨⟨by decide +kernel, by decide +kernel⟩, List.mem_of_getElem? (i := 11) (by decide +kernel), List.mem_of_getElem? (i := 171) (by decide +kernel), List.mem_of_getElem? (i := 172) (by decide +kernel)⟩
theorem lw_p4 : lw_okq (⟨"CallRows", "found", "(LCallRows$Program;I)LCallRows$Program;"⟩, 12) := ⟨⟨by decide +kernel, by decide +kernel⟩, List.mem_of_getElem? (i := 11) (by decide +kernel), List.mem_of_getElem? (i := 186) (by decide +kernel), List.mem_of_getElem? (i := 187) (by decide +kernel)⟩
theorem lw_p5 : lw_okq (⟨"CallRows", "commonAround", "(LCallRows$Program;I)LCallRows$Program;"⟩, 12) := ⟨⟨by decide +kernel, by decide +kernel⟩, List.mem_of_getElem? (i := 11) (by decide +kernel), List.mem_of_getElem? (i := 197) (by decide +kernel), List.mem_of_getElem? (i := 198) (by decide +kernel)⟩
theorem lw_p6 : lw_okq (⟨"CallRows", "holderOf", "(I)LCallRows$Level;"⟩, 12) := ⟨⟨by decide +kernel, by decide +kernel⟩, List.mem_of_getElem? (i := 11) (by decide +kernel), List.mem_of_getElem? (i := 216) (by decide +kernel), List.mem_of_getElem? (i := 217) (by decide +kernel)⟩
theorem lw_p7 : lw_okq (⟨"CallRows", "dataOf", "(LCallRows$Program;)LCallRows$Level;"⟩, 12) := ⟨⟨by decide +kernel, by decide +kernel⟩, List.mem_of_getElem? (i := 11) (by decide +kernel), List.mem_of_getElem? (i := 223) (by decide +kernel), List.mem_of_getElem? (i := 224) (by decide +kernel)⟩
theorem lw_p8 : lw_okq (⟨"CallRows", "bytesOf", "(I)I"⟩, 12) := ⟨⟨by decide +kernel, by decide +kernel⟩, List.mem_of_getElem? (i := 11) (by decide +kernel), List.mem_of_getElem? (i := 227) (by decide +kernel), List.mem_of_getElem? (i := 228) (by decide +kernel)⟩
theorem lw_p9 : lw_okq (⟨"CallRows", "giveFirstValues", "(LCallRows$Program;)V"⟩, 12) := ⟨⟨by decide +kernel, by decide +kernel⟩, List.mem_of_getElem? (i := 11) (by decide +kernel), List.mem_of_getElem? (i := 257) (by decide +kernel), List.mem_of_getElem? (i := 258) (by decide +kernel)⟩
theorem lw_p10 : lw_okq (⟨"CallRows", "unusedBits", "(I)I"⟩, 12) := ⟨⟨by decide +kernel, by decide +kernel⟩, List.mem_of_getElem? (i := 11) (by decide +kernel), List.mem_of_getElem? (i := 266) (by decide +kernel), List.mem_of_getElem? (i := 267) (by decide +kernel)⟩
theorem lw_p11 : lw_okq (⟨"CallRows", "anyActiveOf", "(LCallRows$Program;)Z"⟩, 12) := ⟨⟨by decide +kernel, by decide +kernel⟩, List.mem_of_getElem? (i := 11) (by decide +kernel), List.mem_of_getElem? (i := 278) (by decide +kernel), List.mem_of_getElem? (i := 279) (by decide +kernel)⟩
theorem lw_p12 : lw_okq (⟨"CallRows", "makeFresh", "(LCallRows$Program;)I"⟩, 12) := ⟨⟨by decide +kernel, by decide +kernel⟩, List.mem_of_getElem? (i := 11) (by decide +kernel), List.mem_of_getElem? (i := 282) (by decide +kernel), List.mem_of_getElem? (i := 283) (by decide +kernel)⟩
theorem lw_p13 : lw_okq (⟨"java/lang/Throwable", "fillInStackTrace", "(I)Ljava/lang/Throwable;"⟩, 6) := ⟨⟨by decide +kernel, by decide +kernel⟩, List.mem_of_getElem? (i := 349) (by decide +kernel), List.mem_of_getElem? (i := 347) (by decide +kernel), List.mem_of_getElem? (i := 348) (by decide +kernel)⟩
theorem lw_p14 : lw_okq (⟨"CallRowsModel", "directly", "(II)I"⟩, 29) := ⟨⟨by decide +kernel, by decide +kernel⟩, List.mem_of_getElem? (i := 379) (by decide +kernel), List.mem_of_getElem? (i := 487) (by decide +kernel), List.mem_of_getElem? (i := 488) (by decide +kernel)⟩
theorem lw_p15 : lw_okq (⟨"CallRowsModel", "isProgram", "(I)Z"⟩, 29) := ⟨⟨by decide +kernel, by decide +kernel⟩, List.mem_of_getElem? (i := 379) (by decide +kernel), List.mem_of_getElem? (i := 495) (by decide +kernel), List.mem_of_getElem? (i := 496) (by decide +kernel)⟩
def lw_privs_1 : List (MethodName × Nat) := [(⟨"CallRows", "programOf", "(I)LCallRows$Program;"⟩, 12), (⟨"CallRows", "directlyWithin", "(LCallRows$Program;I)LCallRows$Program;"⟩, 12), (⟨"CallRows", "newCell", "(LCallRows$Program;J)I"⟩, 12), (⟨"CallRows", "placeOf", "(I)I"⟩, 12), (⟨"CallRows", "found", "(LCallRows$Program;I)LCallRows$Program;"⟩, 12), (⟨"CallRows", "commonAround", "(LCallRows$Program;I)LCallRows$Program;"⟩, 12), (⟨"CallRows", "holderOf", "(I)LCallRows$Level;"⟩, 12), (⟨"CallRows", "dataOf", "(LCallRows$Program;)LCallRows$Level;"⟩, 12), (⟨"CallRows", "bytesOf", "(I)I"⟩, 12), (⟨"CallRows", "giveFirstValues", "(LCallRows$Program;)V"⟩, 12), (⟨"CallRows", "unusedBits", "(I)I"⟩, 12), (⟨"CallRows", "anyActiveOf", "(LCallRows$Program;)Z"⟩, 12), (⟨"CallRows", "makeFresh", "(LCallRows$Program;)I"⟩, 12), (⟨"java/lang/Throwable", "fillInStackTrace", "(I)Ljava/lang/Throwable;"⟩, 6), (⟨"CallRowsModel", "directly", "(II)I"⟩, 29), (⟨"CallRowsModel", "isProgram", "(I)Z"⟩, 29)]
theorem lw_r1 : ∀ q ∈ lw_privs_1, lw_okq q := List.forall_mem_cons.mpr ⟨lw_p0, List.forall_mem_cons.mpr ⟨lw_p1, List.forall_mem_cons.mpr ⟨lw_p2, List.forall_mem_cons.mpr ⟨lw_p3, List.forall_mem_cons.mpr ⟨lw_p4, List.forall_mem_cons.mpr ⟨lw_p5, List.forall_mem_cons.mpr ⟨lw_p6, List.forall_mem_cons.mpr ⟨lw_p7, List.forall_mem_cons.mpr ⟨lw_p8, List.forall_mem_cons.mpr ⟨lw_p9, List.forall_mem_cons.mpr ⟨lw_p10, List.forall_mem_cons.mpr ⟨lw_p11, List.forall_mem_cons.mpr ⟨lw_p12, List.forall_mem_cons.mpr ⟨lw_p13, List.forall_mem_cons.mpr ⟨lw_p14, List.forall_mem_cons.mpr ⟨lw_p15, fun _ h => absurd h List.not_mem_nil⟩⟩⟩⟩⟩⟩⟩⟩⟩⟩⟩⟩⟩⟩⟩⟩
theorem lw_p16 : lw_okq (⟨"CallRowsModel", "place", "(I)I"⟩, 29) := ⟨⟨by decide +kernel, by decide +kernel⟩, List.mem_of_getElem? (i := 379) (by decide +kernel), List.mem_of_getElem? (i := 511) (by decide +kernel), List.mem_of_getElem? (i := 512) (by decide +kernel)⟩
theorem lw_p17 : lw_okq (⟨"CallRowsModel", "running", "()I"⟩, 29) := ⟨⟨by decide +kernel, by decide +kernel⟩, List.mem_of_getElem? (i := 379) (by decide +kernel), List.mem_of_getElem? (i := 515) (by decide +kernel), List.mem_of_getElem? (i := 516) (by decide +kernel)⟩
theorem lw_p18 : lw_okq (⟨"CallRowsModel", "is", "(II)Z"⟩, 29) := ⟨⟨by decide +kernel, by decide +kernel⟩, List.mem_of_getElem? (i := 379) (by decide +kernel), List.mem_of_getElem? (i := 520) (by decide +kernel), List.mem_of_getElem? (i := 521) (by decide +kernel)⟩
theorem lw_p19 : lw_okq (⟨"CallRowsModel", "liesIn", "(II)Z"⟩, 29) := ⟨⟨by decide +kernel, by decide +kernel⟩, List.mem_of_getElem? (i := 379) (by decide +kernel), List.mem_of_getElem? (i := 524) (by decide +kernel), List.mem_of_getElem? (i := 525) (by decide +kernel)⟩
theorem lw_p20 : lw_okq (⟨"CallRowsModel", "bytesOf", "(I)I"⟩, 29) := ⟨⟨by decide +kernel, by decide +kernel⟩, List.mem_of_getElem? (i := 379) (by decide +kernel), List.mem_of_getElem? (i := 528) (by decide +kernel), List.mem_of_getElem? (i := 529) (by decide +kernel)⟩
theorem lw_p21 : lw_okq (⟨"CallRowsModel", "store", "(IIJ)V"⟩, 29) := ⟨⟨by decide +kernel, by decide +kernel⟩, List.mem_of_getElem? (i := 379) (by decide +kernel), List.mem_of_getElem? (i := 532) (by decide +kernel), List.mem_of_getElem? (i := 533) (by decide +kernel)⟩
theorem lw_p22 : lw_okq (⟨"CallRowsModel", "unprepare", "()V"⟩, 29) := ⟨⟨by decide +kernel, by decide +kernel⟩, List.mem_of_getElem? (i := 379) (by decide +kernel), List.mem_of_getElem? (i := 547) (by decide +kernel), List.mem_of_getElem? (i := 548) (by decide +kernel)⟩
theorem lw_p23 : lw_okq (⟨"CallRowsModel", "isFrom", "(II)Z"⟩, 29) := ⟨⟨by decide +kernel, by decide +kernel⟩, List.mem_of_getElem? (i := 379) (by decide +kernel), List.mem_of_getElem? (i := 551) (by decide +kernel), List.mem_of_getElem? (i := 552) (by decide +kernel)⟩
theorem lw_p24 : lw_okq (⟨"CallRowsModel", "find", "(II)I"⟩, 29) := ⟨⟨by decide +kernel, by decide +kernel⟩, List.mem_of_getElem? (i := 379) (by decide +kernel), List.mem_of_getElem? (i := 555) (by decide +kernel), List.mem_of_getElem? (i := 556) (by decide +kernel)⟩
theorem lw_p25 : lw_okq (⟨"CallRowsModel", "copy", "(J)I"⟩, 29) := ⟨⟨by decide +kernel, by decide +kernel⟩, List.mem_of_getElem? (i := 379) (by decide +kernel), List.mem_of_getElem? (i := 563) (by decide +kernel), List.mem_of_getElem? (i := 564) (by decide +kernel)⟩
theorem lw_p26 : lw_okq (⟨"CallRowsModel", "refusal", "()I"⟩, 29) := ⟨⟨by decide +kernel, by decide +kernel⟩, List.mem_of_getElem? (i := 379) (by decide +kernel), List.mem_of_getElem? (i := 571) (by decide +kernel), List.mem_of_getElem? (i := 572) (by decide +kernel)⟩
def lw_privs_2 : List (MethodName × Nat) := [(⟨"CallRowsModel", "place", "(I)I"⟩, 29), (⟨"CallRowsModel", "running", "()I"⟩, 29), (⟨"CallRowsModel", "is", "(II)Z"⟩, 29), (⟨"CallRowsModel", "liesIn", "(II)Z"⟩, 29), (⟨"CallRowsModel", "bytesOf", "(I)I"⟩, 29), (⟨"CallRowsModel", "store", "(IIJ)V"⟩, 29), (⟨"CallRowsModel", "unprepare", "()V"⟩, 29), (⟨"CallRowsModel", "isFrom", "(II)Z"⟩, 29), (⟨"CallRowsModel", "find", "(II)I"⟩, 29), (⟨"CallRowsModel", "copy", "(J)I"⟩, 29), (⟨"CallRowsModel", "refusal", "()I"⟩, 29)]
theorem lw_r2 : ∀ q ∈ lw_privs_2, lw_okq q := List.forall_mem_cons.mpr ⟨lw_p16, List.forall_mem_cons.mpr ⟨lw_p17, List.forall_mem_cons.mpr ⟨lw_p18, List.forall_mem_cons.mpr ⟨lw_p19, List.forall_mem_cons.mpr ⟨lw_p20, List.forall_mem_cons.mpr ⟨lw_p21, List.forall_mem_cons.mpr ⟨lw_p22, List.forall_mem_cons.mpr ⟨lw_p23, List.forall_mem_cons.mpr ⟨lw_p24, List.forall_mem_cons.mpr ⟨lw_p25, List.forall_mem_cons.mpr ⟨lw_p26, fun _ h => absurd h List.not_mem_nil⟩⟩⟩⟩⟩⟩⟩⟩⟩⟩⟩
def lw_privs : List (MethodName × Nat) := lw_privs_1 ++ (lw_privs_2)
def lw_tbl : List Cond := k2_sels lw_privs ++ tables_1
theorem lw_privs_ok : ∀ q ∈ lw_privs, lw_okq q := by
  show ∀ q ∈ lw_privs_1 ++ (lw_privs_2), lw_okq q
  exact List.forall_mem_append.mpr ⟨lw_r1, lw_r2⟩
/-- the words that every method of mine takes: all good ones of the tables -/
def gU : List Cond := lw_tbl.filter goodWord
theorem gU_of {w : Cond} (i : Nat) (h : tables_1[i]? = some w) (hg : goodWord w = true) : w ∈ gU := List.mem_filter.mpr ⟨List.mem_append_right _ (List.mem_of_getElem? h), hg⟩
theorem gU_sel {q : MethodName × Nat} (i : Nat) (h : lw_privs[i]? = some q) (hg : goodWord (Cond.selects q.1.cls q.1 q.1) = true) : Cond.selects q.1.cls q.1 q.1 ∈ gU := List.mem_filter.mpr ⟨List.mem_append_left _ (List.mem_map.mpr ⟨q, List.mem_of_getElem? h, rfl⟩), hg⟩
theorem gU_good {cx cy : Cond} (h : cy ∈ gU) : GoodIn (cx :: gU) (cy :: gU) := by
  intro w hw
  have hw : w ∈ gU := by
    rcases List.mem_cons.mp hw with rfl | hw
    · exact h
    · exact hw
  exact ⟨List.mem_cons_of_mem _ hw, good_of_word (List.mem_filter.mp hw).2⟩
theorem gU_tbl : ∀ w ∈ gU, w ∈ lw_tbl := fun _ h => (List.mem_filter.mp h).1
theorem gU_goodT {cy : Cond} (h : cy ∈ gU) : GoodIn gU (cy :: gU) := by
  intro w hw
  have hw : w ∈ gU := by
    rcases List.mem_cons.mp hw with rfl | hw
    · exact h
    · exact hw
  exact ⟨hw, good_of_word (List.mem_filter.mp hw).2⟩
end
section
theorem uw_0 : (Jvm.Cond.initialized "CallRowsLaw") ∈ gU := gU_of 0 (by decide +kernel) rfl
theorem uw_1 : (Jvm.Cond.initialized "CallRows") ∈ gU := gU_of 1 (by decide +kernel) rfl
theorem uw_2 : (Jvm.Cond.initialized "CallRows$Level") ∈ gU := gU_of 2 (by decide +kernel) rfl
theorem uw_3 : (Jvm.Cond.initialized "java/lang/Math") ∈ gU := gU_of 3 (by decide +kernel) rfl
theorem uw_4 : (Jvm.Cond.initialized "CallRowsModel") ∈ gU := gU_of 4 (by decide +kernel) rfl
theorem uw_5 : (Jvm.Cond.initialized "CallRows$Program") ∈ gU := gU_of 5 (by decide +kernel) rfl
theorem uw_10 : (Jvm.Cond.classLink "CallRowsLaw" (8 : Nat) "CallRows") ∈ gU := gU_of 10 (by decide +kernel) rfl
theorem uw_11 : (Jvm.Cond.instantiable "CallRows" (12 : Nat)) ∈ gU := gU_of 11 (by decide +kernel) rfl
theorem uw_12 : (Jvm.Cond.methodLink "CallRowsLaw" (21 : Nat) ({ cls := "CallRows", name := "<init>", desc := "(I)V" } : Jvm.MethodName)) ∈ gU := gU_of 12 (by decide +kernel) rfl
theorem uw_13 : (Jvm.Cond.instanceMethod ({ cls := "CallRows", name := "<init>", desc := "(I)V" } : Jvm.MethodName)) ∈ gU := gU_of 13 (by decide +kernel) rfl
theorem uw_14 : (Jvm.Cond.code ({ cls := "CallRows", name := "<init>", desc := "(I)V" } : Jvm.MethodName) prog_1_method_1_code (3 : Nat) (Option.none : Option Jvm.ClassFile.FieldType)) ∈ gU := gU_of 14 (by decide +kernel) rfl
theorem uw_15 : (Jvm.Cond.methodLink "CallRows" (1 : Nat) ({ cls := "java/lang/Object", name := "<init>", desc := "()V" } : Jvm.MethodName)) ∈ gU := gU_of 15 (by decide +kernel) rfl
theorem uw_16 : (Jvm.Cond.instanceMethod ({ cls := "java/lang/Object", name := "<init>", desc := "()V" } : Jvm.MethodName)) ∈ gU := gU_of 16 (by decide +kernel) rfl
theorem uw_17 : (Jvm.Cond.code ({ cls := "java/lang/Object", name := "<init>", desc := "()V" } : Jvm.MethodName) object_method_1_code (1 : Nat) (Option.none : Option Jvm.ClassFile.FieldType)) ∈ gU := gU_of 17 (by decide +kernel) rfl
theorem uw_18 : (Jvm.Cond.classLink "CallRows" (9 : Nat) "CallRows$Program") ∈ gU := gU_of 18 (by decide +kernel) rfl
theorem uw_20 : (Jvm.Cond.classLink "CallRows" (26 : Nat) "CallRows$Level") ∈ gU := gU_of 20 (by decide +kernel) rfl
theorem uw_21 : (Jvm.Cond.instantiable "CallRows$Level" (9 : Nat)) ∈ gU := gU_of 21 (by decide +kernel) rfl
theorem uw_22 : (Jvm.Cond.methodLink "CallRows" (28 : Nat) ({ cls := "CallRows$Level", name := "<init>", desc := "(LCallRows$Level;)V" } : Jvm.MethodName)) ∈ gU := gU_of 22 (by decide +kernel) rfl
theorem uw_23 : (Jvm.Cond.instanceMethod ({ cls := "CallRows$Level", name := "<init>", desc := "(LCallRows$Level;)V" } : Jvm.MethodName)) ∈ gU := gU_of 23 (by decide +kernel) rfl
theorem uw_24 : (Jvm.Cond.code ({ cls := "CallRows$Level", name := "<init>", desc := "(LCallRows$Level;)V" } : Jvm.MethodName) prog_2_method_1_code (2 : Nat) (Option.none : Option Jvm.ClassFile.FieldType)) ∈ gU := gU_of 24 (by decide +kernel) rfl
theorem uw_25 : (Jvm.Cond.methodLink "CallRows$Level" (3 : Nat) ({ cls := "java/lang/Object", name := "<init>", desc := "()V" } : Jvm.MethodName)) ∈ gU := gU_of 25 (by decide +kernel) rfl
theorem uw_26 : (Jvm.Cond.classLink "CallRows$Level" (9 : Nat) "CallRows$Level") ∈ gU := gU_of 26 (by decide +kernel) rfl
theorem uw_28 : (Jvm.Cond.fieldLink "CallRows$Level" (26 : Nat) "CallRows$Level" "below" "LCallRows$Level;") ∈ gU := gU_of 28 (by decide +kernel) rfl
theorem uw_29 : (Jvm.Cond.fieldLink "CallRows" (168 : Nat) "CallRows$Level" "below" "LCallRows$Level;") ∈ gU := gU_of 29 (by decide +kernel) rfl
theorem uw_30 : (Jvm.Cond.fieldLink "CallRows" (211 : Nat) "CallRows$Level" "above" "LCallRows$Level;") ∈ gU := gU_of 30 (by decide +kernel) rfl
theorem uw_31 : (Jvm.Cond.fieldLink "CallRows$Level" (30 : Nat) "CallRows$Level" "program" "LCallRows$Program;") ∈ gU := gU_of 31 (by decide +kernel) rfl
theorem uw_32 : (Jvm.Cond.fieldLink "CallRows" (89 : Nat) "CallRows$Level" "program" "LCallRows$Program;") ∈ gU := gU_of 32 (by decide +kernel) rfl
theorem uw_33 : (Jvm.Cond.fieldLink "CallRows" (150 : Nat) "CallRows$Level" "earlier" "LCallRows$Level;") ∈ gU := gU_of 33 (by decide +kernel) rfl
theorem uw_34 : (Jvm.Cond.fieldLink "CallRows$Level" (34 : Nat) "CallRows$Level" "arguments" "I") ∈ gU := gU_of 34 (by decide +kernel) rfl
theorem uw_35 : (Jvm.Cond.fieldLink "CallRows" (121 : Nat) "CallRows$Level" "arguments" "I") ∈ gU := gU_of 35 (by decide +kernel) rfl
theorem uw_36 : (Jvm.Cond.fieldLink "CallRows$Level" (11 : Nat) "CallRows$Level" "holders" "[LCallRows$Level;") ∈ gU := gU_of 36 (by decide +kernel) rfl
theorem uw_37 : (Jvm.Cond.fieldLink "CallRows" (214 : Nat) "CallRows$Level" "holders" "[LCallRows$Level;") ∈ gU := gU_of 37 (by decide +kernel) rfl
theorem uw_38 : (Jvm.Cond.fieldLink "CallRows$Level" (15 : Nat) "CallRows$Level" "places" "[I") ∈ gU := gU_of 38 (by decide +kernel) rfl
theorem uw_39 : (Jvm.Cond.fieldLink "CallRows" (226 : Nat) "CallRows$Level" "places" "[I") ∈ gU := gU_of 39 (by decide +kernel) rfl
theorem uw_40 : (Jvm.Cond.fieldLink "CallRows$Level" (19 : Nat) "CallRows$Level" "bytes" "[I") ∈ gU := gU_of 40 (by decide +kernel) rfl
theorem uw_41 : (Jvm.Cond.fieldLink "CallRows" (229 : Nat) "CallRows$Level" "bytes" "[I") ∈ gU := gU_of 41 (by decide +kernel) rfl
theorem uw_42 : (Jvm.Cond.fieldLink "CallRows$Level" (22 : Nat) "CallRows$Level" "values" "[J") ∈ gU := gU_of 42 (by decide +kernel) rfl
theorem uw_43 : (Jvm.Cond.fieldLink "CallRows" (165 : Nat) "CallRows$Level" "values" "[J") ∈ gU := gU_of 43 (by decide +kernel) rfl
theorem uw_44 : (Jvm.Cond.laysFinal "CallRows$Level" "CallRows$Level" "below" "LCallRows$Level;") ∈ gU := gU_of 44 (by decide +kernel) rfl
theorem uw_46 : (Jvm.Cond.lays "CallRows$Level" "CallRows$Level" "above" "LCallRows$Level;") ∈ gU := gU_of 46 (by decide +kernel) rfl
theorem uw_48 : (Jvm.Cond.lays "CallRows$Level" "CallRows$Level" "program" "LCallRows$Program;") ∈ gU := gU_of 48 (by decide +kernel) rfl
theorem uw_50 : (Jvm.Cond.lays "CallRows$Level" "CallRows$Level" "earlier" "LCallRows$Level;") ∈ gU := gU_of 50 (by decide +kernel) rfl
theorem uw_52 : (Jvm.Cond.lays "CallRows$Level" "CallRows$Level" "arguments" "I") ∈ gU := gU_of 52 (by decide +kernel) rfl
theorem uw_54 : (Jvm.Cond.laysFinal "CallRows$Level" "CallRows$Level" "holders" "[LCallRows$Level;") ∈ gU := gU_of 54 (by decide +kernel) rfl
theorem uw_56 : (Jvm.Cond.laysFinal "CallRows$Level" "CallRows$Level" "places" "[I") ∈ gU := gU_of 56 (by decide +kernel) rfl
theorem uw_58 : (Jvm.Cond.laysFinal "CallRows$Level" "CallRows$Level" "bytes" "[I") ∈ gU := gU_of 58 (by decide +kernel) rfl
theorem uw_60 : (Jvm.Cond.laysFinal "CallRows$Level" "CallRows$Level" "values" "[J") ∈ gU := gU_of 60 (by decide +kernel) rfl
theorem uw_63 : (Jvm.Cond.arrayClass Jvm.ClassFile.FieldType.long) ∈ gU := gU_of 63 (by decide +kernel) rfl
theorem uw_64 : (Jvm.Cond.arrayClass Jvm.ClassFile.FieldType.int) ∈ gU := gU_of 64 (by decide +kernel) rfl
theorem uw_65 : (Jvm.Cond.constant "CallRows" (38 : Nat) (65536 : Int32)) ∈ gU := gU_of 65 (by decide +kernel) rfl
theorem uw_66 : (Jvm.Cond.methodLink "CallRows" (39 : Nat) ({ cls := "java/lang/Math", name := "min", desc := "(II)I" } : Jvm.MethodName)) ∈ gU := gU_of 66 (by decide +kernel) rfl
theorem uw_67 : (Jvm.Cond.static ({ cls := "java/lang/Math", name := "min", desc := "(II)I" } : Jvm.MethodName)) ∈ gU := gU_of 67 (by decide +kernel) rfl
theorem uw_68 : (Jvm.Cond.code ({ cls := "java/lang/Math", name := "min", desc := "(II)I" } : Jvm.MethodName) prog_8_method_69_code (2 : Nat) (Option.some Jvm.ClassFile.FieldType.int)) ∈ gU := gU_of 68 (by decide +kernel) rfl
theorem uw_69 : (Jvm.Cond.methodLink "CallRows" (45 : Nat) ({ cls := "java/lang/Math", name := "max", desc := "(II)I" } : Jvm.MethodName)) ∈ gU := gU_of 69 (by decide +kernel) rfl
theorem uw_70 : (Jvm.Cond.static ({ cls := "java/lang/Math", name := "max", desc := "(II)I" } : Jvm.MethodName)) ∈ gU := gU_of 70 (by decide +kernel) rfl
theorem uw_71 : (Jvm.Cond.code ({ cls := "java/lang/Math", name := "max", desc := "(II)I" } : Jvm.MethodName) prog_8_method_65_code (2 : Nat) (Option.some Jvm.ClassFile.FieldType.int)) ∈ gU := gU_of 71 (by decide +kernel) rfl
theorem uw_72 : (Jvm.Cond.fieldLink "CallRows" (48 : Nat) "CallRows" "depth" "I") ∈ gU := gU_of 72 (by decide +kernel) rfl
theorem uw_73 : (Jvm.Cond.fieldLink "CallRows" (11 : Nat) "CallRows" "programs" "[LCallRows$Program;") ∈ gU := gU_of 73 (by decide +kernel) rfl
theorem uw_74 : (Jvm.Cond.fieldLink "CallRows" (67 : Nat) "CallRows" "programCount" "I") ∈ gU := gU_of 74 (by decide +kernel) rfl
theorem uw_75 : (Jvm.Cond.fieldLink "CallRows" (15 : Nat) "CallRows" "owners" "[LCallRows$Program;") ∈ gU := gU_of 75 (by decide +kernel) rfl
theorem uw_76 : (Jvm.Cond.fieldLink "CallRows" (18 : Nat) "CallRows" "firstValues" "[J") ∈ gU := gU_of 76 (by decide +kernel) rfl
theorem uw_77 : (Jvm.Cond.fieldLink "CallRows" (193 : Nat) "CallRows" "cellCount" "I") ∈ gU := gU_of 77 (by decide +kernel) rfl
theorem uw_78 : (Jvm.Cond.fieldLink "CallRows" (22 : Nat) "CallRows" "externals" "[I") ∈ gU := gU_of 78 (by decide +kernel) rfl
theorem uw_79 : (Jvm.Cond.fieldLink "CallRows" (31 : Nat) "CallRows" "bottom" "LCallRows$Level;") ∈ gU := gU_of 79 (by decide +kernel) rfl
theorem uw_80 : (Jvm.Cond.fieldLink "CallRows" (35 : Nat) "CallRows" "top" "LCallRows$Level;") ∈ gU := gU_of 80 (by decide +kernel) rfl
theorem uw_81 : (Jvm.Cond.fieldLink "CallRows" (60 : Nat) "CallRows" "active" "I") ∈ gU := gU_of 81 (by decide +kernel) rfl
theorem uw_82 : (Jvm.Cond.fieldLink "CallRows" (86 : Nat) "CallRows" "prepared" "LCallRows$Level;") ∈ gU := gU_of 82 (by decide +kernel) rfl
theorem uw_83 : (Jvm.Cond.fieldLink "CallRows" (175 : Nat) "CallRows" "latestReturn" "J") ∈ gU := gU_of 83 (by decide +kernel) rfl
theorem uw_84 : (Jvm.Cond.laysFinal "CallRows" "CallRows" "depth" "I") ∈ gU := gU_of 84 (by decide +kernel) rfl
theorem uw_86 : (Jvm.Cond.laysFinal "CallRows" "CallRows" "programs" "[LCallRows$Program;") ∈ gU := gU_of 86 (by decide +kernel) rfl
theorem uw_88 : (Jvm.Cond.lays "CallRows" "CallRows" "programCount" "I") ∈ gU := gU_of 88 (by decide +kernel) rfl
theorem uw_90 : (Jvm.Cond.laysFinal "CallRows" "CallRows" "owners" "[LCallRows$Program;") ∈ gU := gU_of 90 (by decide +kernel) rfl
theorem uw_92 : (Jvm.Cond.laysFinal "CallRows" "CallRows" "firstValues" "[J") ∈ gU := gU_of 92 (by decide +kernel) rfl
theorem uw_94 : (Jvm.Cond.lays "CallRows" "CallRows" "cellCount" "I") ∈ gU := gU_of 94 (by decide +kernel) rfl
theorem uw_96 : (Jvm.Cond.laysFinal "CallRows" "CallRows" "externals" "[I") ∈ gU := gU_of 96 (by decide +kernel) rfl
theorem uw_98 : (Jvm.Cond.laysFinal "CallRows" "CallRows" "bottom" "LCallRows$Level;") ∈ gU := gU_of 98 (by decide +kernel) rfl
theorem uw_100 : (Jvm.Cond.lays "CallRows" "CallRows" "top" "LCallRows$Level;") ∈ gU := gU_of 100 (by decide +kernel) rfl
theorem uw_102 : (Jvm.Cond.lays "CallRows" "CallRows" "active" "I") ∈ gU := gU_of 102 (by decide +kernel) rfl
theorem uw_104 : (Jvm.Cond.lays "CallRows" "CallRows" "prepared" "LCallRows$Level;") ∈ gU := gU_of 104 (by decide +kernel) rfl
theorem uw_106 : (Jvm.Cond.lays "CallRows" "CallRows" "latestReturn" "J") ∈ gU := gU_of 106 (by decide +kernel) rfl
theorem uw_109 : (Jvm.Cond.methodLink "CallRowsLaw" (27 : Nat) ({ cls := "CallRows", name := "program", desc := "(III)I" } : Jvm.MethodName)) ∈ gU := gU_of 109 (by decide +kernel) rfl
theorem uw_110 : (Jvm.Cond.instanceMethod ({ cls := "CallRows", name := "program", desc := "(III)I" } : Jvm.MethodName)) ∈ gU := gU_of 110 (by decide +kernel) rfl
theorem uw_111 : (Jvm.Cond.selects "CallRows" ({ cls := "CallRows", name := "program", desc := "(III)I" } : Jvm.MethodName) ({ cls := "CallRows", name := "program", desc := "(III)I" } : Jvm.MethodName)) ∈ gU := gU_of 111 (by decide +kernel) rfl
theorem uw_112 : (Jvm.Cond.code ({ cls := "CallRows", name := "program", desc := "(III)I" } : Jvm.MethodName) prog_1_method_2_code (6 : Nat) (Option.some Jvm.ClassFile.FieldType.int)) ∈ gU := gU_of 112 (by decide +kernel) rfl
theorem uw_113 : (Jvm.Cond.methodLink "CallRows" (52 : Nat) ({ cls := "CallRows", name := "programOf", desc := "(I)LCallRows$Program;" } : Jvm.MethodName)) ∈ gU := gU_of 113 (by decide +kernel) rfl
theorem uw_115 : (Jvm.Cond.instanceMethod ({ cls := "CallRows", name := "programOf", desc := "(I)LCallRows$Program;" } : Jvm.MethodName)) ∈ gU := gU_of 115 (by decide +kernel) rfl
theorem uw_116 : (Jvm.Cond.code ({ cls := "CallRows", name := "programOf", desc := "(I)LCallRows$Program;" } : Jvm.MethodName) prog_1_method_18_code (2 : Nat) (Option.some (Jvm.ClassFile.FieldType.object "CallRows$Program"))) ∈ gU := gU_of 116 (by decide +kernel) rfl
theorem uw_117 : (Jvm.Cond.methodLink "CallRows" (56 : Nat) ({ cls := "CallRows", name := "isName", desc := "(I)Z" } : Jvm.MethodName)) ∈ gU := gU_of 117 (by decide +kernel) rfl
theorem uw_118 : (Jvm.Cond.static ({ cls := "CallRows", name := "isName", desc := "(I)Z" } : Jvm.MethodName)) ∈ gU := gU_of 118 (by decide +kernel) rfl
theorem uw_119 : (Jvm.Cond.code ({ cls := "CallRows", name := "isName", desc := "(I)Z" } : Jvm.MethodName) prog_1_method_16_code (1 : Nat) (Option.some Jvm.ClassFile.FieldType.boolean)) ∈ gU := gU_of 119 (by decide +kernel) rfl
theorem uw_120 : (Jvm.Cond.methodLink "CallRows" (63 : Nat) ({ cls := "CallRows", name := "directlyWithin", desc := "(LCallRows$Program;I)LCallRows$Program;" } : Jvm.MethodName)) ∈ gU := gU_of 120 (by decide +kernel) rfl
theorem uw_122 : (Jvm.Cond.instanceMethod ({ cls := "CallRows", name := "directlyWithin", desc := "(LCallRows$Program;I)LCallRows$Program;" } : Jvm.MethodName)) ∈ gU := gU_of 122 (by decide +kernel) rfl
theorem uw_123 : (Jvm.Cond.code ({ cls := "CallRows", name := "directlyWithin", desc := "(LCallRows$Program;I)LCallRows$Program;" } : Jvm.MethodName) prog_1_method_21_code (5 : Nat) (Option.some (Jvm.ClassFile.FieldType.object "CallRows$Program"))) ∈ gU := gU_of 123 (by decide +kernel) rfl
theorem uw_124 : (Jvm.Cond.instantiable "CallRows$Program" (9 : Nat)) ∈ gU := gU_of 124 (by decide +kernel) rfl
theorem uw_125 : (Jvm.Cond.methodLink "CallRows" (70 : Nat) ({ cls := "CallRows$Program", name := "<init>", desc := "(LCallRows$Program;III)V" } : Jvm.MethodName)) ∈ gU := gU_of 125 (by decide +kernel) rfl
theorem uw_126 : (Jvm.Cond.instanceMethod ({ cls := "CallRows$Program", name := "<init>", desc := "(LCallRows$Program;III)V" } : Jvm.MethodName)) ∈ gU := gU_of 126 (by decide +kernel) rfl
theorem uw_127 : (Jvm.Cond.code ({ cls := "CallRows$Program", name := "<init>", desc := "(LCallRows$Program;III)V" } : Jvm.MethodName) prog_3_method_1_code (5 : Nat) (Option.none : Option Jvm.ClassFile.FieldType)) ∈ gU := gU_of 127 (by decide +kernel) rfl
theorem uw_128 : (Jvm.Cond.methodLink "CallRows$Program" (3 : Nat) ({ cls := "java/lang/Object", name := "<init>", desc := "()V" } : Jvm.MethodName)) ∈ gU := gU_of 128 (by decide +kernel) rfl
theorem uw_129 : (Jvm.Cond.fieldLink "CallRows$Program" (18 : Nat) "CallRows$Program" "outer" "LCallRows$Program;") ∈ gU := gU_of 129 (by decide +kernel) rfl
theorem uw_130 : (Jvm.Cond.fieldLink "CallRows" (202 : Nat) "CallRows$Program" "outer" "LCallRows$Program;") ∈ gU := gU_of 130 (by decide +kernel) rfl
theorem uw_131 : (Jvm.Cond.fieldLink "CallRows$Program" (22 : Nat) "CallRows$Program" "number" "I") ∈ gU := gU_of 131 (by decide +kernel) rfl
theorem uw_132 : (Jvm.Cond.fieldLink "CallRows" (114 : Nat) "CallRows$Program" "number" "I") ∈ gU := gU_of 132 (by decide +kernel) rfl
theorem uw_133 : (Jvm.Cond.fieldLink "CallRows$Program" (26 : Nat) "CallRows$Program" "name" "I") ∈ gU := gU_of 133 (by decide +kernel) rfl
theorem uw_134 : (Jvm.Cond.fieldLink "CallRows" (205 : Nat) "CallRows$Program" "name" "I") ∈ gU := gU_of 134 (by decide +kernel) rfl
theorem uw_135 : (Jvm.Cond.fieldLink "CallRows$Program" (29 : Nat) "CallRows$Program" "marks" "I") ∈ gU := gU_of 135 (by decide +kernel) rfl
theorem uw_136 : (Jvm.Cond.fieldLink "CallRows$Program" (9 : Nat) "CallRows$Program" "formalHow" "[I") ∈ gU := gU_of 136 (by decide +kernel) rfl
theorem uw_137 : (Jvm.Cond.fieldLink "CallRows" (80 : Nat) "CallRows$Program" "formalHow" "[I") ∈ gU := gU_of 137 (by decide +kernel) rfl
theorem uw_138 : (Jvm.Cond.fieldLink "CallRows$Program" (15 : Nat) "CallRows$Program" "formalBytes" "[I") ∈ gU := gU_of 138 (by decide +kernel) rfl
theorem uw_139 : (Jvm.Cond.fieldLink "CallRows" (83 : Nat) "CallRows$Program" "formalBytes" "[I") ∈ gU := gU_of 139 (by decide +kernel) rfl
theorem uw_140 : (Jvm.Cond.fieldLink "CallRows" (77 : Nat) "CallRows$Program" "formals" "I") ∈ gU := gU_of 140 (by decide +kernel) rfl
theorem uw_141 : (Jvm.Cond.fieldLink "CallRows" (171 : Nat) "CallRows$Program" "hasData" "Z") ∈ gU := gU_of 141 (by decide +kernel) rfl
theorem uw_142 : (Jvm.Cond.fieldLink "CallRows" (100 : Nat) "CallRows$Program" "latest" "LCallRows$Level;") ∈ gU := gU_of 142 (by decide +kernel) rfl
theorem uw_143 : (Jvm.Cond.laysFinal "CallRows$Program" "CallRows$Program" "outer" "LCallRows$Program;") ∈ gU := gU_of 143 (by decide +kernel) rfl
theorem uw_145 : (Jvm.Cond.laysFinal "CallRows$Program" "CallRows$Program" "number" "I") ∈ gU := gU_of 145 (by decide +kernel) rfl
theorem uw_147 : (Jvm.Cond.laysFinal "CallRows$Program" "CallRows$Program" "name" "I") ∈ gU := gU_of 147 (by decide +kernel) rfl
theorem uw_149 : (Jvm.Cond.laysFinal "CallRows$Program" "CallRows$Program" "marks" "I") ∈ gU := gU_of 149 (by decide +kernel) rfl
theorem uw_151 : (Jvm.Cond.laysFinal "CallRows$Program" "CallRows$Program" "formalHow" "[I") ∈ gU := gU_of 151 (by decide +kernel) rfl
theorem uw_153 : (Jvm.Cond.laysFinal "CallRows$Program" "CallRows$Program" "formalBytes" "[I") ∈ gU := gU_of 153 (by decide +kernel) rfl
theorem uw_155 : (Jvm.Cond.lays "CallRows$Program" "CallRows$Program" "formals" "I") ∈ gU := gU_of 155 (by decide +kernel) rfl
theorem uw_157 : (Jvm.Cond.lays "CallRows$Program" "CallRows$Program" "hasData" "Z") ∈ gU := gU_of 157 (by decide +kernel) rfl
theorem uw_159 : (Jvm.Cond.lays "CallRows$Program" "CallRows$Program" "latest" "LCallRows$Level;") ∈ gU := gU_of 159 (by decide +kernel) rfl
theorem uw_162 : (Jvm.Cond.methodLink "CallRowsLaw" (34 : Nat) ({ cls := "CallRows", name := "cell", desc := "(IJ)I" } : Jvm.MethodName)) ∈ gU := gU_of 162 (by decide +kernel) rfl
theorem uw_163 : (Jvm.Cond.instanceMethod ({ cls := "CallRows", name := "cell", desc := "(IJ)I" } : Jvm.MethodName)) ∈ gU := gU_of 163 (by decide +kernel) rfl
theorem uw_164 : (Jvm.Cond.selects "CallRows" ({ cls := "CallRows", name := "cell", desc := "(IJ)I" } : Jvm.MethodName) ({ cls := "CallRows", name := "cell", desc := "(IJ)I" } : Jvm.MethodName)) ∈ gU := gU_of 164 (by decide +kernel) rfl
theorem uw_165 : (Jvm.Cond.code ({ cls := "CallRows", name := "cell", desc := "(IJ)I" } : Jvm.MethodName) prog_1_method_3_code (5 : Nat) (Option.some Jvm.ClassFile.FieldType.int)) ∈ gU := gU_of 165 (by decide +kernel) rfl
theorem uw_166 : (Jvm.Cond.methodLink "CallRows" (73 : Nat) ({ cls := "CallRows", name := "newCell", desc := "(LCallRows$Program;J)I" } : Jvm.MethodName)) ∈ gU := gU_of 166 (by decide +kernel) rfl
theorem uw_168 : (Jvm.Cond.instanceMethod ({ cls := "CallRows", name := "newCell", desc := "(LCallRows$Program;J)I" } : Jvm.MethodName)) ∈ gU := gU_of 168 (by decide +kernel) rfl
theorem uw_169 : (Jvm.Cond.code ({ cls := "CallRows", name := "newCell", desc := "(LCallRows$Program;J)I" } : Jvm.MethodName) prog_1_method_19_code (4 : Nat) (Option.some Jvm.ClassFile.FieldType.int)) ∈ gU := gU_of 169 (by decide +kernel) rfl
theorem uw_170 : (Jvm.Cond.methodLink "CallRows" (124 : Nat) ({ cls := "CallRows", name := "placeOf", desc := "(I)I" } : Jvm.MethodName)) ∈ gU := gU_of 170 (by decide +kernel) rfl
theorem uw_172 : (Jvm.Cond.instanceMethod ({ cls := "CallRows", name := "placeOf", desc := "(I)I" } : Jvm.MethodName)) ∈ gU := gU_of 172 (by decide +kernel) rfl
theorem uw_173 : (Jvm.Cond.code ({ cls := "CallRows", name := "placeOf", desc := "(I)I" } : Jvm.MethodName) prog_1_method_27_code (2 : Nat) (Option.some Jvm.ClassFile.FieldType.int)) ∈ gU := gU_of 173 (by decide +kernel) rfl
theorem uw_174 : (Jvm.Cond.methodLink "CallRowsLaw" (38 : Nat) ({ cls := "CallRows", name := "formal", desc := "(III)I" } : Jvm.MethodName)) ∈ gU := gU_of 174 (by decide +kernel) rfl
theorem uw_175 : (Jvm.Cond.instanceMethod ({ cls := "CallRows", name := "formal", desc := "(III)I" } : Jvm.MethodName)) ∈ gU := gU_of 175 (by decide +kernel) rfl
theorem uw_176 : (Jvm.Cond.selects "CallRows" ({ cls := "CallRows", name := "formal", desc := "(III)I" } : Jvm.MethodName) ({ cls := "CallRows", name := "formal", desc := "(III)I" } : Jvm.MethodName)) ∈ gU := gU_of 176 (by decide +kernel) rfl
theorem uw_177 : (Jvm.Cond.code ({ cls := "CallRows", name := "formal", desc := "(III)I" } : Jvm.MethodName) prog_1_method_4_code (5 : Nat) (Option.some Jvm.ClassFile.FieldType.int)) ∈ gU := gU_of 177 (by decide +kernel) rfl
theorem uw_178 : (Jvm.Cond.methodLink "CallRowsLaw" (42 : Nat) ({ cls := "CallRows", name := "call", desc := "(II)I" } : Jvm.MethodName)) ∈ gU := gU_of 178 (by decide +kernel) rfl
theorem uw_179 : (Jvm.Cond.instanceMethod ({ cls := "CallRows", name := "call", desc := "(II)I" } : Jvm.MethodName)) ∈ gU := gU_of 179 (by decide +kernel) rfl
theorem uw_180 : (Jvm.Cond.selects "CallRows" ({ cls := "CallRows", name := "call", desc := "(II)I" } : Jvm.MethodName) ({ cls := "CallRows", name := "call", desc := "(II)I" } : Jvm.MethodName)) ∈ gU := gU_of 180 (by decide +kernel) rfl
theorem uw_181 : (Jvm.Cond.code ({ cls := "CallRows", name := "call", desc := "(II)I" } : Jvm.MethodName) prog_1_method_5_code (4 : Nat) (Option.some Jvm.ClassFile.FieldType.int)) ∈ gU := gU_of 181 (by decide +kernel) rfl
theorem uw_182 : (Jvm.Cond.methodLink "CallRows" (93 : Nat) ({ cls := "CallRows", name := "numberOf", desc := "(LCallRows$Program;)I" } : Jvm.MethodName)) ∈ gU := gU_of 182 (by decide +kernel) rfl
theorem uw_183 : (Jvm.Cond.static ({ cls := "CallRows", name := "numberOf", desc := "(LCallRows$Program;)I" } : Jvm.MethodName)) ∈ gU := gU_of 183 (by decide +kernel) rfl
theorem uw_184 : (Jvm.Cond.code ({ cls := "CallRows", name := "numberOf", desc := "(LCallRows$Program;)I" } : Jvm.MethodName) prog_1_method_17_code (1 : Nat) (Option.some Jvm.ClassFile.FieldType.int)) ∈ gU := gU_of 184 (by decide +kernel) rfl
theorem uw_185 : (Jvm.Cond.methodLink "CallRows" (97 : Nat) ({ cls := "CallRows", name := "found", desc := "(LCallRows$Program;I)LCallRows$Program;" } : Jvm.MethodName)) ∈ gU := gU_of 185 (by decide +kernel) rfl
theorem uw_187 : (Jvm.Cond.instanceMethod ({ cls := "CallRows", name := "found", desc := "(LCallRows$Program;I)LCallRows$Program;" } : Jvm.MethodName)) ∈ gU := gU_of 187 (by decide +kernel) rfl
theorem uw_188 : (Jvm.Cond.code ({ cls := "CallRows", name := "found", desc := "(LCallRows$Program;I)LCallRows$Program;" } : Jvm.MethodName) prog_1_method_20_code (4 : Nat) (Option.some (Jvm.ClassFile.FieldType.object "CallRows$Program"))) ∈ gU := gU_of 188 (by decide +kernel) rfl
theorem uw_189 : (Jvm.Cond.methodLink "CallRows" (196 : Nat) ({ cls := "CallRows", name := "recursiveAround", desc := "(LCallRows$Program;I)LCallRows$Program;" } : Jvm.MethodName)) ∈ gU := gU_of 189 (by decide +kernel) rfl
theorem uw_190 : (Jvm.Cond.static ({ cls := "CallRows", name := "recursiveAround", desc := "(LCallRows$Program;I)LCallRows$Program;" } : Jvm.MethodName)) ∈ gU := gU_of 190 (by decide +kernel) rfl
theorem uw_191 : (Jvm.Cond.code ({ cls := "CallRows", name := "recursiveAround", desc := "(LCallRows$Program;I)LCallRows$Program;" } : Jvm.MethodName) prog_1_method_22_code (3 : Nat) (Option.some (Jvm.ClassFile.FieldType.object "CallRows$Program"))) ∈ gU := gU_of 191 (by decide +kernel) rfl
theorem uw_192 : (Jvm.Cond.methodLink "CallRows" (103 : Nat) ({ cls := "CallRows$Program", name := "has", desc := "(I)Z" } : Jvm.MethodName)) ∈ gU := gU_of 192 (by decide +kernel) rfl
theorem uw_193 : (Jvm.Cond.instanceMethod ({ cls := "CallRows$Program", name := "has", desc := "(I)Z" } : Jvm.MethodName)) ∈ gU := gU_of 193 (by decide +kernel) rfl
theorem uw_194 : (Jvm.Cond.selects "CallRows$Program" ({ cls := "CallRows$Program", name := "has", desc := "(I)Z" } : Jvm.MethodName) ({ cls := "CallRows$Program", name := "has", desc := "(I)Z" } : Jvm.MethodName)) ∈ gU := gU_of 194 (by decide +kernel) rfl
theorem uw_195 : (Jvm.Cond.code ({ cls := "CallRows$Program", name := "has", desc := "(I)Z" } : Jvm.MethodName) prog_3_method_2_code (2 : Nat) (Option.some Jvm.ClassFile.FieldType.boolean)) ∈ gU := gU_of 195 (by decide +kernel) rfl
theorem uw_196 : (Jvm.Cond.methodLink "CallRows" (199 : Nat) ({ cls := "CallRows", name := "commonAround", desc := "(LCallRows$Program;I)LCallRows$Program;" } : Jvm.MethodName)) ∈ gU := gU_of 196 (by decide +kernel) rfl
theorem uw_198 : (Jvm.Cond.instanceMethod ({ cls := "CallRows", name := "commonAround", desc := "(LCallRows$Program;I)LCallRows$Program;" } : Jvm.MethodName)) ∈ gU := gU_of 198 (by decide +kernel) rfl
theorem uw_199 : (Jvm.Cond.code ({ cls := "CallRows", name := "commonAround", desc := "(LCallRows$Program;I)LCallRows$Program;" } : Jvm.MethodName) prog_1_method_23_code (5 : Nat) (Option.some (Jvm.ClassFile.FieldType.object "CallRows$Program"))) ∈ gU := gU_of 199 (by decide +kernel) rfl
theorem uw_200 : (Jvm.Cond.methodLink "CallRows" (208 : Nat) ({ cls := "CallRows$Program", name := "isOrLiesIn", desc := "(LCallRows$Program;)Z" } : Jvm.MethodName)) ∈ gU := gU_of 200 (by decide +kernel) rfl
theorem uw_201 : (Jvm.Cond.instanceMethod ({ cls := "CallRows$Program", name := "isOrLiesIn", desc := "(LCallRows$Program;)Z" } : Jvm.MethodName)) ∈ gU := gU_of 201 (by decide +kernel) rfl
theorem uw_202 : (Jvm.Cond.selects "CallRows$Program" ({ cls := "CallRows$Program", name := "isOrLiesIn", desc := "(LCallRows$Program;)Z" } : Jvm.MethodName) ({ cls := "CallRows$Program", name := "isOrLiesIn", desc := "(LCallRows$Program;)Z" } : Jvm.MethodName)) ∈ gU := gU_of 202 (by decide +kernel) rfl
theorem uw_203 : (Jvm.Cond.code ({ cls := "CallRows$Program", name := "isOrLiesIn", desc := "(LCallRows$Program;)Z" } : Jvm.MethodName) prog_3_method_4_code (3 : Nat) (Option.some Jvm.ClassFile.FieldType.boolean)) ∈ gU := gU_of 203 (by decide +kernel) rfl
theorem uw_204 : (Jvm.Cond.methodLink "CallRows" (106 : Nat) ({ cls := "CallRows", name := "levelAbove", desc := "(LCallRows$Level;)LCallRows$Level;" } : Jvm.MethodName)) ∈ gU := gU_of 204 (by decide +kernel) rfl
theorem uw_205 : (Jvm.Cond.static ({ cls := "CallRows", name := "levelAbove", desc := "(LCallRows$Level;)LCallRows$Level;" } : Jvm.MethodName)) ∈ gU := gU_of 205 (by decide +kernel) rfl
theorem uw_206 : (Jvm.Cond.code ({ cls := "CallRows", name := "levelAbove", desc := "(LCallRows$Level;)LCallRows$Level;" } : Jvm.MethodName) prog_1_method_24_code (1 : Nat) (Option.some (Jvm.ClassFile.FieldType.object "CallRows$Level"))) ∈ gU := gU_of 206 (by decide +kernel) rfl
theorem uw_207 : (Jvm.Cond.methodLink "CallRows" (110 : Nat) ({ cls := "CallRows$Level", name := "begin", desc := "(LCallRows$Program;)V" } : Jvm.MethodName)) ∈ gU := gU_of 207 (by decide +kernel) rfl
theorem uw_208 : (Jvm.Cond.instanceMethod ({ cls := "CallRows$Level", name := "begin", desc := "(LCallRows$Program;)V" } : Jvm.MethodName)) ∈ gU := gU_of 208 (by decide +kernel) rfl
theorem uw_209 : (Jvm.Cond.selects "CallRows$Level" ({ cls := "CallRows$Level", name := "begin", desc := "(LCallRows$Program;)V" } : Jvm.MethodName) ({ cls := "CallRows$Level", name := "begin", desc := "(LCallRows$Program;)V" } : Jvm.MethodName)) ∈ gU := gU_of 209 (by decide +kernel) rfl
theorem uw_210 : (Jvm.Cond.code ({ cls := "CallRows$Level", name := "begin", desc := "(LCallRows$Program;)V" } : Jvm.MethodName) prog_2_method_2_code (3 : Nat) (Option.none : Option Jvm.ClassFile.FieldType)) ∈ gU := gU_of 210 (by decide +kernel) rfl
theorem uw_211 : (Jvm.Cond.methodLink "CallRowsLaw" (47 : Nat) ({ cls := "CallRows", name := "actual", desc := "(II)I" } : Jvm.MethodName)) ∈ gU := gU_of 211 (by decide +kernel) rfl
theorem uw_212 : (Jvm.Cond.instanceMethod ({ cls := "CallRows", name := "actual", desc := "(II)I" } : Jvm.MethodName)) ∈ gU := gU_of 212 (by decide +kernel) rfl
theorem uw_213 : (Jvm.Cond.selects "CallRows" ({ cls := "CallRows", name := "actual", desc := "(II)I" } : Jvm.MethodName) ({ cls := "CallRows", name := "actual", desc := "(II)I" } : Jvm.MethodName)) ∈ gU := gU_of 213 (by decide +kernel) rfl
theorem uw_214 : (Jvm.Cond.code ({ cls := "CallRows", name := "actual", desc := "(II)I" } : Jvm.MethodName) prog_1_method_6_code (5 : Nat) (Option.some Jvm.ClassFile.FieldType.int)) ∈ gU := gU_of 214 (by decide +kernel) rfl
theorem uw_215 : (Jvm.Cond.methodLink "CallRows" (117 : Nat) ({ cls := "CallRows", name := "holderOf", desc := "(I)LCallRows$Level;" } : Jvm.MethodName)) ∈ gU := gU_of 215 (by decide +kernel) rfl
theorem uw_217 : (Jvm.Cond.instanceMethod ({ cls := "CallRows", name := "holderOf", desc := "(I)LCallRows$Level;" } : Jvm.MethodName)) ∈ gU := gU_of 217 (by decide +kernel) rfl
theorem uw_218 : (Jvm.Cond.code ({ cls := "CallRows", name := "holderOf", desc := "(I)LCallRows$Level;" } : Jvm.MethodName) prog_1_method_25_code (4 : Nat) (Option.some (Jvm.ClassFile.FieldType.object "CallRows$Level"))) ∈ gU := gU_of 218 (by decide +kernel) rfl
theorem uw_219 : (Jvm.Cond.methodLink "CallRows" (218 : Nat) ({ cls := "CallRows", name := "seesCellsOf", desc := "(LCallRows$Program;LCallRows$Program;)Z" } : Jvm.MethodName)) ∈ gU := gU_of 219 (by decide +kernel) rfl
theorem uw_220 : (Jvm.Cond.static ({ cls := "CallRows", name := "seesCellsOf", desc := "(LCallRows$Program;LCallRows$Program;)Z" } : Jvm.MethodName)) ∈ gU := gU_of 220 (by decide +kernel) rfl
theorem uw_221 : (Jvm.Cond.code ({ cls := "CallRows", name := "seesCellsOf", desc := "(LCallRows$Program;LCallRows$Program;)Z" } : Jvm.MethodName) prog_1_method_26_code (2 : Nat) (Option.some Jvm.ClassFile.FieldType.boolean)) ∈ gU := gU_of 221 (by decide +kernel) rfl
theorem uw_222 : (Jvm.Cond.methodLink "CallRows" (222 : Nat) ({ cls := "CallRows", name := "dataOf", desc := "(LCallRows$Program;)LCallRows$Level;" } : Jvm.MethodName)) ∈ gU := gU_of 222 (by decide +kernel) rfl
theorem uw_224 : (Jvm.Cond.instanceMethod ({ cls := "CallRows", name := "dataOf", desc := "(LCallRows$Program;)LCallRows$Level;" } : Jvm.MethodName)) ∈ gU := gU_of 224 (by decide +kernel) rfl
theorem uw_225 : (Jvm.Cond.code ({ cls := "CallRows", name := "dataOf", desc := "(LCallRows$Program;)LCallRows$Level;" } : Jvm.MethodName) prog_1_method_30_code (2 : Nat) (Option.some (Jvm.ClassFile.FieldType.object "CallRows$Level"))) ∈ gU := gU_of 225 (by decide +kernel) rfl
theorem uw_226 : (Jvm.Cond.methodLink "CallRows" (128 : Nat) ({ cls := "CallRows", name := "bytesOf", desc := "(I)I" } : Jvm.MethodName)) ∈ gU := gU_of 226 (by decide +kernel) rfl
theorem uw_228 : (Jvm.Cond.instanceMethod ({ cls := "CallRows", name := "bytesOf", desc := "(I)I" } : Jvm.MethodName)) ∈ gU := gU_of 228 (by decide +kernel) rfl
theorem uw_229 : (Jvm.Cond.code ({ cls := "CallRows", name := "bytesOf", desc := "(I)I" } : Jvm.MethodName) prog_1_method_28_code (3 : Nat) (Option.some Jvm.ClassFile.FieldType.int)) ∈ gU := gU_of 229 (by decide +kernel) rfl
theorem uw_230 : (Jvm.Cond.methodLink "CallRows" (131 : Nat) ({ cls := "CallRows$Level", name := "share", desc := "(ILCallRows$Level;II)V" } : Jvm.MethodName)) ∈ gU := gU_of 230 (by decide +kernel) rfl
theorem uw_231 : (Jvm.Cond.instanceMethod ({ cls := "CallRows$Level", name := "share", desc := "(ILCallRows$Level;II)V" } : Jvm.MethodName)) ∈ gU := gU_of 231 (by decide +kernel) rfl
theorem uw_232 : (Jvm.Cond.selects "CallRows$Level" ({ cls := "CallRows$Level", name := "share", desc := "(ILCallRows$Level;II)V" } : Jvm.MethodName) ({ cls := "CallRows$Level", name := "share", desc := "(ILCallRows$Level;II)V" } : Jvm.MethodName)) ∈ gU := gU_of 232 (by decide +kernel) rfl
theorem uw_233 : (Jvm.Cond.code ({ cls := "CallRows$Level", name := "share", desc := "(ILCallRows$Level;II)V" } : Jvm.MethodName) prog_2_method_3_code (5 : Nat) (Option.none : Option Jvm.ClassFile.FieldType)) ∈ gU := gU_of 233 (by decide +kernel) rfl
theorem uw_234 : (Jvm.Cond.methodLink "CallRows" (135 : Nat) ({ cls := "CallRows$Level", name := "copy", desc := "(I)V" } : Jvm.MethodName)) ∈ gU := gU_of 234 (by decide +kernel) rfl
theorem uw_235 : (Jvm.Cond.instanceMethod ({ cls := "CallRows$Level", name := "copy", desc := "(I)V" } : Jvm.MethodName)) ∈ gU := gU_of 235 (by decide +kernel) rfl
theorem uw_236 : (Jvm.Cond.selects "CallRows$Level" ({ cls := "CallRows$Level", name := "copy", desc := "(I)V" } : Jvm.MethodName) ({ cls := "CallRows$Level", name := "copy", desc := "(I)V" } : Jvm.MethodName)) ∈ gU := gU_of 236 (by decide +kernel) rfl
theorem uw_237 : (Jvm.Cond.code ({ cls := "CallRows$Level", name := "copy", desc := "(I)V" } : Jvm.MethodName) prog_2_method_4_code (3 : Nat) (Option.none : Option Jvm.ClassFile.FieldType)) ∈ gU := gU_of 237 (by decide +kernel) rfl
theorem uw_238 : (Jvm.Cond.methodLink "CallRowsLaw" (51 : Nat) ({ cls := "CallRows", name := "enter", desc := "()I" } : Jvm.MethodName)) ∈ gU := gU_of 238 (by decide +kernel) rfl
theorem uw_239 : (Jvm.Cond.instanceMethod ({ cls := "CallRows", name := "enter", desc := "()I" } : Jvm.MethodName)) ∈ gU := gU_of 239 (by decide +kernel) rfl
theorem uw_240 : (Jvm.Cond.selects "CallRows" ({ cls := "CallRows", name := "enter", desc := "()I" } : Jvm.MethodName) ({ cls := "CallRows", name := "enter", desc := "()I" } : Jvm.MethodName)) ∈ gU := gU_of 240 (by decide +kernel) rfl
theorem uw_241 : (Jvm.Cond.code ({ cls := "CallRows", name := "enter", desc := "()I" } : Jvm.MethodName) prog_1_method_7_code (3 : Nat) (Option.some Jvm.ClassFile.FieldType.int)) ∈ gU := gU_of 241 (by decide +kernel) rfl
theorem uw_242 : (Jvm.Cond.methodLink "CallRows" (139 : Nat) ({ cls := "CallRows", name := "argumentsFit", desc := "(LCallRows$Level;LCallRows$Program;)Z" } : Jvm.MethodName)) ∈ gU := gU_of 242 (by decide +kernel) rfl
theorem uw_243 : (Jvm.Cond.static ({ cls := "CallRows", name := "argumentsFit", desc := "(LCallRows$Level;LCallRows$Program;)Z" } : Jvm.MethodName)) ∈ gU := gU_of 243 (by decide +kernel) rfl
theorem uw_244 : (Jvm.Cond.code ({ cls := "CallRows", name := "argumentsFit", desc := "(LCallRows$Level;LCallRows$Program;)Z" } : Jvm.MethodName) prog_1_method_32_code (3 : Nat) (Option.some Jvm.ClassFile.FieldType.boolean)) ∈ gU := gU_of 244 (by decide +kernel) rfl
theorem uw_245 : (Jvm.Cond.methodLink "CallRows" (143 : Nat) ({ cls := "CallRows", name := "bytesSuffice", desc := "(LCallRows$Level;LCallRows$Program;)Z" } : Jvm.MethodName)) ∈ gU := gU_of 245 (by decide +kernel) rfl
theorem uw_246 : (Jvm.Cond.static ({ cls := "CallRows", name := "bytesSuffice", desc := "(LCallRows$Level;LCallRows$Program;)Z" } : Jvm.MethodName)) ∈ gU := gU_of 246 (by decide +kernel) rfl
theorem uw_247 : (Jvm.Cond.code ({ cls := "CallRows", name := "bytesSuffice", desc := "(LCallRows$Level;LCallRows$Program;)Z" } : Jvm.MethodName) prog_1_method_33_code (3 : Nat) (Option.some Jvm.ClassFile.FieldType.boolean)) ∈ gU := gU_of 247 (by decide +kernel) rfl
theorem uw_248 : (Jvm.Cond.methodLink "CallRows" (146 : Nat) ({ cls := "CallRows", name := "copyValues", desc := "(LCallRows$Level;LCallRows$Program;)V" } : Jvm.MethodName)) ∈ gU := gU_of 248 (by decide +kernel) rfl
theorem uw_249 : (Jvm.Cond.static ({ cls := "CallRows", name := "copyValues", desc := "(LCallRows$Level;LCallRows$Program;)V" } : Jvm.MethodName)) ∈ gU := gU_of 249 (by decide +kernel) rfl
theorem uw_250 : (Jvm.Cond.code ({ cls := "CallRows", name := "copyValues", desc := "(LCallRows$Level;LCallRows$Program;)V" } : Jvm.MethodName) prog_1_method_34_code (3 : Nat) (Option.none : Option Jvm.ClassFile.FieldType)) ∈ gU := gU_of 250 (by decide +kernel) rfl
theorem uw_251 : (Jvm.Cond.methodLink "CallRows" (153 : Nat) ({ cls := "CallRows$Program", name := "keepsData", desc := "()Z" } : Jvm.MethodName)) ∈ gU := gU_of 251 (by decide +kernel) rfl
theorem uw_252 : (Jvm.Cond.instanceMethod ({ cls := "CallRows$Program", name := "keepsData", desc := "()Z" } : Jvm.MethodName)) ∈ gU := gU_of 252 (by decide +kernel) rfl
theorem uw_253 : (Jvm.Cond.selects "CallRows$Program" ({ cls := "CallRows$Program", name := "keepsData", desc := "()Z" } : Jvm.MethodName) ({ cls := "CallRows$Program", name := "keepsData", desc := "()Z" } : Jvm.MethodName)) ∈ gU := gU_of 253 (by decide +kernel) rfl
theorem uw_254 : (Jvm.Cond.code ({ cls := "CallRows$Program", name := "keepsData", desc := "()Z" } : Jvm.MethodName) prog_3_method_3_code (1 : Nat) (Option.some Jvm.ClassFile.FieldType.boolean)) ∈ gU := gU_of 254 (by decide +kernel) rfl
theorem uw_255 : (Jvm.Cond.methodLink "CallRows$Program" (32 : Nat) ({ cls := "CallRows$Program", name := "has", desc := "(I)Z" } : Jvm.MethodName)) ∈ gU := gU_of 255 (by decide +kernel) rfl
theorem uw_256 : (Jvm.Cond.methodLink "CallRows" (157 : Nat) ({ cls := "CallRows", name := "giveFirstValues", desc := "(LCallRows$Program;)V" } : Jvm.MethodName)) ∈ gU := gU_of 256 (by decide +kernel) rfl
theorem uw_258 : (Jvm.Cond.instanceMethod ({ cls := "CallRows", name := "giveFirstValues", desc := "(LCallRows$Program;)V" } : Jvm.MethodName)) ∈ gU := gU_of 258 (by decide +kernel) rfl
theorem uw_259 : (Jvm.Cond.code ({ cls := "CallRows", name := "giveFirstValues", desc := "(LCallRows$Program;)V" } : Jvm.MethodName) prog_1_method_31_code (4 : Nat) (Option.none : Option Jvm.ClassFile.FieldType)) ∈ gU := gU_of 259 (by decide +kernel) rfl
theorem uw_260 : (Jvm.Cond.methodLink "CallRowsLaw" (56 : Nat) ({ cls := "CallRows", name := "set", desc := "(IJ)I" } : Jvm.MethodName)) ∈ gU := gU_of 260 (by decide +kernel) rfl
theorem uw_261 : (Jvm.Cond.instanceMethod ({ cls := "CallRows", name := "set", desc := "(IJ)I" } : Jvm.MethodName)) ∈ gU := gU_of 261 (by decide +kernel) rfl
theorem uw_262 : (Jvm.Cond.selects "CallRows" ({ cls := "CallRows", name := "set", desc := "(IJ)I" } : Jvm.MethodName) ({ cls := "CallRows", name := "set", desc := "(IJ)I" } : Jvm.MethodName)) ∈ gU := gU_of 262 (by decide +kernel) rfl
theorem uw_263 : (Jvm.Cond.code ({ cls := "CallRows", name := "set", desc := "(IJ)I" } : Jvm.MethodName) prog_1_method_8_code (8 : Nat) (Option.some Jvm.ClassFile.FieldType.int)) ∈ gU := gU_of 263 (by decide +kernel) rfl
theorem uw_264 : (Jvm.Cond.constantLong "CallRows" (160 : Nat) (-1 : Int64)) ∈ gU := gU_of 264 (by decide +kernel) rfl
theorem uw_265 : (Jvm.Cond.methodLink "CallRows" (162 : Nat) ({ cls := "CallRows", name := "unusedBits", desc := "(I)I" } : Jvm.MethodName)) ∈ gU := gU_of 265 (by decide +kernel) rfl
theorem uw_267 : (Jvm.Cond.instanceMethod ({ cls := "CallRows", name := "unusedBits", desc := "(I)I" } : Jvm.MethodName)) ∈ gU := gU_of 267 (by decide +kernel) rfl
theorem uw_268 : (Jvm.Cond.code ({ cls := "CallRows", name := "unusedBits", desc := "(I)I" } : Jvm.MethodName) prog_1_method_29_code (2 : Nat) (Option.some Jvm.ClassFile.FieldType.int)) ∈ gU := gU_of 268 (by decide +kernel) rfl
theorem uw_269 : (Jvm.Cond.methodLink "CallRowsLaw" (60 : Nat) ({ cls := "CallRows", name := "leave", desc := "(J)I" } : Jvm.MethodName)) ∈ gU := gU_of 269 (by decide +kernel) rfl
theorem uw_270 : (Jvm.Cond.instanceMethod ({ cls := "CallRows", name := "leave", desc := "(J)I" } : Jvm.MethodName)) ∈ gU := gU_of 270 (by decide +kernel) rfl
theorem uw_271 : (Jvm.Cond.selects "CallRows" ({ cls := "CallRows", name := "leave", desc := "(J)I" } : Jvm.MethodName) ({ cls := "CallRows", name := "leave", desc := "(J)I" } : Jvm.MethodName)) ∈ gU := gU_of 271 (by decide +kernel) rfl
theorem uw_272 : (Jvm.Cond.code ({ cls := "CallRows", name := "leave", desc := "(J)I" } : Jvm.MethodName) prog_1_method_9_code (5 : Nat) (Option.some Jvm.ClassFile.FieldType.int)) ∈ gU := gU_of 272 (by decide +kernel) rfl
theorem uw_273 : (Jvm.Cond.methodLink "CallRowsLaw" (72 : Nat) ({ cls := "CallRows", name := "cancel", desc := "(II)I" } : Jvm.MethodName)) ∈ gU := gU_of 273 (by decide +kernel) rfl
theorem uw_274 : (Jvm.Cond.instanceMethod ({ cls := "CallRows", name := "cancel", desc := "(II)I" } : Jvm.MethodName)) ∈ gU := gU_of 274 (by decide +kernel) rfl
theorem uw_275 : (Jvm.Cond.selects "CallRows" ({ cls := "CallRows", name := "cancel", desc := "(II)I" } : Jvm.MethodName) ({ cls := "CallRows", name := "cancel", desc := "(II)I" } : Jvm.MethodName)) ∈ gU := gU_of 275 (by decide +kernel) rfl
theorem uw_276 : (Jvm.Cond.code ({ cls := "CallRows", name := "cancel", desc := "(II)I" } : Jvm.MethodName) prog_1_method_11_code (4 : Nat) (Option.some Jvm.ClassFile.FieldType.int)) ∈ gU := gU_of 276 (by decide +kernel) rfl
theorem uw_277 : (Jvm.Cond.methodLink "CallRows" (186 : Nat) ({ cls := "CallRows", name := "anyActiveOf", desc := "(LCallRows$Program;)Z" } : Jvm.MethodName)) ∈ gU := gU_of 277 (by decide +kernel) rfl
theorem uw_279 : (Jvm.Cond.instanceMethod ({ cls := "CallRows", name := "anyActiveOf", desc := "(LCallRows$Program;)Z" } : Jvm.MethodName)) ∈ gU := gU_of 279 (by decide +kernel) rfl
theorem uw_280 : (Jvm.Cond.code ({ cls := "CallRows", name := "anyActiveOf", desc := "(LCallRows$Program;)Z" } : Jvm.MethodName) prog_1_method_35_code (4 : Nat) (Option.some Jvm.ClassFile.FieldType.boolean)) ∈ gU := gU_of 280 (by decide +kernel) rfl
theorem uw_281 : (Jvm.Cond.methodLink "CallRows" (190 : Nat) ({ cls := "CallRows", name := "makeFresh", desc := "(LCallRows$Program;)I" } : Jvm.MethodName)) ∈ gU := gU_of 281 (by decide +kernel) rfl
theorem uw_283 : (Jvm.Cond.instanceMethod ({ cls := "CallRows", name := "makeFresh", desc := "(LCallRows$Program;)I" } : Jvm.MethodName)) ∈ gU := gU_of 283 (by decide +kernel) rfl
theorem uw_284 : (Jvm.Cond.code ({ cls := "CallRows", name := "makeFresh", desc := "(LCallRows$Program;)I" } : Jvm.MethodName) prog_1_method_36_code (5 : Nat) (Option.some Jvm.ClassFile.FieldType.int)) ∈ gU := gU_of 284 (by decide +kernel) rfl
theorem uw_285 : (Jvm.Cond.methodLink "CallRowsLaw" (76 : Nat) ({ cls := "CallRows", name := "shared", desc := "(I)I" } : Jvm.MethodName)) ∈ gU := gU_of 285 (by decide +kernel) rfl
theorem uw_286 : (Jvm.Cond.instanceMethod ({ cls := "CallRows", name := "shared", desc := "(I)I" } : Jvm.MethodName)) ∈ gU := gU_of 286 (by decide +kernel) rfl
theorem uw_287 : (Jvm.Cond.selects "CallRows" ({ cls := "CallRows", name := "shared", desc := "(I)I" } : Jvm.MethodName) ({ cls := "CallRows", name := "shared", desc := "(I)I" } : Jvm.MethodName)) ∈ gU := gU_of 287 (by decide +kernel) rfl
theorem uw_288 : (Jvm.Cond.code ({ cls := "CallRows", name := "shared", desc := "(I)I" } : Jvm.MethodName) prog_1_method_12_code (2 : Nat) (Option.some Jvm.ClassFile.FieldType.int)) ∈ gU := gU_of 288 (by decide +kernel) rfl
theorem uw_289 : (Jvm.Cond.methodLink "CallRowsLaw" (81 : Nat) ({ cls := "CallRows", name := "state", desc := "(I)I" } : Jvm.MethodName)) ∈ gU := gU_of 289 (by decide +kernel) rfl
theorem uw_290 : (Jvm.Cond.instanceMethod ({ cls := "CallRows", name := "state", desc := "(I)I" } : Jvm.MethodName)) ∈ gU := gU_of 290 (by decide +kernel) rfl
theorem uw_291 : (Jvm.Cond.selects "CallRows" ({ cls := "CallRows", name := "state", desc := "(I)I" } : Jvm.MethodName) ({ cls := "CallRows", name := "state", desc := "(I)I" } : Jvm.MethodName)) ∈ gU := gU_of 291 (by decide +kernel) rfl
theorem uw_292 : (Jvm.Cond.code ({ cls := "CallRows", name := "state", desc := "(I)I" } : Jvm.MethodName) prog_1_method_13_code (3 : Nat) (Option.some Jvm.ClassFile.FieldType.int)) ∈ gU := gU_of 292 (by decide +kernel) rfl
theorem uw_293 : (Jvm.Cond.methodLink "CallRowsLaw" (85 : Nat) ({ cls := "CallRows", name := "returned", desc := "()J" } : Jvm.MethodName)) ∈ gU := gU_of 293 (by decide +kernel) rfl
theorem uw_294 : (Jvm.Cond.instanceMethod ({ cls := "CallRows", name := "returned", desc := "()J" } : Jvm.MethodName)) ∈ gU := gU_of 294 (by decide +kernel) rfl
theorem uw_295 : (Jvm.Cond.selects "CallRows" ({ cls := "CallRows", name := "returned", desc := "()J" } : Jvm.MethodName) ({ cls := "CallRows", name := "returned", desc := "()J" } : Jvm.MethodName)) ∈ gU := gU_of 295 (by decide +kernel) rfl
theorem uw_296 : (Jvm.Cond.code ({ cls := "CallRows", name := "returned", desc := "()J" } : Jvm.MethodName) prog_1_method_14_code (1 : Nat) (Option.some Jvm.ClassFile.FieldType.long)) ∈ gU := gU_of 296 (by decide +kernel) rfl
theorem uw_297 : (Jvm.Cond.methodLink "CallRowsLaw" (90 : Nat) ({ cls := "CallRows", name := "count", desc := "(I)I" } : Jvm.MethodName)) ∈ gU := gU_of 297 (by decide +kernel) rfl
theorem uw_298 : (Jvm.Cond.instanceMethod ({ cls := "CallRows", name := "count", desc := "(I)I" } : Jvm.MethodName)) ∈ gU := gU_of 298 (by decide +kernel) rfl
theorem uw_299 : (Jvm.Cond.selects "CallRows" ({ cls := "CallRows", name := "count", desc := "(I)I" } : Jvm.MethodName) ({ cls := "CallRows", name := "count", desc := "(I)I" } : Jvm.MethodName)) ∈ gU := gU_of 299 (by decide +kernel) rfl
theorem uw_300 : (Jvm.Cond.code ({ cls := "CallRows", name := "count", desc := "(I)I" } : Jvm.MethodName) prog_1_method_15_code (2 : Nat) (Option.some Jvm.ClassFile.FieldType.int)) ∈ gU := gU_of 300 (by decide +kernel) rfl
theorem uw_301 : (Jvm.Cond.methodLink "CallRowsLaw" (15 : Nat) ({ cls := "CallRowsLaw", name := "cell", desc := "([II)I" } : Jvm.MethodName)) ∈ gU := gU_of 301 (by decide +kernel) rfl
theorem uw_302 : (Jvm.Cond.static ({ cls := "CallRowsLaw", name := "cell", desc := "([II)I" } : Jvm.MethodName)) ∈ gU := gU_of 302 (by decide +kernel) rfl
theorem uw_303 : (Jvm.Cond.code ({ cls := "CallRowsLaw", name := "cell", desc := "([II)I" } : Jvm.MethodName) method_2_code (2 : Nat) (Option.some Jvm.ClassFile.FieldType.int)) ∈ gU := gU_of 303 (by decide +kernel) rfl
theorem uw_304 : (Jvm.Cond.methodLink "CallRowsLaw" (65 : Nat) ({ cls := "CallRowsLaw", name := "get", desc := "(LCallRows;I[J)I" } : Jvm.MethodName)) ∈ gU := gU_of 304 (by decide +kernel) rfl
theorem uw_305 : (Jvm.Cond.static ({ cls := "CallRowsLaw", name := "get", desc := "(LCallRows;I[J)I" } : Jvm.MethodName)) ∈ gU := gU_of 305 (by decide +kernel) rfl
theorem uw_308 : (Jvm.Cond.methodLink "CallRowsLaw" (7 : Nat) ({ cls := "CallRows", name := "get", desc := "(I)J" } : Jvm.MethodName)) ∈ gU := gU_of 308 (by decide +kernel) rfl
theorem uw_309 : (Jvm.Cond.instanceMethod ({ cls := "CallRows", name := "get", desc := "(I)J" } : Jvm.MethodName)) ∈ gU := gU_of 309 (by decide +kernel) rfl
theorem uw_310 : (Jvm.Cond.selects "CallRows" ({ cls := "CallRows", name := "get", desc := "(I)J" } : Jvm.MethodName) ({ cls := "CallRows", name := "get", desc := "(I)J" } : Jvm.MethodName)) ∈ gU := gU_of 310 (by decide +kernel) rfl
theorem uw_311 : (Jvm.Cond.code ({ cls := "CallRows", name := "get", desc := "(I)J" } : Jvm.MethodName) prog_1_method_10_code (4 : Nat) (Option.some Jvm.ClassFile.FieldType.long)) ∈ gU := gU_of 311 (by decide +kernel) rfl
theorem uw_377 : (Jvm.Cond.arrayClass Jvm.ClassFile.FieldType.byte) ∈ gU := gU_of 377 (by decide +kernel) rfl
theorem uw_378 : (Jvm.Cond.classLink "CallRowsLaw" (24 : Nat) "CallRowsModel") ∈ gU := gU_of 378 (by decide +kernel) rfl
theorem uw_379 : (Jvm.Cond.instantiable "CallRowsModel" (29 : Nat)) ∈ gU := gU_of 379 (by decide +kernel) rfl
theorem uw_380 : (Jvm.Cond.methodLink "CallRowsLaw" (26 : Nat) ({ cls := "CallRowsModel", name := "<init>", desc := "(I)V" } : Jvm.MethodName)) ∈ gU := gU_of 380 (by decide +kernel) rfl
theorem uw_381 : (Jvm.Cond.instanceMethod ({ cls := "CallRowsModel", name := "<init>", desc := "(I)V" } : Jvm.MethodName)) ∈ gU := gU_of 381 (by decide +kernel) rfl
theorem uw_382 : (Jvm.Cond.code ({ cls := "CallRowsModel", name := "<init>", desc := "(I)V" } : Jvm.MethodName) prog_5_method_1_code (2 : Nat) (Option.none : Option Jvm.ClassFile.FieldType)) ∈ gU := gU_of 382 (by decide +kernel) rfl
theorem uw_383 : (Jvm.Cond.methodLink "CallRowsModel" (1 : Nat) ({ cls := "java/lang/Object", name := "<init>", desc := "()V" } : Jvm.MethodName)) ∈ gU := gU_of 383 (by decide +kernel) rfl
theorem uw_384 : (Jvm.Cond.constant "CallRowsModel" (48 : Nat) (60000 : Int32)) ∈ gU := gU_of 384 (by decide +kernel) rfl
theorem uw_385 : (Jvm.Cond.constant "CallRowsModel" (74 : Nat) (65536 : Int32)) ∈ gU := gU_of 385 (by decide +kernel) rfl
theorem uw_386 : (Jvm.Cond.fieldLink "CallRowsModel" (78 : Nat) "CallRowsModel" "code" "I") ∈ gU := gU_of 386 (by decide +kernel) rfl
theorem uw_387 : (Jvm.Cond.fieldLink "CallRowsModel" (75 : Nat) "CallRowsModel" "depth" "I") ∈ gU := gU_of 387 (by decide +kernel) rfl
theorem uw_388 : (Jvm.Cond.fieldLink "CallRowsModel" (7 : Nat) "CallRowsModel" "within" "[I") ∈ gU := gU_of 388 (by decide +kernel) rfl
theorem uw_389 : (Jvm.Cond.fieldLink "CallRowsModel" (13 : Nat) "CallRowsModel" "names" "[I") ∈ gU := gU_of 389 (by decide +kernel) rfl
theorem uw_390 : (Jvm.Cond.fieldLink "CallRowsModel" (16 : Nat) "CallRowsModel" "marks" "[I") ∈ gU := gU_of 390 (by decide +kernel) rfl
theorem uw_391 : (Jvm.Cond.fieldLink "CallRowsModel" (19 : Nat) "CallRowsModel" "manyFormals" "[I") ∈ gU := gU_of 391 (by decide +kernel) rfl
theorem uw_392 : (Jvm.Cond.fieldLink "CallRowsModel" (22 : Nat) "CallRowsModel" "activeTimes" "[I") ∈ gU := gU_of 392 (by decide +kernel) rfl
theorem uw_393 : (Jvm.Cond.fieldLink "CallRowsModel" (25 : Nat) "CallRowsModel" "data" "[Z") ∈ gU := gU_of 393 (by decide +kernel) rfl
theorem uw_394 : (Jvm.Cond.fieldLink "CallRowsModel" (81 : Nat) "CallRowsModel" "programs" "I") ∈ gU := gU_of 394 (by decide +kernel) rfl
theorem uw_395 : (Jvm.Cond.fieldLink "CallRowsModel" (29 : Nat) "CallRowsModel" "owner" "[I") ∈ gU := gU_of 395 (by decide +kernel) rfl
theorem uw_396 : (Jvm.Cond.fieldLink "CallRowsModel" (32 : Nat) "CallRowsModel" "rank" "[I") ∈ gU := gU_of 396 (by decide +kernel) rfl
theorem uw_397 : (Jvm.Cond.fieldLink "CallRowsModel" (35 : Nat) "CallRowsModel" "external" "[I") ∈ gU := gU_of 397 (by decide +kernel) rfl
theorem uw_398 : (Jvm.Cond.fieldLink "CallRowsModel" (38 : Nat) "CallRowsModel" "first" "[J") ∈ gU := gU_of 398 (by decide +kernel) rfl
theorem uw_399 : (Jvm.Cond.fieldLink "CallRowsModel" (98 : Nat) "CallRowsModel" "cells" "I") ∈ gU := gU_of 399 (by decide +kernel) rfl
theorem uw_400 : (Jvm.Cond.fieldLink "CallRowsModel" (42 : Nat) "CallRowsModel" "how" "[I") ∈ gU := gU_of 400 (by decide +kernel) rfl
theorem uw_401 : (Jvm.Cond.fieldLink "CallRowsModel" (45 : Nat) "CallRowsModel" "bytes" "[I") ∈ gU := gU_of 401 (by decide +kernel) rfl
theorem uw_402 : (Jvm.Cond.fieldLink "CallRowsModel" (49 : Nat) "CallRowsModel" "memory" "[J") ∈ gU := gU_of 402 (by decide +kernel) rfl
theorem uw_403 : (Jvm.Cond.fieldLink "CallRowsModel" (52 : Nat) "CallRowsModel" "used" "I") ∈ gU := gU_of 403 (by decide +kernel) rfl
theorem uw_404 : (Jvm.Cond.fieldLink "CallRowsModel" (56 : Nat) "CallRowsModel" "callOf" "[I") ∈ gU := gU_of 404 (by decide +kernel) rfl
theorem uw_405 : (Jvm.Cond.fieldLink "CallRowsModel" (59 : Nat) "CallRowsModel" "baseOf" "[I") ∈ gU := gU_of 405 (by decide +kernel) rfl
theorem uw_406 : (Jvm.Cond.fieldLink "CallRowsModel" (62 : Nat) "CallRowsModel" "usedAhead" "[I") ∈ gU := gU_of 406 (by decide +kernel) rfl
theorem uw_407 : (Jvm.Cond.fieldLink "CallRowsModel" (65 : Nat) "CallRowsModel" "placeOf" "[I") ∈ gU := gU_of 407 (by decide +kernel) rfl
theorem uw_408 : (Jvm.Cond.fieldLink "CallRowsModel" (84 : Nat) "CallRowsModel" "active" "I") ∈ gU := gU_of 408 (by decide +kernel) rfl
theorem uw_409 : (Jvm.Cond.fieldLink "CallRowsModel" (129 : Nat) "CallRowsModel" "prepared" "I") ∈ gU := gU_of 409 (by decide +kernel) rfl
theorem uw_410 : (Jvm.Cond.fieldLink "CallRowsModel" (135 : Nat) "CallRowsModel" "arguments" "I") ∈ gU := gU_of 410 (by decide +kernel) rfl
theorem uw_411 : (Jvm.Cond.fieldLink "CallRowsModel" (132 : Nat) "CallRowsModel" "preparedAhead" "I") ∈ gU := gU_of 411 (by decide +kernel) rfl
theorem uw_412 : (Jvm.Cond.fieldLink "CallRowsModel" (68 : Nat) "CallRowsModel" "argument" "[I") ∈ gU := gU_of 412 (by decide +kernel) rfl
theorem uw_413 : (Jvm.Cond.fieldLink "CallRowsModel" (71 : Nat) "CallRowsModel" "argumentBytes" "[I") ∈ gU := gU_of 413 (by decide +kernel) rfl
theorem uw_414 : (Jvm.Cond.fieldLink "CallRowsModel" (154 : Nat) "CallRowsModel" "returns" "J") ∈ gU := gU_of 414 (by decide +kernel) rfl
theorem uw_415 : (Jvm.Cond.lays "CallRowsModel" "CallRowsModel" "code" "I") ∈ gU := gU_of 415 (by decide +kernel) rfl
theorem uw_417 : (Jvm.Cond.laysFinal "CallRowsModel" "CallRowsModel" "depth" "I") ∈ gU := gU_of 417 (by decide +kernel) rfl
theorem uw_419 : (Jvm.Cond.laysFinal "CallRowsModel" "CallRowsModel" "within" "[I") ∈ gU := gU_of 419 (by decide +kernel) rfl
theorem uw_421 : (Jvm.Cond.laysFinal "CallRowsModel" "CallRowsModel" "names" "[I") ∈ gU := gU_of 421 (by decide +kernel) rfl
theorem uw_423 : (Jvm.Cond.laysFinal "CallRowsModel" "CallRowsModel" "marks" "[I") ∈ gU := gU_of 423 (by decide +kernel) rfl
theorem uw_425 : (Jvm.Cond.laysFinal "CallRowsModel" "CallRowsModel" "manyFormals" "[I") ∈ gU := gU_of 425 (by decide +kernel) rfl
theorem uw_427 : (Jvm.Cond.laysFinal "CallRowsModel" "CallRowsModel" "activeTimes" "[I") ∈ gU := gU_of 427 (by decide +kernel) rfl
theorem uw_429 : (Jvm.Cond.laysFinal "CallRowsModel" "CallRowsModel" "data" "[Z") ∈ gU := gU_of 429 (by decide +kernel) rfl
theorem uw_431 : (Jvm.Cond.lays "CallRowsModel" "CallRowsModel" "programs" "I") ∈ gU := gU_of 431 (by decide +kernel) rfl
theorem uw_433 : (Jvm.Cond.laysFinal "CallRowsModel" "CallRowsModel" "owner" "[I") ∈ gU := gU_of 433 (by decide +kernel) rfl
theorem uw_435 : (Jvm.Cond.laysFinal "CallRowsModel" "CallRowsModel" "rank" "[I") ∈ gU := gU_of 435 (by decide +kernel) rfl
theorem uw_437 : (Jvm.Cond.laysFinal "CallRowsModel" "CallRowsModel" "external" "[I") ∈ gU := gU_of 437 (by decide +kernel) rfl
theorem uw_439 : (Jvm.Cond.laysFinal "CallRowsModel" "CallRowsModel" "first" "[J") ∈ gU := gU_of 439 (by decide +kernel) rfl
theorem uw_441 : (Jvm.Cond.lays "CallRowsModel" "CallRowsModel" "cells" "I") ∈ gU := gU_of 441 (by decide +kernel) rfl
theorem uw_443 : (Jvm.Cond.laysFinal "CallRowsModel" "CallRowsModel" "how" "[I") ∈ gU := gU_of 443 (by decide +kernel) rfl
theorem uw_445 : (Jvm.Cond.laysFinal "CallRowsModel" "CallRowsModel" "bytes" "[I") ∈ gU := gU_of 445 (by decide +kernel) rfl
theorem uw_447 : (Jvm.Cond.laysFinal "CallRowsModel" "CallRowsModel" "memory" "[J") ∈ gU := gU_of 447 (by decide +kernel) rfl
theorem uw_449 : (Jvm.Cond.lays "CallRowsModel" "CallRowsModel" "used" "I") ∈ gU := gU_of 449 (by decide +kernel) rfl
theorem uw_451 : (Jvm.Cond.laysFinal "CallRowsModel" "CallRowsModel" "callOf" "[I") ∈ gU := gU_of 451 (by decide +kernel) rfl
theorem uw_453 : (Jvm.Cond.laysFinal "CallRowsModel" "CallRowsModel" "baseOf" "[I") ∈ gU := gU_of 453 (by decide +kernel) rfl
theorem uw_455 : (Jvm.Cond.laysFinal "CallRowsModel" "CallRowsModel" "usedAhead" "[I") ∈ gU := gU_of 455 (by decide +kernel) rfl
theorem uw_457 : (Jvm.Cond.laysFinal "CallRowsModel" "CallRowsModel" "placeOf" "[I") ∈ gU := gU_of 457 (by decide +kernel) rfl
theorem uw_459 : (Jvm.Cond.lays "CallRowsModel" "CallRowsModel" "active" "I") ∈ gU := gU_of 459 (by decide +kernel) rfl
theorem uw_461 : (Jvm.Cond.lays "CallRowsModel" "CallRowsModel" "prepared" "I") ∈ gU := gU_of 461 (by decide +kernel) rfl
theorem uw_463 : (Jvm.Cond.lays "CallRowsModel" "CallRowsModel" "arguments" "I") ∈ gU := gU_of 463 (by decide +kernel) rfl
theorem uw_465 : (Jvm.Cond.lays "CallRowsModel" "CallRowsModel" "preparedAhead" "I") ∈ gU := gU_of 465 (by decide +kernel) rfl
theorem uw_467 : (Jvm.Cond.laysFinal "CallRowsModel" "CallRowsModel" "argument" "[I") ∈ gU := gU_of 467 (by decide +kernel) rfl
theorem uw_469 : (Jvm.Cond.laysFinal "CallRowsModel" "CallRowsModel" "argumentBytes" "[I") ∈ gU := gU_of 469 (by decide +kernel) rfl
theorem uw_471 : (Jvm.Cond.lays "CallRowsModel" "CallRowsModel" "returns" "J") ∈ gU := gU_of 471 (by decide +kernel) rfl
theorem uw_474 : (Jvm.Cond.arrayClass Jvm.ClassFile.FieldType.boolean) ∈ gU := gU_of 474 (by decide +kernel) rfl
theorem uw_475 : (Jvm.Cond.methodLink "CallRowsLaw" (69 : Nat) ({ cls := "CallRowsModel", name := "thrown", desc := "()I" } : Jvm.MethodName)) ∈ gU := gU_of 475 (by decide +kernel) rfl
theorem uw_476 : (Jvm.Cond.instanceMethod ({ cls := "CallRowsModel", name := "thrown", desc := "()I" } : Jvm.MethodName)) ∈ gU := gU_of 476 (by decide +kernel) rfl
theorem uw_477 : (Jvm.Cond.selects "CallRowsModel" ({ cls := "CallRowsModel", name := "thrown", desc := "()I" } : Jvm.MethodName) ({ cls := "CallRowsModel", name := "thrown", desc := "()I" } : Jvm.MethodName)) ∈ gU := gU_of 477 (by decide +kernel) rfl
theorem uw_478 : (Jvm.Cond.code ({ cls := "CallRowsModel", name := "thrown", desc := "()I" } : Jvm.MethodName) prog_5_method_2_code (1 : Nat) (Option.some Jvm.ClassFile.FieldType.int)) ∈ gU := gU_of 478 (by decide +kernel) rfl
theorem uw_479 : (Jvm.Cond.methodLink "CallRowsLaw" (31 : Nat) ({ cls := "CallRowsModel", name := "program", desc := "(III)I" } : Jvm.MethodName)) ∈ gU := gU_of 479 (by decide +kernel) rfl
theorem uw_480 : (Jvm.Cond.instanceMethod ({ cls := "CallRowsModel", name := "program", desc := "(III)I" } : Jvm.MethodName)) ∈ gU := gU_of 480 (by decide +kernel) rfl
theorem uw_481 : (Jvm.Cond.selects "CallRowsModel" ({ cls := "CallRowsModel", name := "program", desc := "(III)I" } : Jvm.MethodName) ({ cls := "CallRowsModel", name := "program", desc := "(III)I" } : Jvm.MethodName)) ∈ gU := gU_of 481 (by decide +kernel) rfl
theorem uw_482 : (Jvm.Cond.code ({ cls := "CallRowsModel", name := "program", desc := "(III)I" } : Jvm.MethodName) prog_5_method_7_code (4 : Nat) (Option.some Jvm.ClassFile.FieldType.int)) ∈ gU := gU_of 482 (by decide +kernel) rfl
theorem uw_483 : (Jvm.Cond.methodLink "CallRowsModel" (87 : Nat) ({ cls := "CallRowsModel", name := "isName", desc := "(I)Z" } : Jvm.MethodName)) ∈ gU := gU_of 483 (by decide +kernel) rfl
theorem uw_484 : (Jvm.Cond.static ({ cls := "CallRowsModel", name := "isName", desc := "(I)Z" } : Jvm.MethodName)) ∈ gU := gU_of 484 (by decide +kernel) rfl
theorem uw_485 : (Jvm.Cond.code ({ cls := "CallRowsModel", name := "isName", desc := "(I)Z" } : Jvm.MethodName) prog_5_method_6_code (1 : Nat) (Option.some Jvm.ClassFile.FieldType.boolean)) ∈ gU := gU_of 485 (by decide +kernel) rfl
theorem uw_486 : (Jvm.Cond.methodLink "CallRowsModel" (91 : Nat) ({ cls := "CallRowsModel", name := "directly", desc := "(II)I" } : Jvm.MethodName)) ∈ gU := gU_of 486 (by decide +kernel) rfl
theorem uw_488 : (Jvm.Cond.instanceMethod ({ cls := "CallRowsModel", name := "directly", desc := "(II)I" } : Jvm.MethodName)) ∈ gU := gU_of 488 (by decide +kernel) rfl
theorem uw_489 : (Jvm.Cond.code ({ cls := "CallRowsModel", name := "directly", desc := "(II)I" } : Jvm.MethodName) prog_5_method_11_code (5 : Nat) (Option.some Jvm.ClassFile.FieldType.int)) ∈ gU := gU_of 489 (by decide +kernel) rfl
theorem uw_490 : (Jvm.Cond.methodLink "CallRowsLaw" (37 : Nat) ({ cls := "CallRowsModel", name := "cell", desc := "(IJ)I" } : Jvm.MethodName)) ∈ gU := gU_of 490 (by decide +kernel) rfl
theorem uw_491 : (Jvm.Cond.instanceMethod ({ cls := "CallRowsModel", name := "cell", desc := "(IJ)I" } : Jvm.MethodName)) ∈ gU := gU_of 491 (by decide +kernel) rfl
theorem uw_492 : (Jvm.Cond.selects "CallRowsModel" ({ cls := "CallRowsModel", name := "cell", desc := "(IJ)I" } : Jvm.MethodName) ({ cls := "CallRowsModel", name := "cell", desc := "(IJ)I" } : Jvm.MethodName)) ∈ gU := gU_of 492 (by decide +kernel) rfl
theorem uw_493 : (Jvm.Cond.code ({ cls := "CallRowsModel", name := "cell", desc := "(IJ)I" } : Jvm.MethodName) prog_5_method_8_code (6 : Nat) (Option.some Jvm.ClassFile.FieldType.int)) ∈ gU := gU_of 493 (by decide +kernel) rfl
theorem uw_494 : (Jvm.Cond.methodLink "CallRowsModel" (95 : Nat) ({ cls := "CallRowsModel", name := "isProgram", desc := "(I)Z" } : Jvm.MethodName)) ∈ gU := gU_of 494 (by decide +kernel) rfl
theorem uw_496 : (Jvm.Cond.instanceMethod ({ cls := "CallRowsModel", name := "isProgram", desc := "(I)Z" } : Jvm.MethodName)) ∈ gU := gU_of 496 (by decide +kernel) rfl
theorem uw_497 : (Jvm.Cond.code ({ cls := "CallRowsModel", name := "isProgram", desc := "(I)Z" } : Jvm.MethodName) prog_5_method_3_code (2 : Nat) (Option.some Jvm.ClassFile.FieldType.boolean)) ∈ gU := gU_of 497 (by decide +kernel) rfl
theorem uw_498 : (Jvm.Cond.methodLink "CallRowsLaw" (41 : Nat) ({ cls := "CallRowsModel", name := "formal", desc := "(III)I" } : Jvm.MethodName)) ∈ gU := gU_of 498 (by decide +kernel) rfl
theorem uw_499 : (Jvm.Cond.instanceMethod ({ cls := "CallRowsModel", name := "formal", desc := "(III)I" } : Jvm.MethodName)) ∈ gU := gU_of 499 (by decide +kernel) rfl
theorem uw_500 : (Jvm.Cond.selects "CallRowsModel" ({ cls := "CallRowsModel", name := "formal", desc := "(III)I" } : Jvm.MethodName) ({ cls := "CallRowsModel", name := "formal", desc := "(III)I" } : Jvm.MethodName)) ∈ gU := gU_of 500 (by decide +kernel) rfl
theorem uw_501 : (Jvm.Cond.code ({ cls := "CallRowsModel", name := "formal", desc := "(III)I" } : Jvm.MethodName) prog_5_method_9_code (5 : Nat) (Option.some Jvm.ClassFile.FieldType.int)) ∈ gU := gU_of 501 (by decide +kernel) rfl
theorem uw_502 : (Jvm.Cond.methodLink "CallRowsLaw" (80 : Nat) ({ cls := "CallRowsModel", name := "shared", desc := "(I)I" } : Jvm.MethodName)) ∈ gU := gU_of 502 (by decide +kernel) rfl
theorem uw_503 : (Jvm.Cond.instanceMethod ({ cls := "CallRowsModel", name := "shared", desc := "(I)I" } : Jvm.MethodName)) ∈ gU := gU_of 503 (by decide +kernel) rfl
theorem uw_504 : (Jvm.Cond.selects "CallRowsModel" ({ cls := "CallRowsModel", name := "shared", desc := "(I)I" } : Jvm.MethodName) ({ cls := "CallRowsModel", name := "shared", desc := "(I)I" } : Jvm.MethodName)) ∈ gU := gU_of 504 (by decide +kernel) rfl
theorem uw_505 : (Jvm.Cond.code ({ cls := "CallRowsModel", name := "shared", desc := "(I)I" } : Jvm.MethodName) prog_5_method_10_code (3 : Nat) (Option.some Jvm.ClassFile.FieldType.int)) ∈ gU := gU_of 505 (by decide +kernel) rfl
theorem uw_506 : (Jvm.Cond.methodLink "CallRowsLaw" (59 : Nat) ({ cls := "CallRowsModel", name := "set", desc := "(IJ)I" } : Jvm.MethodName)) ∈ gU := gU_of 506 (by decide +kernel) rfl
theorem uw_507 : (Jvm.Cond.instanceMethod ({ cls := "CallRowsModel", name := "set", desc := "(IJ)I" } : Jvm.MethodName)) ∈ gU := gU_of 507 (by decide +kernel) rfl
theorem uw_508 : (Jvm.Cond.selects "CallRowsModel" ({ cls := "CallRowsModel", name := "set", desc := "(IJ)I" } : Jvm.MethodName) ({ cls := "CallRowsModel", name := "set", desc := "(IJ)I" } : Jvm.MethodName)) ∈ gU := gU_of 508 (by decide +kernel) rfl
theorem uw_509 : (Jvm.Cond.code ({ cls := "CallRowsModel", name := "set", desc := "(IJ)I" } : Jvm.MethodName) prog_5_method_19_code (5 : Nat) (Option.some Jvm.ClassFile.FieldType.int)) ∈ gU := gU_of 509 (by decide +kernel) rfl
theorem uw_510 : (Jvm.Cond.methodLink "CallRowsModel" (114 : Nat) ({ cls := "CallRowsModel", name := "place", desc := "(I)I" } : Jvm.MethodName)) ∈ gU := gU_of 510 (by decide +kernel) rfl
theorem uw_512 : (Jvm.Cond.instanceMethod ({ cls := "CallRowsModel", name := "place", desc := "(I)I" } : Jvm.MethodName)) ∈ gU := gU_of 512 (by decide +kernel) rfl
theorem uw_513 : (Jvm.Cond.code ({ cls := "CallRowsModel", name := "place", desc := "(I)I" } : Jvm.MethodName) prog_5_method_14_code (7 : Nat) (Option.some Jvm.ClassFile.FieldType.int)) ∈ gU := gU_of 513 (by decide +kernel) rfl
theorem uw_514 : (Jvm.Cond.methodLink "CallRowsModel" (108 : Nat) ({ cls := "CallRowsModel", name := "running", desc := "()I" } : Jvm.MethodName)) ∈ gU := gU_of 514 (by decide +kernel) rfl
theorem uw_516 : (Jvm.Cond.instanceMethod ({ cls := "CallRowsModel", name := "running", desc := "()I" } : Jvm.MethodName)) ∈ gU := gU_of 516 (by decide +kernel) rfl
theorem uw_517 : (Jvm.Cond.code ({ cls := "CallRowsModel", name := "running", desc := "()I" } : Jvm.MethodName) prog_5_method_5_code (1 : Nat) (Option.some Jvm.ClassFile.FieldType.int)) ∈ gU := gU_of 517 (by decide +kernel) rfl
theorem uw_518 : (Jvm.Cond.constantLong "CallRowsModel" (112 : Nat) (-1 : Int64)) ∈ gU := gU_of 518 (by decide +kernel) rfl
theorem uw_519 : (Jvm.Cond.methodLink "CallRowsModel" (101 : Nat) ({ cls := "CallRowsModel", name := "is", desc := "(II)Z" } : Jvm.MethodName)) ∈ gU := gU_of 519 (by decide +kernel) rfl
theorem uw_521 : (Jvm.Cond.instanceMethod ({ cls := "CallRowsModel", name := "is", desc := "(II)Z" } : Jvm.MethodName)) ∈ gU := gU_of 521 (by decide +kernel) rfl
theorem uw_522 : (Jvm.Cond.code ({ cls := "CallRowsModel", name := "is", desc := "(II)Z" } : Jvm.MethodName) prog_5_method_4_code (3 : Nat) (Option.some Jvm.ClassFile.FieldType.boolean)) ∈ gU := gU_of 522 (by decide +kernel) rfl
theorem uw_523 : (Jvm.Cond.methodLink "CallRowsModel" (105 : Nat) ({ cls := "CallRowsModel", name := "liesIn", desc := "(II)Z" } : Jvm.MethodName)) ∈ gU := gU_of 523 (by decide +kernel) rfl
theorem uw_525 : (Jvm.Cond.instanceMethod ({ cls := "CallRowsModel", name := "liesIn", desc := "(II)Z" } : Jvm.MethodName)) ∈ gU := gU_of 525 (by decide +kernel) rfl
theorem uw_526 : (Jvm.Cond.code ({ cls := "CallRowsModel", name := "liesIn", desc := "(II)Z" } : Jvm.MethodName) prog_5_method_12_code (4 : Nat) (Option.some Jvm.ClassFile.FieldType.boolean)) ∈ gU := gU_of 526 (by decide +kernel) rfl
theorem uw_527 : (Jvm.Cond.methodLink "CallRowsModel" (118 : Nat) ({ cls := "CallRowsModel", name := "bytesOf", desc := "(I)I" } : Jvm.MethodName)) ∈ gU := gU_of 527 (by decide +kernel) rfl
theorem uw_529 : (Jvm.Cond.instanceMethod ({ cls := "CallRowsModel", name := "bytesOf", desc := "(I)I" } : Jvm.MethodName)) ∈ gU := gU_of 529 (by decide +kernel) rfl
theorem uw_530 : (Jvm.Cond.code ({ cls := "CallRowsModel", name := "bytesOf", desc := "(I)I" } : Jvm.MethodName) prog_5_method_15_code (2 : Nat) (Option.some Jvm.ClassFile.FieldType.int)) ∈ gU := gU_of 530 (by decide +kernel) rfl
theorem uw_531 : (Jvm.Cond.methodLink "CallRowsModel" (121 : Nat) ({ cls := "CallRowsModel", name := "store", desc := "(IIJ)V" } : Jvm.MethodName)) ∈ gU := gU_of 531 (by decide +kernel) rfl
theorem uw_533 : (Jvm.Cond.instanceMethod ({ cls := "CallRowsModel", name := "store", desc := "(IIJ)V" } : Jvm.MethodName)) ∈ gU := gU_of 533 (by decide +kernel) rfl
theorem uw_534 : (Jvm.Cond.code ({ cls := "CallRowsModel", name := "store", desc := "(IIJ)V" } : Jvm.MethodName) prog_5_method_17_code (7 : Nat) (Option.none : Option Jvm.ClassFile.FieldType)) ∈ gU := gU_of 534 (by decide +kernel) rfl
theorem uw_535 : (Jvm.Cond.methodLink "CallRowsLaw" (68 : Nat) ({ cls := "CallRowsModel", name := "get", desc := "(I)J" } : Jvm.MethodName)) ∈ gU := gU_of 535 (by decide +kernel) rfl
theorem uw_536 : (Jvm.Cond.instanceMethod ({ cls := "CallRowsModel", name := "get", desc := "(I)J" } : Jvm.MethodName)) ∈ gU := gU_of 536 (by decide +kernel) rfl
theorem uw_537 : (Jvm.Cond.selects "CallRowsModel" ({ cls := "CallRowsModel", name := "get", desc := "(I)J" } : Jvm.MethodName) ({ cls := "CallRowsModel", name := "get", desc := "(I)J" } : Jvm.MethodName)) ∈ gU := gU_of 537 (by decide +kernel) rfl
theorem uw_538 : (Jvm.Cond.code ({ cls := "CallRowsModel", name := "get", desc := "(I)J" } : Jvm.MethodName) prog_5_method_20_code (3 : Nat) (Option.some Jvm.ClassFile.FieldType.long)) ∈ gU := gU_of 538 (by decide +kernel) rfl
theorem uw_539 : (Jvm.Cond.methodLink "CallRowsModel" (125 : Nat) ({ cls := "CallRowsModel", name := "signed", desc := "(JI)J" } : Jvm.MethodName)) ∈ gU := gU_of 539 (by decide +kernel) rfl
theorem uw_540 : (Jvm.Cond.static ({ cls := "CallRowsModel", name := "signed", desc := "(JI)J" } : Jvm.MethodName)) ∈ gU := gU_of 540 (by decide +kernel) rfl
theorem uw_541 : (Jvm.Cond.code ({ cls := "CallRowsModel", name := "signed", desc := "(JI)J" } : Jvm.MethodName) prog_5_method_16_code (3 : Nat) (Option.some Jvm.ClassFile.FieldType.long)) ∈ gU := gU_of 541 (by decide +kernel) rfl
theorem uw_542 : (Jvm.Cond.methodLink "CallRowsLaw" (46 : Nat) ({ cls := "CallRowsModel", name := "call", desc := "(II)I" } : Jvm.MethodName)) ∈ gU := gU_of 542 (by decide +kernel) rfl
theorem uw_543 : (Jvm.Cond.instanceMethod ({ cls := "CallRowsModel", name := "call", desc := "(II)I" } : Jvm.MethodName)) ∈ gU := gU_of 543 (by decide +kernel) rfl
theorem uw_544 : (Jvm.Cond.selects "CallRowsModel" ({ cls := "CallRowsModel", name := "call", desc := "(II)I" } : Jvm.MethodName) ({ cls := "CallRowsModel", name := "call", desc := "(II)I" } : Jvm.MethodName)) ∈ gU := gU_of 544 (by decide +kernel) rfl
theorem uw_545 : (Jvm.Cond.code ({ cls := "CallRowsModel", name := "call", desc := "(II)I" } : Jvm.MethodName) prog_5_method_23_code (4 : Nat) (Option.some Jvm.ClassFile.FieldType.int)) ∈ gU := gU_of 545 (by decide +kernel) rfl
theorem uw_546 : (Jvm.Cond.methodLink "CallRowsModel" (138 : Nat) ({ cls := "CallRowsModel", name := "unprepare", desc := "()V" } : Jvm.MethodName)) ∈ gU := gU_of 546 (by decide +kernel) rfl
theorem uw_548 : (Jvm.Cond.instanceMethod ({ cls := "CallRowsModel", name := "unprepare", desc := "()V" } : Jvm.MethodName)) ∈ gU := gU_of 548 (by decide +kernel) rfl
theorem uw_549 : (Jvm.Cond.code ({ cls := "CallRowsModel", name := "unprepare", desc := "()V" } : Jvm.MethodName) prog_5_method_21_code (1 : Nat) (Option.none : Option Jvm.ClassFile.FieldType)) ∈ gU := gU_of 549 (by decide +kernel) rfl
theorem uw_550 : (Jvm.Cond.methodLink "CallRowsModel" (141 : Nat) ({ cls := "CallRowsModel", name := "isFrom", desc := "(II)Z" } : Jvm.MethodName)) ∈ gU := gU_of 550 (by decide +kernel) rfl
theorem uw_552 : (Jvm.Cond.instanceMethod ({ cls := "CallRowsModel", name := "isFrom", desc := "(II)Z" } : Jvm.MethodName)) ∈ gU := gU_of 552 (by decide +kernel) rfl
theorem uw_553 : (Jvm.Cond.code ({ cls := "CallRowsModel", name := "isFrom", desc := "(II)Z" } : Jvm.MethodName) prog_5_method_22_code (3 : Nat) (Option.some Jvm.ClassFile.FieldType.boolean)) ∈ gU := gU_of 553 (by decide +kernel) rfl
theorem uw_554 : (Jvm.Cond.methodLink "CallRowsModel" (144 : Nat) ({ cls := "CallRowsModel", name := "find", desc := "(II)I" } : Jvm.MethodName)) ∈ gU := gU_of 554 (by decide +kernel) rfl
theorem uw_556 : (Jvm.Cond.instanceMethod ({ cls := "CallRowsModel", name := "find", desc := "(II)I" } : Jvm.MethodName)) ∈ gU := gU_of 556 (by decide +kernel) rfl
theorem uw_557 : (Jvm.Cond.code ({ cls := "CallRowsModel", name := "find", desc := "(II)I" } : Jvm.MethodName) prog_5_method_13_code (6 : Nat) (Option.some Jvm.ClassFile.FieldType.int)) ∈ gU := gU_of 557 (by decide +kernel) rfl
theorem uw_558 : (Jvm.Cond.methodLink "CallRowsLaw" (50 : Nat) ({ cls := "CallRowsModel", name := "actual", desc := "(II)I" } : Jvm.MethodName)) ∈ gU := gU_of 558 (by decide +kernel) rfl
theorem uw_559 : (Jvm.Cond.instanceMethod ({ cls := "CallRowsModel", name := "actual", desc := "(II)I" } : Jvm.MethodName)) ∈ gU := gU_of 559 (by decide +kernel) rfl
theorem uw_560 : (Jvm.Cond.selects "CallRowsModel" ({ cls := "CallRowsModel", name := "actual", desc := "(II)I" } : Jvm.MethodName) ({ cls := "CallRowsModel", name := "actual", desc := "(II)I" } : Jvm.MethodName)) ∈ gU := gU_of 560 (by decide +kernel) rfl
theorem uw_561 : (Jvm.Cond.code ({ cls := "CallRowsModel", name := "actual", desc := "(II)I" } : Jvm.MethodName) prog_5_method_24_code (4 : Nat) (Option.some Jvm.ClassFile.FieldType.int)) ∈ gU := gU_of 561 (by decide +kernel) rfl
theorem uw_562 : (Jvm.Cond.methodLink "CallRowsModel" (147 : Nat) ({ cls := "CallRowsModel", name := "copy", desc := "(J)I" } : Jvm.MethodName)) ∈ gU := gU_of 562 (by decide +kernel) rfl
theorem uw_564 : (Jvm.Cond.instanceMethod ({ cls := "CallRowsModel", name := "copy", desc := "(J)I" } : Jvm.MethodName)) ∈ gU := gU_of 564 (by decide +kernel) rfl
theorem uw_565 : (Jvm.Cond.code ({ cls := "CallRowsModel", name := "copy", desc := "(J)I" } : Jvm.MethodName) prog_5_method_18_code (3 : Nat) (Option.some Jvm.ClassFile.FieldType.int)) ∈ gU := gU_of 565 (by decide +kernel) rfl
theorem uw_566 : (Jvm.Cond.methodLink "CallRowsLaw" (55 : Nat) ({ cls := "CallRowsModel", name := "enter", desc := "()I" } : Jvm.MethodName)) ∈ gU := gU_of 566 (by decide +kernel) rfl
theorem uw_567 : (Jvm.Cond.instanceMethod ({ cls := "CallRowsModel", name := "enter", desc := "()I" } : Jvm.MethodName)) ∈ gU := gU_of 567 (by decide +kernel) rfl
theorem uw_568 : (Jvm.Cond.selects "CallRowsModel" ({ cls := "CallRowsModel", name := "enter", desc := "()I" } : Jvm.MethodName) ({ cls := "CallRowsModel", name := "enter", desc := "()I" } : Jvm.MethodName)) ∈ gU := gU_of 568 (by decide +kernel) rfl
theorem uw_569 : (Jvm.Cond.code ({ cls := "CallRowsModel", name := "enter", desc := "()I" } : Jvm.MethodName) prog_5_method_26_code (6 : Nat) (Option.some Jvm.ClassFile.FieldType.int)) ∈ gU := gU_of 569 (by decide +kernel) rfl
theorem uw_570 : (Jvm.Cond.methodLink "CallRowsModel" (151 : Nat) ({ cls := "CallRowsModel", name := "refusal", desc := "()I" } : Jvm.MethodName)) ∈ gU := gU_of 570 (by decide +kernel) rfl
theorem uw_572 : (Jvm.Cond.instanceMethod ({ cls := "CallRowsModel", name := "refusal", desc := "()I" } : Jvm.MethodName)) ∈ gU := gU_of 572 (by decide +kernel) rfl
theorem uw_573 : (Jvm.Cond.code ({ cls := "CallRowsModel", name := "refusal", desc := "()I" } : Jvm.MethodName) prog_5_method_25_code (4 : Nat) (Option.some Jvm.ClassFile.FieldType.int)) ∈ gU := gU_of 573 (by decide +kernel) rfl
theorem uw_574 : (Jvm.Cond.methodLink "CallRowsLaw" (64 : Nat) ({ cls := "CallRowsModel", name := "leave", desc := "(J)I" } : Jvm.MethodName)) ∈ gU := gU_of 574 (by decide +kernel) rfl
theorem uw_575 : (Jvm.Cond.instanceMethod ({ cls := "CallRowsModel", name := "leave", desc := "(J)I" } : Jvm.MethodName)) ∈ gU := gU_of 575 (by decide +kernel) rfl
theorem uw_576 : (Jvm.Cond.selects "CallRowsModel" ({ cls := "CallRowsModel", name := "leave", desc := "(J)I" } : Jvm.MethodName) ({ cls := "CallRowsModel", name := "leave", desc := "(J)I" } : Jvm.MethodName)) ∈ gU := gU_of 576 (by decide +kernel) rfl
theorem uw_577 : (Jvm.Cond.code ({ cls := "CallRowsModel", name := "leave", desc := "(J)I" } : Jvm.MethodName) prog_5_method_27_code (4 : Nat) (Option.some Jvm.ClassFile.FieldType.int)) ∈ gU := gU_of 577 (by decide +kernel) rfl
theorem uw_578 : (Jvm.Cond.methodLink "CallRowsLaw" (75 : Nat) ({ cls := "CallRowsModel", name := "cancel", desc := "(II)I" } : Jvm.MethodName)) ∈ gU := gU_of 578 (by decide +kernel) rfl
theorem uw_579 : (Jvm.Cond.instanceMethod ({ cls := "CallRowsModel", name := "cancel", desc := "(II)I" } : Jvm.MethodName)) ∈ gU := gU_of 579 (by decide +kernel) rfl
theorem uw_580 : (Jvm.Cond.selects "CallRowsModel" ({ cls := "CallRowsModel", name := "cancel", desc := "(II)I" } : Jvm.MethodName) ({ cls := "CallRowsModel", name := "cancel", desc := "(II)I" } : Jvm.MethodName)) ∈ gU := gU_of 580 (by decide +kernel) rfl
theorem uw_581 : (Jvm.Cond.code ({ cls := "CallRowsModel", name := "cancel", desc := "(II)I" } : Jvm.MethodName) prog_5_method_28_code (7 : Nat) (Option.some Jvm.ClassFile.FieldType.int)) ∈ gU := gU_of 581 (by decide +kernel) rfl
theorem uw_582 : (Jvm.Cond.methodLink "CallRowsLaw" (84 : Nat) ({ cls := "CallRowsModel", name := "state", desc := "(I)I" } : Jvm.MethodName)) ∈ gU := gU_of 582 (by decide +kernel) rfl
theorem uw_583 : (Jvm.Cond.instanceMethod ({ cls := "CallRowsModel", name := "state", desc := "(I)I" } : Jvm.MethodName)) ∈ gU := gU_of 583 (by decide +kernel) rfl
theorem uw_584 : (Jvm.Cond.selects "CallRowsModel" ({ cls := "CallRowsModel", name := "state", desc := "(I)I" } : Jvm.MethodName) ({ cls := "CallRowsModel", name := "state", desc := "(I)I" } : Jvm.MethodName)) ∈ gU := gU_of 584 (by decide +kernel) rfl
theorem uw_585 : (Jvm.Cond.code ({ cls := "CallRowsModel", name := "state", desc := "(I)I" } : Jvm.MethodName) prog_5_method_29_code (2 : Nat) (Option.some Jvm.ClassFile.FieldType.int)) ∈ gU := gU_of 585 (by decide +kernel) rfl
theorem uw_586 : (Jvm.Cond.methodLink "CallRowsLaw" (89 : Nat) ({ cls := "CallRowsModel", name := "returned", desc := "()J" } : Jvm.MethodName)) ∈ gU := gU_of 586 (by decide +kernel) rfl
theorem uw_587 : (Jvm.Cond.instanceMethod ({ cls := "CallRowsModel", name := "returned", desc := "()J" } : Jvm.MethodName)) ∈ gU := gU_of 587 (by decide +kernel) rfl
theorem uw_588 : (Jvm.Cond.selects "CallRowsModel" ({ cls := "CallRowsModel", name := "returned", desc := "()J" } : Jvm.MethodName) ({ cls := "CallRowsModel", name := "returned", desc := "()J" } : Jvm.MethodName)) ∈ gU := gU_of 588 (by decide +kernel) rfl
theorem uw_589 : (Jvm.Cond.code ({ cls := "CallRowsModel", name := "returned", desc := "()J" } : Jvm.MethodName) prog_5_method_30_code (1 : Nat) (Option.some Jvm.ClassFile.FieldType.long)) ∈ gU := gU_of 589 (by decide +kernel) rfl
theorem uw_590 : (Jvm.Cond.methodLink "CallRowsLaw" (93 : Nat) ({ cls := "CallRowsModel", name := "count", desc := "(I)I" } : Jvm.MethodName)) ∈ gU := gU_of 590 (by decide +kernel) rfl
theorem uw_591 : (Jvm.Cond.instanceMethod ({ cls := "CallRowsModel", name := "count", desc := "(I)I" } : Jvm.MethodName)) ∈ gU := gU_of 591 (by decide +kernel) rfl
theorem uw_592 : (Jvm.Cond.selects "CallRowsModel" ({ cls := "CallRowsModel", name := "count", desc := "(I)I" } : Jvm.MethodName) ({ cls := "CallRowsModel", name := "count", desc := "(I)I" } : Jvm.MethodName)) ∈ gU := gU_of 592 (by decide +kernel) rfl
theorem uw_593 : (Jvm.Cond.code ({ cls := "CallRowsModel", name := "count", desc := "(I)I" } : Jvm.MethodName) prog_5_method_31_code (2 : Nat) (Option.some Jvm.ClassFile.FieldType.int)) ∈ gU := gU_of 593 (by decide +kernel) rfl
theorem uw_594 : (Jvm.Cond.constantLong "CallRowsLaw" (32 : Nat) (4294967295 : Int64)) ∈ gU := gU_of 594 (by decide +kernel) rfl
theorem us_R_programOf : Cond.selects "CallRows" ⟨"CallRows", "programOf", "(I)LCallRows$Program;"⟩ ⟨"CallRows", "programOf", "(I)LCallRows$Program;"⟩ ∈ gU := gU_sel (q := (⟨"CallRows", "programOf", "(I)LCallRows$Program;"⟩, 12)) 0 (by decide +kernel) rfl
theorem us_R_directlyWithin : Cond.selects "CallRows" ⟨"CallRows", "directlyWithin", "(LCallRows$Program;I)LCallRows$Program;"⟩ ⟨"CallRows", "directlyWithin", "(LCallRows$Program;I)LCallRows$Program;"⟩ ∈ gU := gU_sel (q := (⟨"CallRows", "directlyWithin", "(LCallRows$Program;I)LCallRows$Program;"⟩, 12)) 1 (by decide +kernel) rfl
theorem us_R_newCell : Cond.selects "CallRows" ⟨"CallRows", "newCell", "(LCallRows$Program;J)I"⟩ ⟨"CallRows", "newCell", "(LCallRows$Program;J)I"⟩ ∈ gU := gU_sel (q := (⟨"CallRows", "newCell", "(LCallRows$Program;J)I"⟩, 12)) 2 (by decide +kernel) rfl
theorem us_R_placeOf : Cond.selects "CallRows" ⟨"CallRows", "placeOf", "(I)I"⟩ ⟨"CallRows", "placeOf", "(I)I"⟩ ∈ gU := gU_sel (q := (⟨"CallRows", "placeOf", "(I)I"⟩, 12)) 3 (by decide +kernel) rfl
theorem us_R_found : Cond.selects "CallRows" ⟨"CallRows", "found", "(LCallRows$Program;I)LCallRows$Program;"⟩ ⟨"CallRows", "found", "(LCallRows$Program;I)LCallRows$Program;"⟩ ∈ gU := gU_sel (q := (⟨"CallRows", "found", "(LCallRows$Program;I)LCallRows$Program;"⟩, 12)) 4 (by decide +kernel) rfl
theorem us_R_commonAround : Cond.selects "CallRows" ⟨"CallRows", "commonAround", "(LCallRows$Program;I)LCallRows$Program;"⟩ ⟨"CallRows", "commonAround", "(LCallRows$Program;I)LCallRows$Program;"⟩ ∈ gU := gU_sel (q := (⟨"CallRows", "commonAround", "(LCallRows$Program;I)LCallRows$Program;"⟩, 12)) 5 (by decide +kernel) rfl
theorem us_R_holderOf : Cond.selects "CallRows" ⟨"CallRows", "holderOf", "(I)LCallRows$Level;"⟩ ⟨"CallRows", "holderOf", "(I)LCallRows$Level;"⟩ ∈ gU := gU_sel (q := (⟨"CallRows", "holderOf", "(I)LCallRows$Level;"⟩, 12)) 6 (by decide +kernel) rfl
theorem us_R_dataOf : Cond.selects "CallRows" ⟨"CallRows", "dataOf", "(LCallRows$Program;)LCallRows$Level;"⟩ ⟨"CallRows", "dataOf", "(LCallRows$Program;)LCallRows$Level;"⟩ ∈ gU := gU_sel (q := (⟨"CallRows", "dataOf", "(LCallRows$Program;)LCallRows$Level;"⟩, 12)) 7 (by decide +kernel) rfl
theorem us_R_bytesOf : Cond.selects "CallRows" ⟨"CallRows", "bytesOf", "(I)I"⟩ ⟨"CallRows", "bytesOf", "(I)I"⟩ ∈ gU := gU_sel (q := (⟨"CallRows", "bytesOf", "(I)I"⟩, 12)) 8 (by decide +kernel) rfl
theorem us_R_giveFirstValues : Cond.selects "CallRows" ⟨"CallRows", "giveFirstValues", "(LCallRows$Program;)V"⟩ ⟨"CallRows", "giveFirstValues", "(LCallRows$Program;)V"⟩ ∈ gU := gU_sel (q := (⟨"CallRows", "giveFirstValues", "(LCallRows$Program;)V"⟩, 12)) 9 (by decide +kernel) rfl
theorem us_R_unusedBits : Cond.selects "CallRows" ⟨"CallRows", "unusedBits", "(I)I"⟩ ⟨"CallRows", "unusedBits", "(I)I"⟩ ∈ gU := gU_sel (q := (⟨"CallRows", "unusedBits", "(I)I"⟩, 12)) 10 (by decide +kernel) rfl
theorem us_R_anyActiveOf : Cond.selects "CallRows" ⟨"CallRows", "anyActiveOf", "(LCallRows$Program;)Z"⟩ ⟨"CallRows", "anyActiveOf", "(LCallRows$Program;)Z"⟩ ∈ gU := gU_sel (q := (⟨"CallRows", "anyActiveOf", "(LCallRows$Program;)Z"⟩, 12)) 11 (by decide +kernel) rfl
theorem us_R_makeFresh : Cond.selects "CallRows" ⟨"CallRows", "makeFresh", "(LCallRows$Program;)I"⟩ ⟨"CallRows", "makeFresh", "(LCallRows$Program;)I"⟩ ∈ gU := gU_sel (q := (⟨"CallRows", "makeFresh", "(LCallRows$Program;)I"⟩, 12)) 12 (by decide +kernel) rfl
theorem us_M_directly : Cond.selects "CallRowsModel" ⟨"CallRowsModel", "directly", "(II)I"⟩ ⟨"CallRowsModel", "directly", "(II)I"⟩ ∈ gU := gU_sel (q := (⟨"CallRowsModel", "directly", "(II)I"⟩, 29)) 14 (by decide +kernel) rfl
theorem us_M_isProgram : Cond.selects "CallRowsModel" ⟨"CallRowsModel", "isProgram", "(I)Z"⟩ ⟨"CallRowsModel", "isProgram", "(I)Z"⟩ ∈ gU := gU_sel (q := (⟨"CallRowsModel", "isProgram", "(I)Z"⟩, 29)) 15 (by decide +kernel) rfl
theorem us_M_place : Cond.selects "CallRowsModel" ⟨"CallRowsModel", "place", "(I)I"⟩ ⟨"CallRowsModel", "place", "(I)I"⟩ ∈ gU := gU_sel (q := (⟨"CallRowsModel", "place", "(I)I"⟩, 29)) 16 (by decide +kernel) rfl
theorem us_M_running : Cond.selects "CallRowsModel" ⟨"CallRowsModel", "running", "()I"⟩ ⟨"CallRowsModel", "running", "()I"⟩ ∈ gU := gU_sel (q := (⟨"CallRowsModel", "running", "()I"⟩, 29)) 17 (by decide +kernel) rfl
theorem us_M_is : Cond.selects "CallRowsModel" ⟨"CallRowsModel", "is", "(II)Z"⟩ ⟨"CallRowsModel", "is", "(II)Z"⟩ ∈ gU := gU_sel (q := (⟨"CallRowsModel", "is", "(II)Z"⟩, 29)) 18 (by decide +kernel) rfl
theorem us_M_liesIn : Cond.selects "CallRowsModel" ⟨"CallRowsModel", "liesIn", "(II)Z"⟩ ⟨"CallRowsModel", "liesIn", "(II)Z"⟩ ∈ gU := gU_sel (q := (⟨"CallRowsModel", "liesIn", "(II)Z"⟩, 29)) 19 (by decide +kernel) rfl
theorem us_M_bytesOf : Cond.selects "CallRowsModel" ⟨"CallRowsModel", "bytesOf", "(I)I"⟩ ⟨"CallRowsModel", "bytesOf", "(I)I"⟩ ∈ gU := gU_sel (q := (⟨"CallRowsModel", "bytesOf", "(I)I"⟩, 29)) 20 (by decide +kernel) rfl
theorem us_M_store : Cond.selects "CallRowsModel" ⟨"CallRowsModel", "store", "(IIJ)V"⟩ ⟨"CallRowsModel", "store", "(IIJ)V"⟩ ∈ gU := gU_sel (q := (⟨"CallRowsModel", "store", "(IIJ)V"⟩, 29)) 21 (by decide +kernel) rfl
theorem us_M_unprepare : Cond.selects "CallRowsModel" ⟨"CallRowsModel", "unprepare", "()V"⟩ ⟨"CallRowsModel", "unprepare", "()V"⟩ ∈ gU := gU_sel (q := (⟨"CallRowsModel", "unprepare", "()V"⟩, 29)) 22 (by decide +kernel) rfl
theorem us_M_isFrom : Cond.selects "CallRowsModel" ⟨"CallRowsModel", "isFrom", "(II)Z"⟩ ⟨"CallRowsModel", "isFrom", "(II)Z"⟩ ∈ gU := gU_sel (q := (⟨"CallRowsModel", "isFrom", "(II)Z"⟩, 29)) 23 (by decide +kernel) rfl
theorem us_M_find : Cond.selects "CallRowsModel" ⟨"CallRowsModel", "find", "(II)I"⟩ ⟨"CallRowsModel", "find", "(II)I"⟩ ∈ gU := gU_sel (q := (⟨"CallRowsModel", "find", "(II)I"⟩, 29)) 24 (by decide +kernel) rfl
theorem us_M_copy : Cond.selects "CallRowsModel" ⟨"CallRowsModel", "copy", "(J)I"⟩ ⟨"CallRowsModel", "copy", "(J)I"⟩ ∈ gU := gU_sel (q := (⟨"CallRowsModel", "copy", "(J)I"⟩, 29)) 25 (by decide +kernel) rfl
theorem us_M_refusal : Cond.selects "CallRowsModel" ⟨"CallRowsModel", "refusal", "()I"⟩ ⟨"CallRowsModel", "refusal", "()I"⟩ ∈ gU := gU_sel (q := (⟨"CallRowsModel", "refusal", "()I"⟩, 29)) 26 (by decide +kernel) rfl
end
section
def TfL : u_T := fun k => match k with
  | 0 => ("CallRows$Level", "below", "LCallRows$Level;", true)
  | 1 => ("CallRows$Level", "above", "LCallRows$Level;", false)
  | 2 => ("CallRows$Level", "program", "LCallRows$Program;", false)
  | 3 => ("CallRows$Level", "earlier", "LCallRows$Level;", false)
  | 4 => ("CallRows$Level", "arguments", "I", false)
  | 5 => ("CallRows$Level", "holders", "[LCallRows$Level;", true)
  | 6 => ("CallRows$Level", "places", "[I", true)
  | 7 => ("CallRows$Level", "bytes", "[I", true)
  | _ => ("CallRows$Level", "values", "[J", true)
def tyL : Nat → FieldType := fun k => match k with
  | 0 => .object "CallRows$Level"
  | 1 => .object "CallRows$Level"
  | 2 => .object "CallRows$Program"
  | 3 => .object "CallRows$Level"
  | 4 => .int
  | 5 => .array (.object "CallRows$Level")
  | 6 => .array .int
  | 7 => .array .int
  | _ => .array .long
theorem iw_L : ∀ w ∈ u_ws "CallRows$Level" TfL 9, w ∈ gU := by
  intro w hw
  obtain ⟨k, hk, rfl⟩ := List.mem_map.mp hw
  have hk := List.mem_range.mp hk
  match k, hk with
  | 0, _ => exact uw_44
  | 1, _ => exact uw_46
  | 2, _ => exact uw_48
  | 3, _ => exact uw_50
  | 4, _ => exact uw_52
  | 5, _ => exact uw_54
  | 6, _ => exact uw_56
  | 7, _ => exact uw_58
  | 8, _ => exact uw_60
  | k + 9, h => exact absurd h (by omega)
def TfP : u_T := fun k => match k with
  | 0 => ("CallRows$Program", "outer", "LCallRows$Program;", true)
  | 1 => ("CallRows$Program", "number", "I", true)
  | 2 => ("CallRows$Program", "name", "I", true)
  | 3 => ("CallRows$Program", "marks", "I", true)
  | 4 => ("CallRows$Program", "formalHow", "[I", true)
  | 5 => ("CallRows$Program", "formalBytes", "[I", true)
  | 6 => ("CallRows$Program", "formals", "I", false)
  | 7 => ("CallRows$Program", "hasData", "Z", false)
  | _ => ("CallRows$Program", "latest", "LCallRows$Level;", false)
def tyP : Nat → FieldType := fun k => match k with
  | 0 => .object "CallRows$Program"
  | 1 => .int
  | 2 => .int
  | 3 => .int
  | 4 => .array .int
  | 5 => .array .int
  | 6 => .int
  | 7 => .boolean
  | _ => .object "CallRows$Level"
theorem iw_P : ∀ w ∈ u_ws "CallRows$Program" TfP 9, w ∈ gU := by
  intro w hw
  obtain ⟨k, hk, rfl⟩ := List.mem_map.mp hw
  have hk := List.mem_range.mp hk
  match k, hk with
  | 0, _ => exact uw_143
  | 1, _ => exact uw_145
  | 2, _ => exact uw_147
  | 3, _ => exact uw_149
  | 4, _ => exact uw_151
  | 5, _ => exact uw_153
  | 6, _ => exact uw_155
  | 7, _ => exact uw_157
  | 8, _ => exact uw_159
  | k + 9, h => exact absurd h (by omega)
def TfR : u_T := fun k => match k with
  | 0 => ("CallRows", "depth", "I", true)
  | 1 => ("CallRows", "programs", "[LCallRows$Program;", true)
  | 2 => ("CallRows", "programCount", "I", false)
  | 3 => ("CallRows", "owners", "[LCallRows$Program;", true)
  | 4 => ("CallRows", "firstValues", "[J", true)
  | 5 => ("CallRows", "cellCount", "I", false)
  | 6 => ("CallRows", "externals", "[I", true)
  | 7 => ("CallRows", "bottom", "LCallRows$Level;", true)
  | 8 => ("CallRows", "top", "LCallRows$Level;", false)
  | 9 => ("CallRows", "active", "I", false)
  | 10 => ("CallRows", "prepared", "LCallRows$Level;", false)
  | _ => ("CallRows", "latestReturn", "J", false)
def tyR : Nat → FieldType := fun k => match k with
  | 0 => .int
  | 1 => .array (.object "CallRows$Program")
  | 2 => .int
  | 3 => .array (.object "CallRows$Program")
  | 4 => .array .long
  | 5 => .int
  | 6 => .array .int
  | 7 => .object "CallRows$Level"
  | 8 => .object "CallRows$Level"
  | 9 => .int
  | 10 => .object "CallRows$Level"
  | _ => .long
theorem iw_R : ∀ w ∈ u_ws "CallRows" TfR 12, w ∈ gU := by
  intro w hw
  obtain ⟨k, hk, rfl⟩ := List.mem_map.mp hw
  have hk := List.mem_range.mp hk
  match k, hk with
  | 0, _ => exact uw_84
  | 1, _ => exact uw_86
  | 2, _ => exact uw_88
  | 3, _ => exact uw_90
  | 4, _ => exact uw_92
  | 5, _ => exact uw_94
  | 6, _ => exact uw_96
  | 7, _ => exact uw_98
  | 8, _ => exact uw_100
  | 9, _ => exact uw_102
  | 10, _ => exact uw_104
  | 11, _ => exact uw_106
  | k + 12, h => exact absurd h (by omega)
def TfM : u_T := fun k => match k with
  | 0 => ("CallRowsModel", "code", "I", false)
  | 1 => ("CallRowsModel", "depth", "I", true)
  | 2 => ("CallRowsModel", "within", "[I", true)
  | 3 => ("CallRowsModel", "names", "[I", true)
  | 4 => ("CallRowsModel", "marks", "[I", true)
  | 5 => ("CallRowsModel", "manyFormals", "[I", true)
  | 6 => ("CallRowsModel", "activeTimes", "[I", true)
  | 7 => ("CallRowsModel", "data", "[Z", true)
  | 8 => ("CallRowsModel", "programs", "I", false)
  | 9 => ("CallRowsModel", "owner", "[I", true)
  | 10 => ("CallRowsModel", "rank", "[I", true)
  | 11 => ("CallRowsModel", "external", "[I", true)
  | 12 => ("CallRowsModel", "first", "[J", true)
  | 13 => ("CallRowsModel", "cells", "I", false)
  | 14 => ("CallRowsModel", "how", "[I", true)
  | 15 => ("CallRowsModel", "bytes", "[I", true)
  | 16 => ("CallRowsModel", "memory", "[J", true)
  | 17 => ("CallRowsModel", "used", "I", false)
  | 18 => ("CallRowsModel", "callOf", "[I", true)
  | 19 => ("CallRowsModel", "baseOf", "[I", true)
  | 20 => ("CallRowsModel", "usedAhead", "[I", true)
  | 21 => ("CallRowsModel", "placeOf", "[I", true)
  | 22 => ("CallRowsModel", "active", "I", false)
  | 23 => ("CallRowsModel", "prepared", "I", false)
  | 24 => ("CallRowsModel", "arguments", "I", false)
  | 25 => ("CallRowsModel", "preparedAhead", "I", false)
  | 26 => ("CallRowsModel", "argument", "[I", true)
  | 27 => ("CallRowsModel", "argumentBytes", "[I", true)
  | _ => ("CallRowsModel", "returns", "J", false)
def tyM : Nat → FieldType := fun k => match k with
  | 0 => .int
  | 1 => .int
  | 2 => .array .int
  | 3 => .array .int
  | 4 => .array .int
  | 5 => .array .int
  | 6 => .array .int
  | 7 => .array .boolean
  | 8 => .int
  | 9 => .array .int
  | 10 => .array .int
  | 11 => .array .int
  | 12 => .array .long
  | 13 => .int
  | 14 => .array .int
  | 15 => .array .int
  | 16 => .array .long
  | 17 => .int
  | 18 => .array .int
  | 19 => .array .int
  | 20 => .array .int
  | 21 => .array .int
  | 22 => .int
  | 23 => .int
  | 24 => .int
  | 25 => .int
  | 26 => .array .int
  | 27 => .array .int
  | _ => .long
theorem iw_M : ∀ w ∈ u_ws "CallRowsModel" TfM 29, w ∈ gU := by
  intro w hw
  obtain ⟨k, hk, rfl⟩ := List.mem_map.mp hw
  have hk := List.mem_range.mp hk
  match k, hk with
  | 0, _ => exact uw_415
  | 1, _ => exact uw_417
  | 2, _ => exact uw_419
  | 3, _ => exact uw_421
  | 4, _ => exact uw_423
  | 5, _ => exact uw_425
  | 6, _ => exact uw_427
  | 7, _ => exact uw_429
  | 8, _ => exact uw_431
  | 9, _ => exact uw_433
  | 10, _ => exact uw_435
  | 11, _ => exact uw_437
  | 12, _ => exact uw_439
  | 13, _ => exact uw_441
  | 14, _ => exact uw_443
  | 15, _ => exact uw_445
  | 16, _ => exact uw_447
  | 17, _ => exact uw_449
  | 18, _ => exact uw_451
  | 19, _ => exact uw_453
  | 20, _ => exact uw_455
  | 21, _ => exact uw_457
  | 22, _ => exact uw_459
  | 23, _ => exact uw_461
  | 24, _ => exact uw_463
  | 25, _ => exact uw_465
  | 26, _ => exact uw_467
  | 27, _ => exact uw_469
  | 28, _ => exact uw_471
  | k + 29, h => exact absurd h (by omega)
abbrev gk_cl : List vw_C := [("CallRows$Level", TfL, 9), ("CallRows$Program", TfP, 9), ("CallRows", TfR, 12), ("CallRowsModel", TfM, 29)]
abbrev gk_kinds : List (List Nat) := [[2, 2, 2, 2, 0, 2, 2, 2, 2], [2, 0, 0, 0, 2, 2, 0, 0, 2], [0, 2, 0, 2, 2, 0, 2, 2, 2, 0, 2, 1], [0, 0, 2, 2, 2, 2, 2, 2, 0, 2, 2, 2, 2, 0, 2, 2, 2, 0, 2, 2, 2, 2, 0, 0, 0, 0, 2, 2, 1]]
abbrev gk_tys (T : Nat → ClassId) : List (ClassId × FieldType) := [(T 0, .int), (T 1, .long), (T 2, .boolean), (T 3, .object "CallRows$Program"), (T 4, .object "CallRows$Level")]
/-! roles of arrays: 0 R.programs, 1 R.owners, 2 R.firstValues, 3 R.externals, 4 P.formalHow, 5 P.formalBytes, 6 L.holders, 7 L.places, 8 L.bytes, 9 L.values, 10 M.within, 11 M.names, 12 M.marks, 13 M.manyFormals, 14 M.activeTimes, 15 M.data, 16 M.owner, 17 M.rank, 18 M.external, 19 M.first, 20 M.how, 21 M.bytes, 22 M.memory, 23 M.callOf, 24 M.baseOf, 25 M.usedAhead, 26 M.placeOf, 27 M.argument, 28 M.argumentBytes, 29 W.out -/
def gk_role : Nat → Nat := fun r => match r with
  | 0 => 3
  | 1 => 3
  | 2 => 1
  | 3 => 0
  | 4 => 0
  | 5 => 0
  | 6 => 4
  | 7 => 0
  | 8 => 0
  | 9 => 1
  | 10 => 0
  | 11 => 0
  | 12 => 0
  | 13 => 0
  | 14 => 0
  | 15 => 2
  | 16 => 0
  | 17 => 0
  | 18 => 0
  | 19 => 1
  | 20 => 0
  | 21 => 0
  | 22 => 1
  | 23 => 0
  | 24 => 0
  | 25 => 0
  | 26 => 0
  | 27 => 0
  | 28 => 0
  | 29 => 1
  | _ => 0
def gk_rep : Nat → Nat := fun r => match r with
  | 0 => 2
  | 1 => 2
  | 2 => 1
  | 3 => 0
  | 4 => 0
  | 5 => 0
  | 6 => 2
  | 7 => 0
  | 8 => 0
  | 9 => 1
  | 10 => 0
  | 11 => 0
  | 12 => 0
  | 13 => 0
  | 14 => 0
  | 15 => 0
  | 16 => 0
  | 17 => 0
  | 18 => 0
  | 19 => 1
  | 20 => 0
  | 21 => 0
  | 22 => 1
  | 23 => 0
  | 24 => 0
  | 25 => 0
  | 26 => 0
  | 27 => 0
  | 28 => 0
  | 29 => 1
  | _ => 0
abbrev cR_init : ByteArray := prog_1_method_1_code
def yR_init : MethodName := ⟨"CallRows", "<init>", "(I)V"⟩
abbrev kR_init : Cond := .code yR_init cR_init 3 (none)
theorem uc_R_init : kR_init ∈ gU := uw_14
abbrev cL_init : ByteArray := prog_2_method_1_code
def yL_init : MethodName := ⟨"CallRows$Level", "<init>", "(LCallRows$Level;)V"⟩
abbrev kL_init : Cond := .code yL_init cL_init 2 (none)
theorem uc_L_init : kL_init ∈ gU := uw_24
abbrev cR_program : ByteArray := prog_1_method_2_code
def yR_program : MethodName := ⟨"CallRows", "program", "(III)I"⟩
abbrev kR_program : Cond := .code yR_program cR_program 6 (some .int)
theorem uc_R_program : kR_program ∈ gU := uw_112
abbrev cR_programOf : ByteArray := prog_1_method_18_code
def yR_programOf : MethodName := ⟨"CallRows", "programOf", "(I)LCallRows$Program;"⟩
abbrev kR_programOf : Cond := .code yR_programOf cR_programOf 2 (some (.object "CallRows$Program"))
theorem uc_R_programOf : kR_programOf ∈ gU := uw_116
abbrev cR_isName : ByteArray := prog_1_method_16_code
def yR_isName : MethodName := ⟨"CallRows", "isName", "(I)Z"⟩
abbrev kR_isName : Cond := .code yR_isName cR_isName 1 (some .boolean)
theorem uc_R_isName : kR_isName ∈ gU := uw_119
abbrev cR_directlyWithin : ByteArray := prog_1_method_21_code
def yR_directlyWithin : MethodName := ⟨"CallRows", "directlyWithin", "(LCallRows$Program;I)LCallRows$Program;"⟩
abbrev kR_directlyWithin : Cond := .code yR_directlyWithin cR_directlyWithin 5 (some (.object "CallRows$Program"))
theorem uc_R_directlyWithin : kR_directlyWithin ∈ gU := uw_123
abbrev cP_init : ByteArray := prog_3_method_1_code
def yP_init : MethodName := ⟨"CallRows$Program", "<init>", "(LCallRows$Program;III)V"⟩
abbrev kP_init : Cond := .code yP_init cP_init 5 (none)
theorem uc_P_init : kP_init ∈ gU := uw_127
abbrev cR_cell : ByteArray := prog_1_method_3_code
def yR_cell : MethodName := ⟨"CallRows", "cell", "(IJ)I"⟩
abbrev kR_cell : Cond := .code yR_cell cR_cell 5 (some .int)
theorem uc_R_cell : kR_cell ∈ gU := uw_165
abbrev cR_newCell : ByteArray := prog_1_method_19_code
def yR_newCell : MethodName := ⟨"CallRows", "newCell", "(LCallRows$Program;J)I"⟩
abbrev kR_newCell : Cond := .code yR_newCell cR_newCell 4 (some .int)
theorem uc_R_newCell : kR_newCell ∈ gU := uw_169
abbrev cR_placeOf : ByteArray := prog_1_method_27_code
def yR_placeOf : MethodName := ⟨"CallRows", "placeOf", "(I)I"⟩
abbrev kR_placeOf : Cond := .code yR_placeOf cR_placeOf 2 (some .int)
theorem uc_R_placeOf : kR_placeOf ∈ gU := uw_173
abbrev cR_formal : ByteArray := prog_1_method_4_code
def yR_formal : MethodName := ⟨"CallRows", "formal", "(III)I"⟩
abbrev kR_formal : Cond := .code yR_formal cR_formal 5 (some .int)
theorem uc_R_formal : kR_formal ∈ gU := uw_177
abbrev cR_call : ByteArray := prog_1_method_5_code
def yR_call : MethodName := ⟨"CallRows", "call", "(II)I"⟩
abbrev kR_call : Cond := .code yR_call cR_call 4 (some .int)
theorem uc_R_call : kR_call ∈ gU := uw_181
abbrev cR_numberOf : ByteArray := prog_1_method_17_code
def yR_numberOf : MethodName := ⟨"CallRows", "numberOf", "(LCallRows$Program;)I"⟩
abbrev kR_numberOf : Cond := .code yR_numberOf cR_numberOf 1 (some .int)
theorem uc_R_numberOf : kR_numberOf ∈ gU := uw_184
abbrev cR_found : ByteArray := prog_1_method_20_code
def yR_found : MethodName := ⟨"CallRows", "found", "(LCallRows$Program;I)LCallRows$Program;"⟩
abbrev kR_found : Cond := .code yR_found cR_found 4 (some (.object "CallRows$Program"))
theorem uc_R_found : kR_found ∈ gU := uw_188
abbrev cR_recursiveAround : ByteArray := prog_1_method_22_code
def yR_recursiveAround : MethodName := ⟨"CallRows", "recursiveAround", "(LCallRows$Program;I)LCallRows$Program;"⟩
abbrev kR_recursiveAround : Cond := .code yR_recursiveAround cR_recursiveAround 3 (some (.object "CallRows$Program"))
theorem uc_R_recursiveAround : kR_recursiveAround ∈ gU := uw_191
abbrev cP_has : ByteArray := prog_3_method_2_code
def yP_has : MethodName := ⟨"CallRows$Program", "has", "(I)Z"⟩
abbrev kP_has : Cond := .code yP_has cP_has 2 (some .boolean)
theorem uc_P_has : kP_has ∈ gU := uw_195
abbrev cR_commonAround : ByteArray := prog_1_method_23_code
def yR_commonAround : MethodName := ⟨"CallRows", "commonAround", "(LCallRows$Program;I)LCallRows$Program;"⟩
abbrev kR_commonAround : Cond := .code yR_commonAround cR_commonAround 5 (some (.object "CallRows$Program"))
theorem uc_R_commonAround : kR_commonAround ∈ gU := uw_199
abbrev cP_isOrLiesIn : ByteArray := prog_3_method_4_code
def yP_isOrLiesIn : MethodName := ⟨"CallRows$Program", "isOrLiesIn", "(LCallRows$Program;)Z"⟩
abbrev kP_isOrLiesIn : Cond := .code yP_isOrLiesIn cP_isOrLiesIn 3 (some .boolean)
theorem uc_P_isOrLiesIn : kP_isOrLiesIn ∈ gU := uw_203
abbrev cR_levelAbove : ByteArray := prog_1_method_24_code
def yR_levelAbove : MethodName := ⟨"CallRows", "levelAbove", "(LCallRows$Level;)LCallRows$Level;"⟩
abbrev kR_levelAbove : Cond := .code yR_levelAbove cR_levelAbove 1 (some (.object "CallRows$Level"))
theorem uc_R_levelAbove : kR_levelAbove ∈ gU := uw_206
abbrev cL_begin : ByteArray := prog_2_method_2_code
def yL_begin : MethodName := ⟨"CallRows$Level", "begin", "(LCallRows$Program;)V"⟩
abbrev kL_begin : Cond := .code yL_begin cL_begin 3 (none)
theorem uc_L_begin : kL_begin ∈ gU := uw_210
abbrev cR_actual : ByteArray := prog_1_method_6_code
def yR_actual : MethodName := ⟨"CallRows", "actual", "(II)I"⟩
abbrev kR_actual : Cond := .code yR_actual cR_actual 5 (some .int)
theorem uc_R_actual : kR_actual ∈ gU := uw_214
abbrev cR_holderOf : ByteArray := prog_1_method_25_code
def yR_holderOf : MethodName := ⟨"CallRows", "holderOf", "(I)LCallRows$Level;"⟩
abbrev kR_holderOf : Cond := .code yR_holderOf cR_holderOf 4 (some (.object "CallRows$Level"))
theorem uc_R_holderOf : kR_holderOf ∈ gU := uw_218
abbrev cR_seesCellsOf : ByteArray := prog_1_method_26_code
def yR_seesCellsOf : MethodName := ⟨"CallRows", "seesCellsOf", "(LCallRows$Program;LCallRows$Program;)Z"⟩
abbrev kR_seesCellsOf : Cond := .code yR_seesCellsOf cR_seesCellsOf 2 (some .boolean)
theorem uc_R_seesCellsOf : kR_seesCellsOf ∈ gU := uw_221
abbrev cR_dataOf : ByteArray := prog_1_method_30_code
def yR_dataOf : MethodName := ⟨"CallRows", "dataOf", "(LCallRows$Program;)LCallRows$Level;"⟩
abbrev kR_dataOf : Cond := .code yR_dataOf cR_dataOf 2 (some (.object "CallRows$Level"))
theorem uc_R_dataOf : kR_dataOf ∈ gU := uw_225
abbrev cR_bytesOf : ByteArray := prog_1_method_28_code
def yR_bytesOf : MethodName := ⟨"CallRows", "bytesOf", "(I)I"⟩
abbrev kR_bytesOf : Cond := .code yR_bytesOf cR_bytesOf 3 (some .int)
theorem uc_R_bytesOf : kR_bytesOf ∈ gU := uw_229
abbrev cL_share : ByteArray := prog_2_method_3_code
def yL_share : MethodName := ⟨"CallRows$Level", "share", "(ILCallRows$Level;II)V"⟩
abbrev kL_share : Cond := .code yL_share cL_share 5 (none)
theorem uc_L_share : kL_share ∈ gU := uw_233
abbrev cL_copy : ByteArray := prog_2_method_4_code
def yL_copy : MethodName := ⟨"CallRows$Level", "copy", "(I)V"⟩
abbrev kL_copy : Cond := .code yL_copy cL_copy 3 (none)
theorem uc_L_copy : kL_copy ∈ gU := uw_237
abbrev cR_enter : ByteArray := prog_1_method_7_code
def yR_enter : MethodName := ⟨"CallRows", "enter", "()I"⟩
abbrev kR_enter : Cond := .code yR_enter cR_enter 3 (some .int)
theorem uc_R_enter : kR_enter ∈ gU := uw_241
abbrev cR_argumentsFit : ByteArray := prog_1_method_32_code
def yR_argumentsFit : MethodName := ⟨"CallRows", "argumentsFit", "(LCallRows$Level;LCallRows$Program;)Z"⟩
abbrev kR_argumentsFit : Cond := .code yR_argumentsFit cR_argumentsFit 3 (some .boolean)
theorem uc_R_argumentsFit : kR_argumentsFit ∈ gU := uw_244
abbrev cR_bytesSuffice : ByteArray := prog_1_method_33_code
def yR_bytesSuffice : MethodName := ⟨"CallRows", "bytesSuffice", "(LCallRows$Level;LCallRows$Program;)Z"⟩
abbrev kR_bytesSuffice : Cond := .code yR_bytesSuffice cR_bytesSuffice 3 (some .boolean)
theorem uc_R_bytesSuffice : kR_bytesSuffice ∈ gU := uw_247
abbrev cR_copyValues : ByteArray := prog_1_method_34_code
def yR_copyValues : MethodName := ⟨"CallRows", "copyValues", "(LCallRows$Level;LCallRows$Program;)V"⟩
abbrev kR_copyValues : Cond := .code yR_copyValues cR_copyValues 3 (none)
theorem uc_R_copyValues : kR_copyValues ∈ gU := uw_250
abbrev cP_keepsData : ByteArray := prog_3_method_3_code
def yP_keepsData : MethodName := ⟨"CallRows$Program", "keepsData", "()Z"⟩
abbrev kP_keepsData : Cond := .code yP_keepsData cP_keepsData 1 (some .boolean)
theorem uc_P_keepsData : kP_keepsData ∈ gU := uw_254
abbrev cR_giveFirstValues : ByteArray := prog_1_method_31_code
def yR_giveFirstValues : MethodName := ⟨"CallRows", "giveFirstValues", "(LCallRows$Program;)V"⟩
abbrev kR_giveFirstValues : Cond := .code yR_giveFirstValues cR_giveFirstValues 4 (none)
theorem uc_R_giveFirstValues : kR_giveFirstValues ∈ gU := uw_259
abbrev cR_set : ByteArray := prog_1_method_8_code
def yR_set : MethodName := ⟨"CallRows", "set", "(IJ)I"⟩
abbrev kR_set : Cond := .code yR_set cR_set 8 (some .int)
theorem uc_R_set : kR_set ∈ gU := uw_263
abbrev cR_unusedBits : ByteArray := prog_1_method_29_code
def yR_unusedBits : MethodName := ⟨"CallRows", "unusedBits", "(I)I"⟩
abbrev kR_unusedBits : Cond := .code yR_unusedBits cR_unusedBits 2 (some .int)
theorem uc_R_unusedBits : kR_unusedBits ∈ gU := uw_268
abbrev cR_leave : ByteArray := prog_1_method_9_code
def yR_leave : MethodName := ⟨"CallRows", "leave", "(J)I"⟩
abbrev kR_leave : Cond := .code yR_leave cR_leave 5 (some .int)
theorem uc_R_leave : kR_leave ∈ gU := uw_272
abbrev cR_cancel : ByteArray := prog_1_method_11_code
def yR_cancel : MethodName := ⟨"CallRows", "cancel", "(II)I"⟩
abbrev kR_cancel : Cond := .code yR_cancel cR_cancel 4 (some .int)
theorem uc_R_cancel : kR_cancel ∈ gU := uw_276
abbrev cR_anyActiveOf : ByteArray := prog_1_method_35_code
def yR_anyActiveOf : MethodName := ⟨"CallRows", "anyActiveOf", "(LCallRows$Program;)Z"⟩
abbrev kR_anyActiveOf : Cond := .code yR_anyActiveOf cR_anyActiveOf 4 (some .boolean)
theorem uc_R_anyActiveOf : kR_anyActiveOf ∈ gU := uw_280
abbrev cR_makeFresh : ByteArray := prog_1_method_36_code
def yR_makeFresh : MethodName := ⟨"CallRows", "makeFresh", "(LCallRows$Program;)I"⟩
abbrev kR_makeFresh : Cond := .code yR_makeFresh cR_makeFresh 5 (some .int)
theorem uc_R_makeFresh : kR_makeFresh ∈ gU := uw_284
abbrev cR_shared : ByteArray := prog_1_method_12_code
def yR_shared : MethodName := ⟨"CallRows", "shared", "(I)I"⟩
abbrev kR_shared : Cond := .code yR_shared cR_shared 2 (some .int)
theorem uc_R_shared : kR_shared ∈ gU := uw_288
abbrev cR_state : ByteArray := prog_1_method_13_code
def yR_state : MethodName := ⟨"CallRows", "state", "(I)I"⟩
abbrev kR_state : Cond := .code yR_state cR_state 3 (some .int)
theorem uc_R_state : kR_state ∈ gU := uw_292
abbrev cR_returned : ByteArray := prog_1_method_14_code
def yR_returned : MethodName := ⟨"CallRows", "returned", "()J"⟩
abbrev kR_returned : Cond := .code yR_returned cR_returned 1 (some .long)
theorem uc_R_returned : kR_returned ∈ gU := uw_296
abbrev cR_count : ByteArray := prog_1_method_15_code
def yR_count : MethodName := ⟨"CallRows", "count", "(I)I"⟩
abbrev kR_count : Cond := .code yR_count cR_count 2 (some .int)
theorem uc_R_count : kR_count ∈ gU := uw_300
abbrev cW_cell : ByteArray := method_2_code
def yW_cell : MethodName := ⟨"CallRowsLaw", "cell", "([II)I"⟩
abbrev kW_cell : Cond := .code yW_cell cW_cell 2 (some .int)
theorem uc_W_cell : kW_cell ∈ gU := uw_303
abbrev cW_get : ByteArray := method_3_code
def yW_get : MethodName := ⟨"CallRowsLaw", "get", "(LCallRows;I[J)I"⟩
abbrev cR_get : ByteArray := prog_1_method_10_code
def yR_get : MethodName := ⟨"CallRows", "get", "(I)J"⟩
abbrev kR_get : Cond := .code yR_get cR_get 4 (some .long)
theorem uc_R_get : kR_get ∈ gU := uw_311
abbrev cM_init : ByteArray := prog_5_method_1_code
def yM_init : MethodName := ⟨"CallRowsModel", "<init>", "(I)V"⟩
abbrev kM_init : Cond := .code yM_init cM_init 2 (none)
theorem uc_M_init : kM_init ∈ gU := uw_382
abbrev cM_thrown : ByteArray := prog_5_method_2_code
def yM_thrown : MethodName := ⟨"CallRowsModel", "thrown", "()I"⟩
abbrev kM_thrown : Cond := .code yM_thrown cM_thrown 1 (some .int)
theorem uc_M_thrown : kM_thrown ∈ gU := uw_478
abbrev cM_program : ByteArray := prog_5_method_7_code
def yM_program : MethodName := ⟨"CallRowsModel", "program", "(III)I"⟩
abbrev kM_program : Cond := .code yM_program cM_program 4 (some .int)
theorem uc_M_program : kM_program ∈ gU := uw_482
abbrev cM_isName : ByteArray := prog_5_method_6_code
def yM_isName : MethodName := ⟨"CallRowsModel", "isName", "(I)Z"⟩
abbrev kM_isName : Cond := .code yM_isName cM_isName 1 (some .boolean)
theorem uc_M_isName : kM_isName ∈ gU := uw_485
abbrev cM_directly : ByteArray := prog_5_method_11_code
def yM_directly : MethodName := ⟨"CallRowsModel", "directly", "(II)I"⟩
abbrev kM_directly : Cond := .code yM_directly cM_directly 5 (some .int)
theorem uc_M_directly : kM_directly ∈ gU := uw_489
abbrev cM_cell : ByteArray := prog_5_method_8_code
def yM_cell : MethodName := ⟨"CallRowsModel", "cell", "(IJ)I"⟩
abbrev kM_cell : Cond := .code yM_cell cM_cell 6 (some .int)
theorem uc_M_cell : kM_cell ∈ gU := uw_493
abbrev cM_isProgram : ByteArray := prog_5_method_3_code
def yM_isProgram : MethodName := ⟨"CallRowsModel", "isProgram", "(I)Z"⟩
abbrev kM_isProgram : Cond := .code yM_isProgram cM_isProgram 2 (some .boolean)
theorem uc_M_isProgram : kM_isProgram ∈ gU := uw_497
abbrev cM_formal : ByteArray := prog_5_method_9_code
def yM_formal : MethodName := ⟨"CallRowsModel", "formal", "(III)I"⟩
abbrev kM_formal : Cond := .code yM_formal cM_formal 5 (some .int)
theorem uc_M_formal : kM_formal ∈ gU := uw_501
abbrev cM_shared : ByteArray := prog_5_method_10_code
def yM_shared : MethodName := ⟨"CallRowsModel", "shared", "(I)I"⟩
abbrev kM_shared : Cond := .code yM_shared cM_shared 3 (some .int)
theorem uc_M_shared : kM_shared ∈ gU := uw_505
abbrev cM_set : ByteArray := prog_5_method_19_code
def yM_set : MethodName := ⟨"CallRowsModel", "set", "(IJ)I"⟩
abbrev kM_set : Cond := .code yM_set cM_set 5 (some .int)
theorem uc_M_set : kM_set ∈ gU := uw_509
abbrev cM_place : ByteArray := prog_5_method_14_code
def yM_place : MethodName := ⟨"CallRowsModel", "place", "(I)I"⟩
abbrev kM_place : Cond := .code yM_place cM_place 7 (some .int)
theorem uc_M_place : kM_place ∈ gU := uw_513
abbrev cM_running : ByteArray := prog_5_method_5_code
def yM_running : MethodName := ⟨"CallRowsModel", "running", "()I"⟩
abbrev kM_running : Cond := .code yM_running cM_running 1 (some .int)
theorem uc_M_running : kM_running ∈ gU := uw_517
abbrev cM_is : ByteArray := prog_5_method_4_code
def yM_is : MethodName := ⟨"CallRowsModel", "is", "(II)Z"⟩
abbrev kM_is : Cond := .code yM_is cM_is 3 (some .boolean)
theorem uc_M_is : kM_is ∈ gU := uw_522
abbrev cM_liesIn : ByteArray := prog_5_method_12_code
def yM_liesIn : MethodName := ⟨"CallRowsModel", "liesIn", "(II)Z"⟩
abbrev kM_liesIn : Cond := .code yM_liesIn cM_liesIn 4 (some .boolean)
theorem uc_M_liesIn : kM_liesIn ∈ gU := uw_526
abbrev cM_bytesOf : ByteArray := prog_5_method_15_code
def yM_bytesOf : MethodName := ⟨"CallRowsModel", "bytesOf", "(I)I"⟩
abbrev kM_bytesOf : Cond := .code yM_bytesOf cM_bytesOf 2 (some .int)
theorem uc_M_bytesOf : kM_bytesOf ∈ gU := uw_530
abbrev cM_store : ByteArray := prog_5_method_17_code
def yM_store : MethodName := ⟨"CallRowsModel", "store", "(IIJ)V"⟩
abbrev kM_store : Cond := .code yM_store cM_store 7 (none)
theorem uc_M_store : kM_store ∈ gU := uw_534
abbrev cM_get : ByteArray := prog_5_method_20_code
def yM_get : MethodName := ⟨"CallRowsModel", "get", "(I)J"⟩
abbrev kM_get : Cond := .code yM_get cM_get 3 (some .long)
theorem uc_M_get : kM_get ∈ gU := uw_538
abbrev cM_signed : ByteArray := prog_5_method_16_code
def yM_signed : MethodName := ⟨"CallRowsModel", "signed", "(JI)J"⟩
abbrev kM_signed : Cond := .code yM_signed cM_signed 3 (some .long)
theorem uc_M_signed : kM_signed ∈ gU := uw_541
abbrev cM_call : ByteArray := prog_5_method_23_code
def yM_call : MethodName := ⟨"CallRowsModel", "call", "(II)I"⟩
abbrev kM_call : Cond := .code yM_call cM_call 4 (some .int)
theorem uc_M_call : kM_call ∈ gU := uw_545
abbrev cM_unprepare : ByteArray := prog_5_method_21_code
def yM_unprepare : MethodName := ⟨"CallRowsModel", "unprepare", "()V"⟩
abbrev kM_unprepare : Cond := .code yM_unprepare cM_unprepare 1 (none)
theorem uc_M_unprepare : kM_unprepare ∈ gU := uw_549
abbrev cM_isFrom : ByteArray := prog_5_method_22_code
def yM_isFrom : MethodName := ⟨"CallRowsModel", "isFrom", "(II)Z"⟩
abbrev kM_isFrom : Cond := .code yM_isFrom cM_isFrom 3 (some .boolean)
theorem uc_M_isFrom : kM_isFrom ∈ gU := uw_553
abbrev cM_find : ByteArray := prog_5_method_13_code
def yM_find : MethodName := ⟨"CallRowsModel", "find", "(II)I"⟩
abbrev kM_find : Cond := .code yM_find cM_find 6 (some .int)
theorem uc_M_find : kM_find ∈ gU := uw_557
abbrev cM_actual : ByteArray := prog_5_method_24_code
def yM_actual : MethodName := ⟨"CallRowsModel", "actual", "(II)I"⟩
abbrev kM_actual : Cond := .code yM_actual cM_actual 4 (some .int)
theorem uc_M_actual : kM_actual ∈ gU := uw_561
abbrev cM_copy : ByteArray := prog_5_method_18_code
def yM_copy : MethodName := ⟨"CallRowsModel", "copy", "(J)I"⟩
abbrev kM_copy : Cond := .code yM_copy cM_copy 3 (some .int)
theorem uc_M_copy : kM_copy ∈ gU := uw_565
abbrev cM_enter : ByteArray := prog_5_method_26_code
def yM_enter : MethodName := ⟨"CallRowsModel", "enter", "()I"⟩
abbrev kM_enter : Cond := .code yM_enter cM_enter 6 (some .int)
theorem uc_M_enter : kM_enter ∈ gU := uw_569
abbrev cM_refusal : ByteArray := prog_5_method_25_code
def yM_refusal : MethodName := ⟨"CallRowsModel", "refusal", "()I"⟩
abbrev kM_refusal : Cond := .code yM_refusal cM_refusal 4 (some .int)
theorem uc_M_refusal : kM_refusal ∈ gU := uw_573
abbrev cM_leave : ByteArray := prog_5_method_27_code
def yM_leave : MethodName := ⟨"CallRowsModel", "leave", "(J)I"⟩
abbrev kM_leave : Cond := .code yM_leave cM_leave 4 (some .int)
theorem uc_M_leave : kM_leave ∈ gU := uw_577
abbrev cM_cancel : ByteArray := prog_5_method_28_code
def yM_cancel : MethodName := ⟨"CallRowsModel", "cancel", "(II)I"⟩
abbrev kM_cancel : Cond := .code yM_cancel cM_cancel 7 (some .int)
theorem uc_M_cancel : kM_cancel ∈ gU := uw_581
abbrev cM_state : ByteArray := prog_5_method_29_code
def yM_state : MethodName := ⟨"CallRowsModel", "state", "(I)I"⟩
abbrev kM_state : Cond := .code yM_state cM_state 2 (some .int)
theorem uc_M_state : kM_state ∈ gU := uw_585
abbrev cM_returned : ByteArray := prog_5_method_30_code
def yM_returned : MethodName := ⟨"CallRowsModel", "returned", "()J"⟩
abbrev kM_returned : Cond := .code yM_returned cM_returned 1 (some .long)
theorem uc_M_returned : kM_returned ∈ gU := uw_589
abbrev cM_count : ByteArray := prog_5_method_31_code
def yM_count : MethodName := ⟨"CallRowsModel", "count", "(I)I"⟩
abbrev kM_count : Cond := .code yM_count cM_count 2 (some .int)
theorem uc_M_count : kM_count ∈ gU := uw_593
end
section
/-! GHOST STATE: what the walked heap holds, by total maps: the shape of an address; fields by (class, place, address); arrays by (role, address, index). A write moves one map at one key. -/
abbrev gs_S : Type := (Nat → Option (Nat ⊕ (Nat × Nat))) × (Nat → Nat → Nat → Int32) × (Nat → Nat → Nat → Int64) × (Nat → Nat → Nat → Option Nat) × (Nat → Nat → Nat → Int32) × (Nat → Nat → Nat → Int64) × (Nat → Nat → Nat → Option Nat)
def g_sh (S : gs_S) (a : Nat) : Option (Nat ⊕ (Nat × Nat)) := S.1 a
def g_i (S : gs_S) (c k a : Nat) : Int32 := S.2.1 c k a
def g_l (S : gs_S) (c k a : Nat) : Int64 := S.2.2.1 c k a
def g_r (S : gs_S) (c k a : Nat) : Option Nat := S.2.2.2.1 c k a
def g_ai (S : gs_S) (r a j : Nat) : Int32 := S.2.2.2.2.1 r a j
def g_al (S : gs_S) (r a j : Nat) : Int64 := S.2.2.2.2.2.1 r a j
def g_ar (S : gs_S) (r a j : Nat) : Option Nat := S.2.2.2.2.2.2 r a j
def u_3 {α : Type} (f : Nat → Nat → Nat → α) (c k a : Nat) (v : α) : Nat → Nat → Nat → α := fun c' k' a' => if c' = c ∧ k' = k ∧ a' = a then v else f c' k' a'
def p_sh (S : gs_S) (a : Nat) (x : Nat ⊕ (Nat × Nat)) : gs_S := (fun b => if b = a then some x else S.1 b, S.2)
def p_i (S : gs_S) (c k a : Nat) (v : Int32) : gs_S := (S.1, u_3 S.2.1 c k a v, S.2.2)
def p_l (S : gs_S) (c k a : Nat) (v : Int64) : gs_S := (S.1, S.2.1, u_3 S.2.2.1 c k a v, S.2.2.2)
def p_r (S : gs_S) (c k a : Nat) (v : Option Nat) : gs_S := (S.1, S.2.1, S.2.2.1, u_3 S.2.2.2.1 c k a v, S.2.2.2.2)
def p_ai (S : gs_S) (r a j : Nat) (v : Int32) : gs_S := (S.1, S.2.1, S.2.2.1, S.2.2.2.1, u_3 S.2.2.2.2.1 r a j v, S.2.2.2.2.2)
def p_al (S : gs_S) (r a j : Nat) (v : Int64) : gs_S := (S.1, S.2.1, S.2.2.1, S.2.2.2.1, S.2.2.2.2.1, u_3 S.2.2.2.2.2.1 r a j v, S.2.2.2.2.2.2)
def p_ar (S : gs_S) (r a j : Nat) (v : Option Nat) : gs_S := (S.1, S.2.1, S.2.2.1, S.2.2.2.1, S.2.2.2.2.1, S.2.2.2.2.2.1, u_3 S.2.2.2.2.2.2 r a j v)
def g_val (S : gs_S) (c a k kd : Nat) : Value := match kd with
  | 0 => .int (g_i S c k a)
  | 1 => .long (g_l S c k a)
  | _ => va_rf (g_r S c k a)
def g_fs (S : gs_S) (c a : Nat) : List Value := (gk_kinds.getD c []).mapIdx (fun k kd => g_val S c a k kd)
def g_arr (S : gs_S) (r a n : Nat) : vp_A := (n, match gk_rep r with
  | 0 => .inl (g_ai S r a)
  | 1 => .inr (.inl (g_al S r a))
  | _ => .inr (.inr (.inr (.inr (g_ar S r a)))))
def g_E (T : Nat → ClassId) (S : gs_S) (a : Nat) : Option va_E := match g_sh S a with
  | none => none
  | some (.inl c) => some (.inr (c, g_fs S c a))
  | some (.inr q) => some (.inl (T (gk_role q.1), g_arr S q.1 a q.2))
abbrev gs_G : Type := va_G × (Nat → ClassId)
def g_P (G : gs_G) (S : gs_S) (H : Heap) : Prop := ∀ (a : Nat) (e : va_E), g_E G.2 S a = some e → va_at G.1 gk_cl (a, e) H
/-- what the tables say: classes, array classes -/
def g_K (G : gs_G) (U : State) : Prop := va_K G.1 gk_cl (gk_tys G.2) U ∧ va_AO "CallRows$Program" U ∧ va_AO "CallRows$Level" U
theorem g_K.moved {G : gs_G} {u U : State} (hvm : u.vm.Alike U.vm) (h : g_K G u) : g_K G U := ⟨va_K.moved hvm h.1, va_AO.moved hvm h.2.1, va_AO.moved hvm h.2.2⟩
/-- the world of a walk that began at s: what may be written is A -/
def g_W (G : gs_G) (A : Nat → Prop) (s : State) (S : gs_S) (H : Heap) (locs : List Loc) : Prop := g_K G s ∧ g_P G S H ∧ (∀ a : Nat, g_sh S a ≠ none → A a) ∧ (∀ q : Nat, s.heap.size ≤ q → A q) ∧ va_S A s.heap H locs
def g_Ls (G : gs_G) (S : gs_S) (n : Nat) : va_W := (List.range n).filterMap (fun a => (g_E G.2 S a).map (fun e => (a, e)))
theorem g_E_sh {T : Nat → ClassId} {S : gs_S} {a : Nat} {e : va_E} (h : g_E T S a = some e) : g_sh S a ≠ none := by
  intro q
  unfold g_E at h
  rw [q] at h
  cases h
theorem g_Ls_mem {G : gs_G} {S : gs_S} {n a : Nat} {e : va_E} : (a, e) ∈ g_Ls G S n ↔ a < n ∧ g_E G.2 S a = some e := by
  unfold g_Ls
  rw [List.mem_filterMap]
  constructor
  · rintro ⟨b, hb, h⟩
    obtain ⟨x, hx, hq⟩ := Option.map_eq_some_iff.mp h
    cases hq
    exact ⟨List.mem_range.mp hb, hx⟩
  · rintro ⟨h1, h2⟩
    exact ⟨a, List.mem_range.mpr h1, by rw [h2]; rfl⟩
theorem g_Ls_lt (G : gs_G) (S : gs_S) (n : Nat) : List.Pairwise (fun p q : Nat × va_E => p.1 < q.1) (g_Ls G S n) := by
  unfold g_Ls
  rw [List.pairwise_filterMap]
  refine List.pairwise_lt_range.imp ?_
  intro a b hab x hx y hy
  obtain ⟨e, -, rfl⟩ := Option.map_eq_some_iff.mp hx
  obtain ⟨e', -, rfl⟩ := Option.map_eq_some_iff.mp hy
  exact hab
theorem g_Ls_inj {G : gs_G} {S : gs_S} {n i j : Nat} {p q : Nat × va_E} (hi : (g_Ls G S n)[i]? = some p) (hj : (g_Ls G S n)[j]? = some q) (h : p.1 = q.1) : i = j := by
  obtain ⟨hi1, hi2⟩ := List.getElem?_eq_some_iff.mp hi
  obtain ⟨hj1, hj2⟩ := List.getElem?_eq_some_iff.mp hj
  have hp := List.pairwise_iff_getElem.mp (g_Ls_lt G S n)
  rcases Nat.lt_trichotomy i j with c | c | c
  · have := hp i j hi1 hj1 c
    rw [hi2, hj2] at this
    omega
  · exact c
  · have := hp j i hj1 hi1 c
    rw [hi2, hj2] at this
    omega
theorem g_Ls_P {G : gs_G} {S : gs_S} {H : Heap} (h : g_P G S H) (n : Nat) : va_P G.1 gk_cl (g_Ls G S n) H := by
  intro k q hk
  obtain ⟨a, e⟩ := q
  exact h a e (g_Ls_mem.mp (List.mem_of_getElem? hk)).2
theorem g_Ls_D {G : gs_G} {S : gs_S} {A : Nat → Prop} (h : ∀ a : Nat, g_sh S a ≠ none → A a) (n : Nat) : va_D A (g_Ls G S n) := by
  refine ⟨fun i j p q hi hj e => g_Ls_inj hi hj e, fun k q hk => ?_⟩
  obtain ⟨a, e⟩ := q
  exact h a (g_E_sh (g_Ls_mem.mp (List.mem_of_getElem? hk)).2)
theorem g_lt {G : gs_G} {S : gs_S} {H : Heap} (h : g_P G S H) {a : Nat} {e : va_E} (he : g_E G.2 S a = some e) : a < H.size := (h a e he).lt
theorem g_at {G : gs_G} {S : gs_S} {H : Heap} (h : g_P G S H) {a : Nat} {e : va_E} (he : g_E G.2 S a = some e) : ∃ k : Nat, (g_Ls G S H.size)[k]? = some (a, e) := List.getElem?_of_mem (g_Ls_mem.mpr ⟨g_lt h he, he⟩)
theorem g_one {G : gs_G} {S : gs_S} {H : Heap} (h : g_P G S H) {a : Nat} {e : va_E} (he : g_E G.2 S a = some e) : va_P G.1 gk_cl [(a, e)] H := by
  intro k q hk
  cases k with
  | zero => cases hk; exact h a e he
  | succ k => simp at hk
/-- one cell has changed -/
theorem g_set {G : gs_G} {S S' : gs_S} {H H1 : Heap} {a k : Nat} {e0 e : va_E} (hP : g_P G S H) (hk : (g_Ls G S H.size)[k]? = some (a, e0)) (ho : ∀ b : Nat, b ≠ a → g_E G.2 S' b = g_E G.2 S b) (he : g_E G.2 S' a = some e) (h : va_P G.1 gk_cl ((g_Ls G S H.size).set k (a, e)) H1) : g_P G S' H1 := by
  have hl := (List.getElem?_eq_some_iff.mp hk).1
  intro b x hx
  by_cases hb : b = a
  · subst hb
    cases he.symm.trans hx
    exact h k _ (List.getElem?_set_self hl)
  · rw [ho b hb] at hx
    obtain ⟨j, hj⟩ := g_at hP hx
    refine h j _ ?_
    rw [List.getElem?_set_ne (fun q => hb ?_)]
    · exact hj
    · subst q
      cases hk.symm.trans hj
      rfl
/-- one cell has come -/
theorem g_new {G : gs_G} {S S' : gs_S} {H H1 : Heap} {a : Nat} {e : va_E} (hP : g_P G S H) (ho : ∀ b : Nat, b ≠ a → g_E G.2 S' b = g_E G.2 S b) (he : g_E G.2 S' a = some e) (h : va_P G.1 gk_cl (g_Ls G S H.size ++ [(a, e)]) H1) : g_P G S' H1 := by
  intro b x hx
  by_cases hb : b = a
  · subst hb
    cases he.symm.trans hx
    refine h (g_Ls G S H.size).length _ ?_
    rw [List.getElem?_append_right (Nat.le_refl _), Nat.sub_self]
    rfl
  · rw [ho b hb] at hx
    obtain ⟨j, hj⟩ := g_at hP hx
    refine h j _ ?_
    rw [List.getElem?_append_left (List.getElem?_eq_some_iff.mp hj).1]
    exact hj
theorem g_fresh {G : gs_G} {S : gs_S} {H : Heap} {A : Nat → Prop} {a : Nat} {e : va_E} (hP : g_P G S H) (h : va_D A (g_Ls G S H.size ++ [(a, e)])) : g_sh S a = none := by
  cases hs : g_sh S a with
  | none => rfl
  | some x =>
    have hx : ∃ e1, g_E G.2 S a = some e1 := by
      unfold g_E
      rw [hs]
      cases x with
      | inl c => exact ⟨_, rfl⟩
      | inr q => exact ⟨_, rfl⟩
    obtain ⟨e1, h1⟩ := hx
    obtain ⟨j, hj⟩ := g_at hP h1
    have hjl := (List.getElem?_eq_some_iff.mp hj).1
    have e2 : (g_Ls G S H.size ++ [(a, e)])[(g_Ls G S H.size).length]? = some (a, e) := by
      rw [List.getElem?_append_right (Nat.le_refl _), Nat.sub_self]
      rfl
    have e3 : (g_Ls G S H.size ++ [(a, e)])[j]? = some (a, e1) := by
      rw [List.getElem?_append_left hjl]
      exact hj
    have := h.1 _ _ _ _ e2 e3 rfl
    omega
theorem g_E_o {T : Nat → ClassId} {S : gs_S} {a c : Nat} (h : g_sh S a = some (.inl c)) : g_E T S a = some (.inr (c, g_fs S c a)) := by
  unfold g_E
  rw [h]
theorem g_E_a {T : Nat → ClassId} {S : gs_S} {a r n : Nat} (h : g_sh S a = some (.inr (r, n))) : g_E T S a = some (.inl (T (gk_role r), g_arr S r a n)) := by
  unfold g_E
  rw [h]
theorem g_fs_at {S : gs_S} {c a k kd : Nat} (h : (gk_kinds.getD c [])[k]? = some kd) : (g_fs S c a)[k]? = some (g_val S c a k kd) := by
  unfold g_fs
  rw [List.getElem?_mapIdx, h]
  rfl
theorem g_fs_len (S : gs_S) (c a : Nat) : (g_fs S c a).length = (gk_kinds.getD c []).length := by
  unfold g_fs
  rw [List.length_mapIdx]
theorem g_fs_set {S S' : gs_S} {c a k kd : Nat} {v : Value} (hkd : (gk_kinds.getD c [])[k]? = some kd) (hv : g_val S' c a k kd = v) (ho : ∀ j d : Nat, j ≠ k → g_val S' c a j d = g_val S c a j d) : g_fs S' c a = (g_fs S c a).set k v := by
  have hl : k < (g_fs S c a).length := by rw [g_fs_len]; exact (List.getElem?_eq_some_iff.mp hkd).1
  refine List.ext_getElem? fun j => ?_
  by_cases hj : j = k
  · subst hj
    rw [List.getElem?_set_self hl, g_fs_at hkd, hv]
  · rw [List.getElem?_set_ne (Ne.symm hj)]
    unfold g_fs
    rw [List.getElem?_mapIdx, List.getElem?_mapIdx]
    cases (gk_kinds.getD c [])[j]? with
    | none => rfl
    | some d => exact congrArg some (ho j d hj)
theorem u_3_s {α : Type} {f : Nat → Nat → Nat → α} {c k a : Nat} {v : α} : u_3 f c k a v c k a = v := by simp [u_3]
theorem u_3_a {α : Type} {f : Nat → Nat → Nat → α} {c k a c' k' a' : Nat} {v : α} (h : a' ≠ a) : u_3 f c k a v c' k' a' = f c' k' a' := by simp [u_3, h]
theorem u_3_k {α : Type} {f : Nat → Nat → Nat → α} {c k a c' k' a' : Nat} {v : α} (h : k' ≠ k) : u_3 f c k a v c' k' a' = f c' k' a' := by simp [u_3, h]
theorem u_3_c {α : Type} {f : Nat → Nat → Nat → α} {c k a c' k' a' : Nat} {v : α} (h : c' ≠ c) : u_3 f c k a v c' k' a' = f c' k' a' := by simp [u_3, h]
/-- two ghost states whose cell at b is the same -/
theorem g_E_same {T : Nat → ClassId} {S S' : gs_S} {b : Nat} (h0 : g_sh S' b = g_sh S b) (h1 : ∀ c k d : Nat, g_val S' c b k d = g_val S c b k d) (h2 : ∀ r n : Nat, g_arr S' r b n = g_arr S r b n) : g_E T S' b = g_E T S b := by
  unfold g_E
  rw [h0]
  cases g_sh S b with
  | none => rfl
  | some x =>
    cases x with
    | inl c => simp [g_fs, h1]
    | inr q => simp [h2]
theorem g_E_pi {T : Nat → ClassId} {S : gs_S} {c k a b : Nat} {v : Int32} (h : b ≠ a) : g_E T (p_i S c k a v) b = g_E T S b := by
  refine g_E_same rfl (fun c' k' d => ?_) (fun r n => rfl)
  match d with
  | 0 => exact congrArg Value.int (u_3_a h)
  | 1 => rfl
  | n + 2 => rfl
theorem g_E_pl {T : Nat → ClassId} {S : gs_S} {c k a b : Nat} {v : Int64} (h : b ≠ a) : g_E T (p_l S c k a v) b = g_E T S b := by
  refine g_E_same rfl (fun c' k' d => ?_) (fun r n => rfl)
  match d with
  | 0 => rfl
  | 1 => exact congrArg Value.long (u_3_a h)
  | n + 2 => rfl
theorem g_E_pr {T : Nat → ClassId} {S : gs_S} {c k a b : Nat} {v : Option Nat} (h : b ≠ a) : g_E T (p_r S c k a v) b = g_E T S b := by
  refine g_E_same rfl (fun c' k' d => ?_) (fun r n => rfl)
  match d with
  | 0 => rfl
  | 1 => rfl
  | n + 2 => exact congrArg va_rf (u_3_a h)
theorem g_E_pai {T : Nat → ClassId} {S : gs_S} {r a j b : Nat} {v : Int32} (h : b ≠ a) : g_E T (p_ai S r a j v) b = g_E T S b := by
  refine g_E_same rfl (fun c' k' d => rfl) (fun r' n => ?_)
  have h1 : g_ai (p_ai S r a j v) r' b = g_ai S r' b := funext fun j' => u_3_k h
  have h2 : g_al (p_ai S r a j v) r' b = g_al S r' b := rfl
  have h3 : g_ar (p_ai S r a j v) r' b = g_ar S r' b := rfl
  simp only [g_arr, h1, h2, h3]
theorem g_E_pal {T : Nat → ClassId} {S : gs_S} {r a j b : Nat} {v : Int64} (h : b ≠ a) : g_E T (p_al S r a j v) b = g_E T S b := by
  refine g_E_same rfl (fun c' k' d => rfl) (fun r' n => ?_)
  have h1 : g_ai (p_al S r a j v) r' b = g_ai S r' b := rfl
  have h2 : g_al (p_al S r a j v) r' b = g_al S r' b := funext fun j' => u_3_k h
  have h3 : g_ar (p_al S r a j v) r' b = g_ar S r' b := rfl
  simp only [g_arr, h1, h2, h3]
theorem g_E_par {T : Nat → ClassId} {S : gs_S} {r a j b : Nat} {v : Option Nat} (h : b ≠ a) : g_E T (p_ar S r a j v) b = g_E T S b := by
  refine g_E_same rfl (fun c' k' d => rfl) (fun r' n => ?_)
  have h1 : g_ai (p_ar S r a j v) r' b = g_ai S r' b := rfl
  have h2 : g_al (p_ar S r a j v) r' b = g_al S r' b := rfl
  have h3 : g_ar (p_ar S r a j v) r' b = g_ar S r' b := funext fun j' => u_3_k h
  simp only [g_arr, h1, h2, h3]
theorem g_fs_pi {S : gs_S} {c k a : Nat} {v : Int32} (hkd : (gk_kinds.getD c [])[k]? = some 0) : g_fs (p_i S c k a v) c a = (g_fs S c a).set k (.int v) := by
  refine g_fs_set hkd (congrArg Value.int u_3_s) (fun j d hj => ?_)
  match d with
  | 0 => exact congrArg Value.int (u_3_k hj)
  | 1 => rfl
  | n + 2 => rfl
theorem g_fs_pl {S : gs_S} {c k a : Nat} {v : Int64} (hkd : (gk_kinds.getD c [])[k]? = some 1) : g_fs (p_l S c k a v) c a = (g_fs S c a).set k (.long v) := by
  refine g_fs_set hkd (congrArg Value.long u_3_s) (fun j d hj => ?_)
  match d with
  | 0 => rfl
  | 1 => exact congrArg Value.long (u_3_k hj)
  | n + 2 => rfl
theorem g_fs_pr {S : gs_S} {c k a : Nat} {v : Option Nat} (hkd : (gk_kinds.getD c [])[k]? = some 2) : g_fs (p_r S c k a v) c a = (g_fs S c a).set k (va_rf v) := by
  refine g_fs_set hkd (congrArg va_rf u_3_s) (fun j d hj => ?_)
  match d with
  | 0 => rfl
  | 1 => rfl
  | n + 2 => exact congrArg va_rf (u_3_k hj)
theorem g_arr_i {S : gs_S} {r a n : Nat} (h : gk_rep r = 0) : g_arr S r a n = (n, .inl (g_ai S r a)) := by simp only [g_arr, h]
theorem g_arr_l {S : gs_S} {r a n : Nat} (h : gk_rep r = 1) : g_arr S r a n = (n, .inr (.inl (g_al S r a))) := by simp only [g_arr, h]
theorem g_arr_r {S : gs_S} {r a n : Nat} (h : gk_rep r = 2) : g_arr S r a n = (n, .inr (.inr (.inr (.inr (g_ar S r a))))) := by simp only [g_arr, h]
theorem g_ai_p {S : gs_S} {r a j : Nat} {v : Int32} : g_ai (p_ai S r a j v) r a = upd (g_ai S r a) j v := by
  funext q
  by_cases h : q = j
  · subst h; simp [g_ai, p_ai, u_3, upd]
  · simp [g_ai, p_ai, u_3, upd, h]
theorem g_al_p {S : gs_S} {r a j : Nat} {v : Int64} : g_al (p_al S r a j v) r a = vp_updL (g_al S r a) j v := by
  funext q
  by_cases h : q = j
  · subst h; simp [g_al, p_al, u_3, vp_updL]
  · simp [g_al, p_al, u_3, vp_updL, h]
theorem g_ar_p {S : gs_S} {r a j : Nat} {v : Option Nat} : g_ar (p_ar S r a j v) r a = va_up (g_ar S r a) j v := by
  funext q
  by_cases h : q = j
  · subst h; simp [g_ar, p_ar, u_3, va_up]
  · simp [g_ar, p_ar, u_3, va_up, h]
/-- a new object: all its fields at their defaults -/
def p_new (S : gs_S) (c a : Nat) : gs_S := (fun b => if b = a then some (.inl c) else S.1 b, fun c' k b => if b = a then 0 else S.2.1 c' k b, fun c' k b => if b = a then 0 else S.2.2.1 c' k b, fun c' k b => if b = a then none else S.2.2.2.1 c' k b, S.2.2.2.2)
/-- a new array of role r, n places -/
def p_newA (S : gs_S) (r n a : Nat) : gs_S := (fun b => if b = a then some (.inr (r, n)) else S.1 b, S.2.1, S.2.2.1, S.2.2.2.1, fun r' b j => if b = a then 0 else S.2.2.2.2.1 r' b j, fun r' b j => if b = a then 0 else S.2.2.2.2.2.1 r' b j, fun r' b j => if b = a then none else S.2.2.2.2.2.2 r' b j)
theorem g_E_new {T : Nat → ClassId} {S : gs_S} {c a b : Nat} (h : b ≠ a) : g_E T (p_new S c a) b = g_E T S b := by
  refine g_E_same (by simp [g_sh, p_new, h]) (fun c' k' d => ?_) (fun r n => rfl)
  match d with
  | 0 => simp [g_val, g_i, p_new, h]
  | 1 => simp [g_val, g_l, p_new, h]
  | n + 2 => simp [g_val, g_r, p_new, h]
theorem g_E_newA {T : Nat → ClassId} {S : gs_S} {r n a b : Nat} (h : b ≠ a) : g_E T (p_newA S r n a) b = g_E T S b := by
  refine g_E_same (by simp [g_sh, p_newA, h]) (fun c' k' d => rfl) (fun r' n' => ?_)
  have h1 : g_ai (p_newA S r n a) r' b = g_ai S r' b := funext fun j => by simp [g_ai, p_newA, h]
  have h2 : g_al (p_newA S r n a) r' b = g_al S r' b := funext fun j => by simp [g_al, p_newA, h]
  have h3 : g_ar (p_newA S r n a) r' b = g_ar S r' b := funext fun j => by simp [g_ar, p_newA, h]
  simp only [g_arr, h1, h2, h3]
theorem g_sh_new {S : gs_S} {c a : Nat} : g_sh (p_new S c a) a = some (.inl c) := by simp [g_sh, p_new]
theorem g_sh_newA {S : gs_S} {r n a : Nat} : g_sh (p_newA S r n a) a = some (.inr (r, n)) := by simp [g_sh, p_newA]
theorem g_sh_newN {S : gs_S} {c a b : Nat} (h : b ≠ a) : g_sh (p_new S c a) b = g_sh S b := by simp [g_sh, p_new, h]
theorem g_sh_newAN {S : gs_S} {r n a b : Nat} (h : b ≠ a) : g_sh (p_newA S r n a) b = g_sh S b := by simp [g_sh, p_newA, h]
def g_dflt (kd : Nat) : Value := match kd with
  | 0 => .int 0
  | 1 => .long 0
  | _ => .null
theorem g_fs_new {S : gs_S} {c a : Nat} : g_fs (p_new S c a) c a = (gk_kinds.getD c []).map g_dflt := by
  refine List.ext_getElem? fun j => ?_
  unfold g_fs
  rw [List.getElem?_mapIdx, List.getElem?_map]
  cases (gk_kinds.getD c [])[j]? with
  | none => rfl
  | some d =>
    match d with
    | 0 => simp [g_val, g_dflt, g_i, p_new]
    | 1 => simp [g_val, g_dflt, g_l, p_new]
    | n + 2 => simp [g_val, g_dflt, g_r, p_new, va_rf]
theorem g_RA {U : State} {a b : ClassId} {ty : FieldType} (h1 : va_RA U a ty) (h2 : va_RA U b ty) : a = b := by
  cases ty with
  | object C =>
    obtain ⟨_, _, -, -, -, f1⟩ := h1
    obtain ⟨_, _, -, -, -, f2⟩ := h2
    exact Option.some.inj (f1.symm.trans f2)
  | _ => exact Option.some.inj (h1.symm.trans h2)
/-- a class as the rows need it: its place in gk_cl, its fields' types, their names apart -/
def g_C (ci : Nat) (C : String) (T : u_T) (N : Nat) (ty : Nat → FieldType) : Prop := gk_cl[ci]? = some (C, T, N) ∧ (∀ k, k < N → parseFieldDescriptor (T k).2.2.1 = some (ty k)) ∧ ∀ a, a < N → ∀ b, b < N → a ≠ b → (T a).2.1 ≠ (T b).2.1
theorem g_nr {n : String} (r : Option Nat) : narrow (.object n) (va_rf r) = va_rf r := by cases r <;> rfl
theorem g_nra {t : FieldType} (r : Option Nat) : narrow (.array t) (va_rf r) = va_rf r := by cases r <;> rfl
section GS
variable {p : Program} {l : Launch} {e : Env} {R : Room} {s : State} {m : MethodId} {args : Array Value} {below : List Frame} {meth : Method} {c : Code} {H : Heap} {locs : List Loc} {cells slots : Nat} {Q : State → Prop}
variable {cc : ByteArray} {pc nL : Nat} {ls : Array Slot} {rest : List Value} {G : gs_G} {A : Nat → Prop} {S : gs_S} {Ts : List Cond} {own : String} {a : Nat}
theorem s_geti (hC : CallFix p m c cc nL s args Ts own) (hW : g_W G A s S H locs) {C : String} {T : u_T} {N : Nat} {ty0 : Nat → FieldType} {ci : Nat} (hc : g_C ci C T N ty0) (hin : ∀ w ∈ u_ws C T N, w ∈ Ts) (k : Nat) (hk : k < N) {index : Nat} (hlink : Cond.fieldLink own index (T k).1 (T k).2.1 (T k).2.2.1 ∈ Ts) (hkd : (gk_kinds.getD ci [])[k]? = some 0) (hsh : g_sh S a = some (.inl ci)) {v : Int32} (hv : g_i S ci k a = v) (hdg : decode cc pc = .ok (.getfield index, 3))
    (kk : W p l e R s m args below meth c H locs cells slots Q (F0 m (pc + 3) ls (.int v :: rest))) : W p l e R s m args below meth c H locs cells slots Q (F0 m pc ls (.ref a :: rest)) := by
  obtain ⟨hx, hb, hml, hown, hts⟩ := hC
  subst hv
  exact va_get hx hb hts hin hown hW.1.1 (g_one hW.2.1 (g_E_o hsh)) 0 rfl hc.1 k hk (hts _ hlink) (fun _ h => h) (g_fs_at hkd) hdg kk
theorem s_getl (hC : CallFix p m c cc nL s args Ts own) (hW : g_W G A s S H locs) {C : String} {T : u_T} {N : Nat} {ty0 : Nat → FieldType} {ci : Nat} (hc : g_C ci C T N ty0) (hin : ∀ w ∈ u_ws C T N, w ∈ Ts) (k : Nat) (hk : k < N) {index : Nat} (hlink : Cond.fieldLink own index (T k).1 (T k).2.1 (T k).2.2.1 ∈ Ts) (hkd : (gk_kinds.getD ci [])[k]? = some 1) (hsh : g_sh S a = some (.inl ci)) {v : Int64} (hv : g_l S ci k a = v) (hdg : decode cc pc = .ok (.getfield index, 3))
    (kk : W p l e R s m args below meth c H locs cells slots Q (F0 m (pc + 3) ls (.long v :: rest))) : W p l e R s m args below meth c H locs cells slots Q (F0 m pc ls (.ref a :: rest)) := by
  obtain ⟨hx, hb, hml, hown, hts⟩ := hC
  subst hv
  exact va_get hx hb hts hin hown hW.1.1 (g_one hW.2.1 (g_E_o hsh)) 0 rfl hc.1 k hk (hts _ hlink) (fun _ h => h) (g_fs_at hkd) hdg kk
theorem s_getr (hC : CallFix p m c cc nL s args Ts own) (hW : g_W G A s S H locs) {C : String} {T : u_T} {N : Nat} {ty0 : Nat → FieldType} {ci : Nat} (hc : g_C ci C T N ty0) (hin : ∀ w ∈ u_ws C T N, w ∈ Ts) (k : Nat) (hk : k < N) {index : Nat} (hlink : Cond.fieldLink own index (T k).1 (T k).2.1 (T k).2.2.1 ∈ Ts) (hkd : (gk_kinds.getD ci [])[k]? = some 2) (hsh : g_sh S a = some (.inl ci)) {v : Option Nat} (hv : g_r S ci k a = v) (hdg : decode cc pc = .ok (.getfield index, 3))
    (kk : W p l e R s m args below meth c H locs cells slots Q (F0 m (pc + 3) ls (va_rf v :: rest))) : W p l e R s m args below meth c H locs cells slots Q (F0 m pc ls (.ref a :: rest)) := by
  obtain ⟨hx, hb, hml, hown, hts⟩ := hC
  subst hv
  exact va_get hx hb hts hin hown hW.1.1 (g_one hW.2.1 (g_E_o hsh)) 0 rfl hc.1 k hk (hts _ hlink) (fun _ h => h) (g_fs_at hkd) hdg kk
/-- a field gets a value: any kind -/
theorem s_put0 (hC : CallFix p m c cc nL s args Ts own) (hW : g_W G A s S H locs) {C : String} {T : u_T} {N : Nat} {ty0 : Nat → FieldType} {ci : Nat} (hc : g_C ci C T N ty0) (hin : ∀ w ∈ u_ws C T N, w ∈ Ts) (k : Nat) (hk : k < N) {index : Nat} (hlink : Cond.fieldLink own index (T k).1 (T k).2.1 (T k).2.2.1 ∈ Ts) (hfin : (T k).2.2.2 = false ∨ ((T k).2.2.2 = true ∧ meth.name = "<init>" ∧ (T k).1 = own)) {v : Value} (hn : narrow (ty0 k) v = v) (hfit : fits (ty0 k) v = true) {kd : Nat} (hkd : (gk_kinds.getD ci [])[k]? = some kd) (hsh : g_sh S a = some (.inl ci)) {S' : gs_S} (ho : ∀ b : Nat, b ≠ a → g_E G.2 S' b = g_E G.2 S b) (hs : ∀ b : Nat, g_sh S' b = g_sh S b) (hf : g_fs S' ci a = (g_fs S ci a).set k v) (hdg : decode cc pc = .ok (.putfield index, 3))
    (kk : ∀ (H1 : Heap) (locs1 : List Loc), g_W G A s S' H1 locs1 → W p l e R s m args below meth c H1 locs1 cells slots Q (F0 m (pc + 3) ls rest)) : W p l e R s m args below meth c H locs cells slots Q (F0 m pc ls (v :: .ref a :: rest)) := by
  obtain ⟨hx, hb, hml, hown, hts⟩ := hC
  obtain ⟨⟨hK, hO⟩, hP, hdom, hA, hS⟩ := hW
  obtain ⟨q, hq⟩ := g_at hP (g_E_o hsh)
  have hlen : k < (g_fs S ci a).length := by rw [g_fs_len]; exact (List.getElem?_eq_some_iff.mp hkd).1
  have he : g_E G.2 S' a = some (.inr (ci, (g_fs S ci a).set k v)) := by rw [g_E_o ((hs a).trans hsh), hf]
  have hgo : ∀ (H1 : Heap) (locs1 : List Loc), va_P G.1 gk_cl ((g_Ls G S H.size).set q (a, .inr (ci, (g_fs S ci a).set k v))) H1 → va_D A ((g_Ls G S H.size).set q (a, .inr (ci, (g_fs S ci a).set k v))) → va_S A s.heap H1 locs1 → W p l e R s m args below meth c H1 locs1 cells slots Q (F0 m (pc + 3) ls rest) := fun H1 locs1 hP1 _ hS1 => kk H1 locs1 ⟨⟨hK, hO⟩, g_set hP hq ho he hP1, fun b h => hdom b (by rw [hs b] at h; exact h), hA, hS1⟩
  rcases hfin with h1 | ⟨h1, h2, h3⟩
  · exact va_put hx hb hts hin ty0 hc.2.1 hc.2.2 hown hK (g_Ls_P hP H.size) (g_Ls_D hdom H.size) hS q hq hc.1 k hk (hts _ hlink) (fun _ h => h) h1 (hc.2.1 k hk) hn hfit hlen hdg hgo
  · exact va_putF hx hb hts hin ty0 hc.2.1 hc.2.2 hown hK (g_Ls_P hP H.size) (g_Ls_D hdom H.size) hS q hq hc.1 k hk (hts _ hlink) (fun _ h => h) h1 h2 h3 (hc.2.1 k hk) hn hfit hlen hdg hgo
theorem s_puti (hC : CallFix p m c cc nL s args Ts own) (hW : g_W G A s S H locs) {C : String} {T : u_T} {N : Nat} {ty0 : Nat → FieldType} {ci : Nat} (hc : g_C ci C T N ty0) (hin : ∀ w ∈ u_ws C T N, w ∈ Ts) (k : Nat) (hk : k < N) {index : Nat} (hlink : Cond.fieldLink own index (T k).1 (T k).2.1 (T k).2.2.1 ∈ Ts) (hfin : (T k).2.2.2 = false ∨ ((T k).2.2.2 = true ∧ meth.name = "<init>" ∧ (T k).1 = own)) {v : Int32} (hn : narrow (ty0 k) (.int v) = .int v) (hfit : fits (ty0 k) (.int v) = true) (hkd : (gk_kinds.getD ci [])[k]? = some 0) (hsh : g_sh S a = some (.inl ci)) (hdg : decode cc pc = .ok (.putfield index, 3))
    (kk : ∀ (H1 : Heap) (locs1 : List Loc), g_W G A s (p_i S ci k a v) H1 locs1 → W p l e R s m args below meth c H1 locs1 cells slots Q (F0 m (pc + 3) ls rest)) : W p l e R s m args below meth c H locs cells slots Q (F0 m pc ls (.int v :: .ref a :: rest)) :=
  s_put0 hC hW hc hin k hk hlink hfin hn hfit hkd hsh (S' := p_i S ci k a v) (fun b hb => g_E_pi hb) (fun b => rfl) (g_fs_pi hkd) hdg kk
theorem s_putl (hC : CallFix p m c cc nL s args Ts own) (hW : g_W G A s S H locs) {C : String} {T : u_T} {N : Nat} {ty0 : Nat → FieldType} {ci : Nat} (hc : g_C ci C T N ty0) (hin : ∀ w ∈ u_ws C T N, w ∈ Ts) (k : Nat) (hk : k < N) {index : Nat} (hlink : Cond.fieldLink own index (T k).1 (T k).2.1 (T k).2.2.1 ∈ Ts) (hfin : (T k).2.2.2 = false ∨ ((T k).2.2.2 = true ∧ meth.name = "<init>" ∧ (T k).1 = own)) {v : Int64} (hn : narrow (ty0 k) (.long v) = .long v) (hfit : fits (ty0 k) (.long v) = true) (hkd : (gk_kinds.getD ci [])[k]? = some 1) (hsh : g_sh S a = some (.inl ci)) (hdg : decode cc pc = .ok (.putfield index, 3))
    (kk : ∀ (H1 : Heap) (locs1 : List Loc), g_W G A s (p_l S ci k a v) H1 locs1 → W p l e R s m args below meth c H1 locs1 cells slots Q (F0 m (pc + 3) ls rest)) : W p l e R s m args below meth c H locs cells slots Q (F0 m pc ls (.long v :: .ref a :: rest)) :=
  s_put0 hC hW hc hin k hk hlink hfin hn hfit hkd hsh (S' := p_l S ci k a v) (fun b hb => g_E_pl hb) (fun b => rfl) (g_fs_pl hkd) hdg kk
theorem s_putr (hC : CallFix p m c cc nL s args Ts own) (hW : g_W G A s S H locs) {C : String} {T : u_T} {N : Nat} {ty0 : Nat → FieldType} {ci : Nat} (hc : g_C ci C T N ty0) (hin : ∀ w ∈ u_ws C T N, w ∈ Ts) (k : Nat) (hk : k < N) {index : Nat} (hlink : Cond.fieldLink own index (T k).1 (T k).2.1 (T k).2.2.1 ∈ Ts) (hfin : (T k).2.2.2 = false ∨ ((T k).2.2.2 = true ∧ meth.name = "<init>" ∧ (T k).1 = own)) {v : Option Nat} (hn : narrow (ty0 k) (va_rf v) = va_rf v) (hfit : fits (ty0 k) (va_rf v) = true) (hkd : (gk_kinds.getD ci [])[k]? = some 2) (hsh : g_sh S a = some (.inl ci)) (hdg : decode cc pc = .ok (.putfield index, 3))
    (kk : ∀ (H1 : Heap) (locs1 : List Loc), g_W G A s (p_r S ci k a v) H1 locs1 → W p l e R s m args below meth c H1 locs1 cells slots Q (F0 m (pc + 3) ls rest)) : W p l e R s m args below meth c H locs cells slots Q (F0 m pc ls (va_rf v :: .ref a :: rest)) :=
  s_put0 hC hW hc hin k hk hlink hfin hn hfit hkd hsh (S' := p_r S ci k a v) (fun b hb => g_E_pr hb) (fun b => rfl) (g_fs_pr hkd) hdg kk
theorem s_iald (hC : CallFix p m c cc nL s args Ts own) (hW : g_W G A s S H locs) {r n : Nat} (hsh : g_sh S a = some (.inr (r, n))) (hrep : gk_rep r = 0) (ht : (gk_tys G.2)[gk_role r]? = some (G.2 (gk_role r), .int)) {i : Int32} (hin : vp_in i n) {v : Int32} (hv : g_ai S r a i.toNatClampNeg = v) (hdg : decode cc pc = .ok (.iaload, 1))
    (kk : W p l e R s m args below meth c H locs cells slots Q (F0 m (pc + 1) ls (.int v :: rest))) : W p l e R s m args below meth c H locs cells slots Q (F0 m pc ls (.int i :: .ref a :: rest)) := by
  obtain ⟨hx, hb, hml, hown, hts⟩ := hC
  subst hv
  have he := g_E_a (T := G.2) hsh
  rw [g_arr_i hrep] at he
  exact va_iald hx hb hW.1.1 (g_one hW.2.1 he) 0 (gk_role r) rfl ht hin hdg kk
theorem s_zald (hC : CallFix p m c cc nL s args Ts own) (hW : g_W G A s S H locs) {r n : Nat} (hsh : g_sh S a = some (.inr (r, n))) (hrep : gk_rep r = 0) (ht : (gk_tys G.2)[gk_role r]? = some (G.2 (gk_role r), .boolean)) {i : Int32} (hin : vp_in i n) {v : Int32} (hv : g_ai S r a i.toNatClampNeg = v) (hdg : decode cc pc = .ok (.baload, 1))
    (kk : W p l e R s m args below meth c H locs cells slots Q (F0 m (pc + 1) ls (.int v :: rest))) : W p l e R s m args below meth c H locs cells slots Q (F0 m pc ls (.int i :: .ref a :: rest)) := by
  obtain ⟨hx, hb, hml, hown, hts⟩ := hC
  subst hv
  have he := g_E_a (T := G.2) hsh
  rw [g_arr_i hrep] at he
  exact va_zald hx hb hW.1.1 (g_one hW.2.1 he) 0 (gk_role r) rfl ht hin hdg kk
theorem s_lald (hC : CallFix p m c cc nL s args Ts own) (hW : g_W G A s S H locs) {r n : Nat} (hsh : g_sh S a = some (.inr (r, n))) (hrep : gk_rep r = 1) (ht : (gk_tys G.2)[gk_role r]? = some (G.2 (gk_role r), .long)) {i : Int32} (hin : vp_in i n) {v : Int64} (hv : g_al S r a i.toNatClampNeg = v) (hdg : decode cc pc = .ok (.laload, 1))
    (kk : W p l e R s m args below meth c H locs cells slots Q (F0 m (pc + 1) ls (.long v :: rest))) : W p l e R s m args below meth c H locs cells slots Q (F0 m pc ls (.int i :: .ref a :: rest)) := by
  obtain ⟨hx, hb, hml, hown, hts⟩ := hC
  subst hv
  have he := g_E_a (T := G.2) hsh
  rw [g_arr_l hrep] at he
  exact va_lald hx hb hW.1.1 (g_one hW.2.1 he) 0 (gk_role r) rfl ht hin hdg kk
theorem s_aald (hC : CallFix p m c cc nL s args Ts own) (hW : g_W G A s S H locs) {r n : Nat} (hsh : g_sh S a = some (.inr (r, n))) (hrep : gk_rep r = 2) {C : String} (ht : (gk_tys G.2)[gk_role r]? = some (G.2 (gk_role r), .object C)) {i : Int32} (hin : vp_in i n) {v : Option Nat} (hv : g_ar S r a i.toNatClampNeg = v) (hdg : decode cc pc = .ok (.aaload, 1))
    (kk : W p l e R s m args below meth c H locs cells slots Q (F0 m (pc + 1) ls (va_rf v :: rest))) : W p l e R s m args below meth c H locs cells slots Q (F0 m pc ls (.int i :: .ref a :: rest)) := by
  obtain ⟨hx, hb, hml, hown, hts⟩ := hC
  subst hv
  have he := g_E_a (T := G.2) hsh
  rw [g_arr_r hrep] at he
  exact va_aldq hx hb hW.1.1 (g_one hW.2.1 he) 0 (gk_role r) rfl ht hin hdg kk
theorem s_iast (hC : CallFix p m c cc nL s args Ts own) (hW : g_W G A s S H locs) {r n : Nat} (hsh : g_sh S a = some (.inr (r, n))) (hrep : gk_rep r = 0) (ht : (gk_tys G.2)[gk_role r]? = some (G.2 (gk_role r), .int)) {i x : Int32} (hin : vp_in i n) (hdg : decode cc pc = .ok (.iastore, 1))
    (kk : ∀ (H1 : Heap) (locs1 : List Loc), g_W G A s (p_ai S r a i.toNatClampNeg x) H1 locs1 → W p l e R s m args below meth c H1 locs1 cells slots Q (F0 m (pc + 1) ls rest)) : W p l e R s m args below meth c H locs cells slots Q (F0 m pc ls (.int x :: .int i :: .ref a :: rest)) := by
  obtain ⟨hx, hb, hml, hown, hts⟩ := hC
  obtain ⟨⟨hK, hO⟩, hP, hdom, hA, hS⟩ := hW
  have he := g_E_a (T := G.2) hsh
  rw [g_arr_i hrep] at he
  obtain ⟨q, hq⟩ := g_at hP he
  refine va_iast hx hb hK (g_Ls_P hP H.size) (g_Ls_D hdom H.size) hS q (gk_role r) hq ht hin hdg (fun H1 locs1 hP1 _ hS1 => kk H1 locs1 ⟨⟨hK, hO⟩, g_set hP hq (fun b hb => g_E_pai hb) ?_ hP1, hdom, hA, hS1⟩)
  rw [g_E_a (show g_sh (p_ai S r a i.toNatClampNeg x) a = some (.inr (r, n)) from hsh), g_arr_i hrep, g_ai_p]
theorem s_zast (hC : CallFix p m c cc nL s args Ts own) (hW : g_W G A s S H locs) {r n : Nat} (hsh : g_sh S a = some (.inr (r, n))) (hrep : gk_rep r = 0) (ht : (gk_tys G.2)[gk_role r]? = some (G.2 (gk_role r), .boolean)) {i x : Int32} (hin : vp_in i n) (hdg : decode cc pc = .ok (.bastore, 1))
    (kk : ∀ (H1 : Heap) (locs1 : List Loc), g_W G A s (p_ai S r a i.toNatClampNeg (vp_nar .boolean x)) H1 locs1 → W p l e R s m args below meth c H1 locs1 cells slots Q (F0 m (pc + 1) ls rest)) : W p l e R s m args below meth c H locs cells slots Q (F0 m pc ls (.int x :: .int i :: .ref a :: rest)) := by
  obtain ⟨hx, hb, hml, hown, hts⟩ := hC
  obtain ⟨⟨hK, hO⟩, hP, hdom, hA, hS⟩ := hW
  have he := g_E_a (T := G.2) hsh
  rw [g_arr_i hrep] at he
  obtain ⟨q, hq⟩ := g_at hP he
  refine va_zast hx hb hK (g_Ls_P hP H.size) (g_Ls_D hdom H.size) hS q (gk_role r) hq ht hin hdg (fun H1 locs1 hP1 _ hS1 => kk H1 locs1 ⟨⟨hK, hO⟩, g_set hP hq (fun b hb => g_E_pai hb) ?_ hP1, hdom, hA, hS1⟩)
  rw [g_E_a (show g_sh (p_ai S r a i.toNatClampNeg (vp_nar .boolean x)) a = some (.inr (r, n)) from hsh), g_arr_i hrep, g_ai_p]
theorem s_last (hC : CallFix p m c cc nL s args Ts own) (hW : g_W G A s S H locs) {r n : Nat} (hsh : g_sh S a = some (.inr (r, n))) (hrep : gk_rep r = 1) (ht : (gk_tys G.2)[gk_role r]? = some (G.2 (gk_role r), .long)) {i : Int32} {x : Int64} (hin : vp_in i n) (hdg : decode cc pc = .ok (.lastore, 1))
    (kk : ∀ (H1 : Heap) (locs1 : List Loc), g_W G A s (p_al S r a i.toNatClampNeg x) H1 locs1 → W p l e R s m args below meth c H1 locs1 cells slots Q (F0 m (pc + 1) ls rest)) : W p l e R s m args below meth c H locs cells slots Q (F0 m pc ls (.long x :: .int i :: .ref a :: rest)) := by
  obtain ⟨hx, hb, hml, hown, hts⟩ := hC
  obtain ⟨⟨hK, hO⟩, hP, hdom, hA, hS⟩ := hW
  have he := g_E_a (T := G.2) hsh
  rw [g_arr_l hrep] at he
  obtain ⟨q, hq⟩ := g_at hP he
  refine va_last hx hb hK (g_Ls_P hP H.size) (g_Ls_D hdom H.size) hS q (gk_role r) hq ht hin hdg (fun H1 locs1 hP1 _ hS1 => kk H1 locs1 ⟨⟨hK, hO⟩, g_set hP hq (fun b hb => g_E_pal hb) ?_ hP1, hdom, hA, hS1⟩)
  rw [g_E_a (show g_sh (p_al S r a i.toNatClampNeg x) a = some (.inr (r, n)) from hsh), g_arr_l hrep, g_al_p]
theorem s_aast (hC : CallFix p m c cc nL s args Ts own) (hW : g_W G A s S H locs) {C : String} {T : u_T} {N : Nat} {ty0 : Nat → FieldType} {ci : Nat} (hc : g_C ci C T N ty0) {r n : Nat} (hsh : g_sh S a = some (.inr (r, n))) (hrep : gk_rep r = 2) (ht : (gk_tys G.2)[gk_role r]? = some (G.2 (gk_role r), .object C)) {i : Int32} {x : Option Nat} (hxo : ∀ b : Nat, x = some b → g_sh S b = some (.inl ci)) (hin : vp_in i n) (hdg : decode cc pc = .ok (.aastore, 1))
    (kk : ∀ (H1 : Heap) (locs1 : List Loc), g_W G A s (p_ar S r a i.toNatClampNeg x) H1 locs1 → W p l e R s m args below meth c H1 locs1 cells slots Q (F0 m (pc + 1) ls rest)) : W p l e R s m args below meth c H locs cells slots Q (F0 m pc ls (va_rf x :: .int i :: .ref a :: rest)) := by
  obtain ⟨hx, hb, hml, hown, hts⟩ := hC
  obtain ⟨⟨hK, hO⟩, hP, hdom, hA, hS⟩ := hW
  have he := g_E_a (T := G.2) hsh
  rw [g_arr_r hrep] at he
  obtain ⟨q, hq⟩ := g_at hP he
  have hfin : ∀ x : Option Nat, g_E G.2 (p_ar S r a i.toNatClampNeg x) a = some (.inl (G.2 (gk_role r), n, .inr (.inr (.inr (.inr (va_up (g_ar S r a) i.toNatClampNeg x)))))) := fun x => by
    rw [g_E_a (show g_sh (p_ar S r a i.toNatClampNeg x) a = some (.inr (r, n)) from hsh), g_arr_r hrep, g_ar_p]
  cases x with
  | none => exact va_astqN hx hb hK (g_Ls_P hP H.size) (g_Ls_D hdom H.size) hS q (gk_role r) hq ht hin hdg (fun H1 locs1 hP1 _ hS1 => kk H1 locs1 ⟨⟨hK, hO⟩, g_set hP hq (fun b hb => g_E_par hb) (hfin none) hP1, hdom, hA, hS1⟩)
  | some b =>
    obtain ⟨q2, hq2⟩ := g_at hP (g_E_o (hxo b rfl))
    exact va_astq hx hb hK (g_Ls_P hP H.size) (g_Ls_D hdom H.size) hS q (gk_role r) q2 ci hq ht hq2 hc.1 hin hdg (fun H1 locs1 hP1 _ hS1 => kk H1 locs1 ⟨⟨hK, hO⟩, g_set hP hq (fun b hb => g_E_par hb) (hfin (some b)) hP1, hdom, hA, hS1⟩)
theorem s_alen (hC : CallFix p m c cc nL s args Ts own) (hW : g_W G A s S H locs) {r n : Nat} (hsh : g_sh S a = some (.inr (r, n))) {ty : FieldType} (ht : (gk_tys G.2)[gk_role r]? = some (G.2 (gk_role r), ty)) {v : Int32} (hv : nI n = v) (hdg : decode cc pc = .ok (.arraylength, 1))
    (kk : W p l e R s m args below meth c H locs cells slots Q (F0 m (pc + 1) ls (.int v :: rest))) : W p l e R s m args below meth c H locs cells slots Q (F0 m pc ls (.ref a :: rest)) := by
  obtain ⟨hx, hb, hml, hown, hts⟩ := hC
  exact va_alen hx hb hW.1.1 (g_one hW.2.1 (g_E_a hsh)) 0 (gk_role r) rfl ht (show Int32.ofNat n = v from hv) hdg kk
theorem g_domN {S S' : gs_S} {A : Nat → Prop} {q : Nat} {e : va_E} {n : Nat} (hdom : ∀ a : Nat, g_sh S a ≠ none → A a) (hD : va_D A (g_Ls G S n ++ [(q, e)])) (h : ∀ b : Nat, b ≠ q → g_sh S' b = g_sh S b) : ∀ a : Nat, g_sh S' a ≠ none → A a := by
  intro b hb
  by_cases hq : b = q
  · subst hq
    refine hD.2 (g_Ls G S n).length (b, e) ?_
    rw [List.getElem?_append_right (Nat.le_refl _), Nat.sub_self]
    rfl
  · rw [h b hq] at hb
    exact hdom b hb
theorem s_new (hC : CallFix p m c cc nL s args Ts own) (hW : g_W G A s S H locs) {C : String} {T : u_T} {N : Nat} {ty0 : Nat → FieldType} {ci : Nat} (hc : g_C ci C T N ty0) (hin : ∀ w ∈ u_ws C T N, w ∈ Ts) {index : Nat} (hlink : Cond.classLink own index C ∈ Ts) (hinst : Cond.instantiable C N ∈ Ts) (hini : Cond.initialized C ∈ Ts) (hfs : ∀ j, j < N → defaultValue (ty0 j) = vp_V ((gk_kinds.getD ci []).map g_dflt) j) (hcells : cells + 1 ≤ R.cells) (hslots : slots + N ≤ R.slots) (hdg : decode cc pc = .ok (.new index, 3))
    (kk : ∀ (q : Nat) (H1 : Heap), g_sh S q = none → g_W G A s (p_new S ci q) H1 locs → W p l e R s m args below meth c H1 locs (cells + 1) (slots + N) Q (F0 m (pc + 3) ls (.ref q :: rest))) : W p l e R s m args below meth c H locs cells slots Q (F0 m pc ls rest) := by
  obtain ⟨hx, hb, hml, hown, hts⟩ := hC
  obtain ⟨⟨hK, hO⟩, hP, hdom, hA, hS⟩ := hW
  refine va_new hx hb hts hin ty0 hc.2.1 hown (hts _ hlink) (hts _ hinst) (hts _ hini) hK (g_Ls_P hP H.size) (g_Ls_D hdom H.size) hS hA hc.1 hfs hcells hslots hdg (fun q H1 hP1 hD1 hS1 => kk q H1 (g_fresh hP hD1) ⟨⟨hK, hO⟩, g_new hP (fun b hb => g_E_new hb) ?_ hP1, g_domN hdom hD1 (fun b hb => g_sh_newN hb), hA, hS1⟩)
  rw [g_E_o g_sh_new, g_fs_new]
theorem g_newTy {t0 : Nat} {ty : FieldType} {cA : ClassId} (hK : va_K G.1 gk_cl (gk_tys G.2) s) (ht : (gk_tys G.2)[t0]? = some (G.2 t0, ty)) (h : va_K G.1 gk_cl (gk_tys G.2 ++ [(cA, ty)]) s) : cA = G.2 t0 := by
  have h1 := (h.2 (gk_tys G.2).length (cA, ty) (by rw [List.getElem?_append_right (Nat.le_refl _), Nat.sub_self]; rfl)).2
  exact g_RA h1 (hK.2 t0 _ ht).2
theorem s_newI (hC : CallFix p m c cc nL s args Ts own) (hW : g_W G A s S H locs) (r : Nat) (hrep : gk_rep r = 0) (ht : (gk_tys G.2)[gk_role r]? = some (G.2 (gk_role r), .int)) (harr : Cond.arrayClass .int ∈ Ts) {i : Int32} {n : Nat} (hi : ¬ i < 0) (hn : i.toNatClampNeg = n) (hbytes : n * componentBytes .int ≤ 536870912) (hcells : cells + 1 ≤ R.cells) (hslots : slots + n ≤ R.slots) (hdg : decode cc pc = .ok (.newarray .int, 2))
    (kk : ∀ (q : Nat) (H1 : Heap), g_sh S q = none → g_W G A s (p_newA S r n q) H1 locs → W p l e R s m args below meth c H1 locs (cells + 1) (slots + n) Q (F0 m (pc + 2) ls (.ref q :: rest))) : W p l e R s m args below meth c H locs cells slots Q (F0 m pc ls (.int i :: rest)) := by
  obtain ⟨hx, hb, hml, hown, hts⟩ := hC
  obtain ⟨⟨hK, hO⟩, hP, hdom, hA, hS⟩ := hW
  refine va_newa (atype := .int) (ty := .int) (a0 := (n, .inl (fun _ => 0))) hx hb (hts _ harr) rfl hK (g_Ls_P hP H.size) (g_Ls_D hdom H.size) hS hA (fun cA => rfl) hi hn hbytes hcells hslots hdg (fun q cA H1 hK1 hP1 hD1 hS1 => ?_)
  have hcA := g_newTy hK ht hK1
  subst hcA
  refine kk q H1 (g_fresh hP hD1) ⟨⟨hK, hO⟩, g_new hP (fun b hb => g_E_newA hb) ?_ hP1, g_domN hdom hD1 (fun b hb => g_sh_newAN hb), hA, hS1⟩
  rw [g_E_a g_sh_newA, g_arr_i hrep]
  rw [show g_ai (p_newA S r n q) r q = fun _ => 0 from funext fun j => by simp [g_ai, p_newA]]
theorem s_newL (hC : CallFix p m c cc nL s args Ts own) (hW : g_W G A s S H locs) (r : Nat) (hrep : gk_rep r = 1) (ht : (gk_tys G.2)[gk_role r]? = some (G.2 (gk_role r), .long)) (harr : Cond.arrayClass .long ∈ Ts) {i : Int32} {n : Nat} (hi : ¬ i < 0) (hn : i.toNatClampNeg = n) (hbytes : n * componentBytes .long ≤ 536870912) (hcells : cells + 1 ≤ R.cells) (hslots : slots + n ≤ R.slots) (hdg : decode cc pc = .ok (.newarray .long, 2))
    (kk : ∀ (q : Nat) (H1 : Heap), g_sh S q = none → g_W G A s (p_newA S r n q) H1 locs → W p l e R s m args below meth c H1 locs (cells + 1) (slots + n) Q (F0 m (pc + 2) ls (.ref q :: rest))) : W p l e R s m args below meth c H locs cells slots Q (F0 m pc ls (.int i :: rest)) := by
  obtain ⟨hx, hb, hml, hown, hts⟩ := hC
  obtain ⟨⟨hK, hO⟩, hP, hdom, hA, hS⟩ := hW
  refine va_newa (atype := .long) (ty := .long) (a0 := (n, .inr (.inl (fun _ => 0)))) hx hb (hts _ harr) rfl hK (g_Ls_P hP H.size) (g_Ls_D hdom H.size) hS hA (fun cA => rfl) hi hn hbytes hcells hslots hdg (fun q cA H1 hK1 hP1 hD1 hS1 => ?_)
  have hcA := g_newTy hK ht hK1
  subst hcA
  refine kk q H1 (g_fresh hP hD1) ⟨⟨hK, hO⟩, g_new hP (fun b hb => g_E_newA hb) ?_ hP1, g_domN hdom hD1 (fun b hb => g_sh_newAN hb), hA, hS1⟩
  rw [g_E_a g_sh_newA, g_arr_l hrep]
  rw [show g_al (p_newA S r n q) r q = fun _ => 0 from funext fun j => by simp [g_al, p_newA]]
theorem s_newZ (hC : CallFix p m c cc nL s args Ts own) (hW : g_W G A s S H locs) (r : Nat) (hrep : gk_rep r = 0) (ht : (gk_tys G.2)[gk_role r]? = some (G.2 (gk_role r), .boolean)) (harr : Cond.arrayClass .boolean ∈ Ts) {i : Int32} {n : Nat} (hi : ¬ i < 0) (hn : i.toNatClampNeg = n) (hbytes : n * componentBytes .boolean ≤ 536870912) (hcells : cells + 1 ≤ R.cells) (hslots : slots + n ≤ R.slots) (hdg : decode cc pc = .ok (.newarray .boolean, 2))
    (kk : ∀ (q : Nat) (H1 : Heap), g_sh S q = none → g_W G A s (p_newA S r n q) H1 locs → W p l e R s m args below meth c H1 locs (cells + 1) (slots + n) Q (F0 m (pc + 2) ls (.ref q :: rest))) : W p l e R s m args below meth c H locs cells slots Q (F0 m pc ls (.int i :: rest)) := by
  obtain ⟨hx, hb, hml, hown, hts⟩ := hC
  obtain ⟨⟨hK, hO⟩, hP, hdom, hA, hS⟩ := hW
  refine va_newa (atype := .boolean) (ty := .boolean) (a0 := (n, .inl (fun _ => 0))) hx hb (hts _ harr) rfl hK (g_Ls_P hP H.size) (g_Ls_D hdom H.size) hS hA (fun cA => rfl) hi hn hbytes hcells hslots hdg (fun q cA H1 hK1 hP1 hD1 hS1 => ?_)
  have hcA := g_newTy hK ht hK1
  subst hcA
  refine kk q H1 (g_fresh hP hD1) ⟨⟨hK, hO⟩, g_new hP (fun b hb => g_E_newA hb) ?_ hP1, g_domN hdom hD1 (fun b hb => g_sh_newAN hb), hA, hS1⟩
  rw [g_E_a g_sh_newA, g_arr_i hrep]
  rw [show g_ai (p_newA S r n q) r q = fun _ => 0 from funext fun j => by simp [g_ai, p_newA]]
theorem s_newQ (hC : CallFix p m c cc nL s args Ts own) (hW : g_W G A s S H locs) (r : Nat) (hrep : gk_rep r = 2) {C : String} (ht : (gk_tys G.2)[gk_role r]? = some (G.2 (gk_role r), .object C)) {index : Nat} (hlink : Cond.classLink own index C ∈ Ts) (hover : va_AO C s) {i : Int32} {n : Nat} (hi : ¬ i < 0) (hn : i.toNatClampNeg = n) (hbytes : n * 4 ≤ 536870912) (hcells : cells + 1 ≤ R.cells) (hslots : slots + n ≤ R.slots) (hdg : decode cc pc = .ok (.anewarray index, 3))
    (kk : ∀ (q : Nat) (H1 : Heap), g_sh S q = none → g_W G A s (p_newA S r n q) H1 locs → W p l e R s m args below meth c H1 locs (cells + 1) (slots + n) Q (F0 m (pc + 3) ls (.ref q :: rest))) : W p l e R s m args below meth c H locs cells slots Q (F0 m pc ls (.int i :: rest)) := by
  obtain ⟨hx, hb, hml, hown, hts⟩ := hC
  obtain ⟨⟨hK, hO⟩, hP, hdom, hA, hS⟩ := hW
  refine va_newq hx hb hown (hts _ hlink) hover hK (g_Ls_P hP H.size) (g_Ls_D hdom H.size) hS hA hi hn hbytes hcells hslots hdg (fun q cA H1 hK1 hP1 hD1 hS1 => ?_)
  have hcA := g_newTy hK ht hK1
  subst hcA
  refine kk q H1 (g_fresh hP hD1) ⟨⟨hK, hO⟩, g_new hP (fun b hb => g_E_newA hb) ?_ hP1, g_domN hdom hD1 (fun b hb => g_sh_newAN hb), hA, hS1⟩
  rw [g_E_a g_sh_newA, g_arr_r hrep]
  rw [show g_ar (p_newA S r n q) r q = fun _ => none from funext fun j => by simp [g_ar, p_newA]]
end GS
/-! contracts over ghost states -/
def g_A (S : gs_S) (sz : Nat) : Nat → Prop := fun q => g_sh S q ≠ none ∨ sz ≤ q
def g_Pc (G : gs_G) (S : gs_S) (sz : Nat) (av : List Value) : Array Value → State → Prop := va_Pc av (fun U => U.heap.size = sz ∧ g_P G S U.heap ∧ g_K G U)
def g_B (G : gs_G) (S : gs_S) (sz : Nat) (S' : gs_S) (t : State) : Prop := g_P G S' t.heap ∧ g_K G t ∧ ∀ a : Nat, g_sh S' a ≠ none → g_A S sz a
def g_Qi (G : gs_G) (S : gs_S) (sz : Nat) (post : Int32 → gs_S → Prop) : Array Value → State → Outcome → State → Prop := va_Qi post (g_B G S sz) (g_A S sz)
def g_Ql (G : gs_G) (S : gs_S) (sz : Nat) (post : Int64 → gs_S → Prop) : Array Value → State → Outcome → State → Prop := va_Ql post (g_B G S sz) (g_A S sz)
def g_Qv (G : gs_G) (S : gs_S) (sz : Nat) (post : gs_S → Prop) : Array Value → State → Outcome → State → Prop := va_Qv post (g_B G S sz) (g_A S sz)
def g_Qq (G : gs_G) (S : gs_S) (sz : Nat) (post : Option Nat → gs_S → Prop) : Array Value → State → Outcome → State → Prop := va_Qq post (g_B G S sz) (g_A S sz)
section GC
variable {p : Program} {l : Launch} {e : Env} {R : Room} {s : State} {m : MethodId} {args : Array Value} {below : List Frame} {meth : Method} {c : Code} {H : Heap} {locs : List Loc} {cells slots : Nat} {Q : State → Prop}
variable {cc : ByteArray} {pc nL mc ms : Nat} {ls : Array Slot} {rest st0 : List Value} {G : gs_G} {A : Nat → Prop} {S S0 : gs_S} {Ts : List Cond} {own : String} {ar : Array Value}
theorem g_preS (hW : g_W G A s S H locs) (av : List Value) : PreS s H (g_Pc G S H.size av) av :=
  ⟨fun a U g mk q => by obtain ⟨q0, q1, qP, qK⟩ := q; exact ⟨q0, q1, qP, g_K.moved (u := U) (U := U.calling g mk a) (Vm.Alike.refl U.vm) qK⟩, fun U hU hWm => ⟨rfl, by rw [hU], by rw [hU]; exact hW.2.1, g_K.moved hWm.alike hW.1⟩⟩
theorem g_preV (hW : g_W G A s S H locs) {b ci : Nat} {C : String} {T : u_T} {N : Nat} {ty0 : Nat → FieldType} (hc : g_C ci C T N ty0) (hsh : g_sh S b = some (.inl ci)) (As : List Value) : PreV s H C b (g_Pc G S H.size (.ref b :: As)) As :=
  ⟨fun a U g mk q => by obtain ⟨q0, q1, qP, qK⟩ := q; exact ⟨q0, q1, qP, g_K.moved (u := U) (U := U.calling g mk a) (Vm.Alike.refl U.vm) qK⟩, va_recv hW.1.1 (g_one hW.2.1 (g_E_o hsh)) hc.1 (q0 := 0) rfl, fun U hU hWm => ⟨rfl, by rw [hU], by rw [hU]; exact hW.2.1, g_K.moved hWm.alike hW.1⟩⟩
theorem g_fr (hW : g_W G A s S H locs) : ∀ q : Nat, g_A S H.size q → A q := fun q h => h.elim (hW.2.2.1 q) (fun h => hW.2.2.2.1 q (Nat.le_trans hW.2.2.2.2.1 h))
theorem s_calli {post : Int32 → gs_S → Prop} (hW : g_W G A s S H locs) (hr : va_Run p l e R s m args below meth c H locs cells slots mc ms (F0 m pc ls st0) rest (g_Qi G S H.size post ar) (g_A S H.size))
    (kk : ∀ (r : Int32) (S' : gs_S) (H1 : Heap) (locs1 : List Loc), post r S' → g_W G A s S' H1 locs1 → W p l e R s m args below meth c H1 locs1 (cells + mc) (slots + ms) Q (F0 m (pc + 3) ls (.int r :: rest))) : W p l e R s m args below meth c H locs cells slots Q (F0 m pc ls st0) := by
  have hf := g_fr hW
  refine va_calli hr hW.2.2.2.2 (fun q _ h => hf q h) hf (fun r u t H1 locs1 ht hvm hp hB hz hk hS => ?_)
  obtain ⟨b1, b2, b3⟩ := hB
  exact kk r u H1 locs1 hp ⟨g_K.moved hvm.symm b2, by rw [ht] at b1; exact b1, fun a h => hf a (b3 a h), hW.2.2.2.1, hS⟩
theorem s_calll {post : Int64 → gs_S → Prop} (hW : g_W G A s S H locs) (hr : va_Run p l e R s m args below meth c H locs cells slots mc ms (F0 m pc ls st0) rest (g_Ql G S H.size post ar) (g_A S H.size))
    (kk : ∀ (r : Int64) (S' : gs_S) (H1 : Heap) (locs1 : List Loc), post r S' → g_W G A s S' H1 locs1 → W p l e R s m args below meth c H1 locs1 (cells + mc) (slots + ms) Q (F0 m (pc + 3) ls (.long r :: rest))) : W p l e R s m args below meth c H locs cells slots Q (F0 m pc ls st0) := by
  have hf := g_fr hW
  refine va_calll hr hW.2.2.2.2 (fun q _ h => hf q h) hf (fun r u t H1 locs1 ht hvm hp hB hz hk hS => ?_)
  obtain ⟨b1, b2, b3⟩ := hB
  exact kk r u H1 locs1 hp ⟨g_K.moved hvm.symm b2, by rw [ht] at b1; exact b1, fun a h => hf a (b3 a h), hW.2.2.2.1, hS⟩
theorem s_callv {post : gs_S → Prop} (hW : g_W G A s S H locs) (hr : va_Run p l e R s m args below meth c H locs cells slots mc ms (F0 m pc ls st0) rest (g_Qv G S H.size post ar) (g_A S H.size))
    (kk : ∀ (S' : gs_S) (H1 : Heap) (locs1 : List Loc), post S' → g_W G A s S' H1 locs1 → W p l e R s m args below meth c H1 locs1 (cells + mc) (slots + ms) Q (F0 m (pc + 3) ls rest)) : W p l e R s m args below meth c H locs cells slots Q (F0 m pc ls st0) := by
  have hf := g_fr hW
  refine va_callv hr hW.2.2.2.2 (fun q _ h => hf q h) hf (fun u t H1 locs1 ht hvm hp hB hz hk hS => ?_)
  obtain ⟨b1, b2, b3⟩ := hB
  exact kk u H1 locs1 hp ⟨g_K.moved hvm.symm b2, by rw [ht] at b1; exact b1, fun a h => hf a (b3 a h), hW.2.2.2.1, hS⟩
theorem s_callq {post : Option Nat → gs_S → Prop} (hW : g_W G A s S H locs) (hr : va_Run p l e R s m args below meth c H locs cells slots mc ms (F0 m pc ls st0) rest (g_Qq G S H.size post ar) (g_A S H.size))
    (kk : ∀ (r : Option Nat) (S' : gs_S) (H1 : Heap) (locs1 : List Loc), post r S' → g_W G A s S' H1 locs1 → W p l e R s m args below meth c H1 locs1 (cells + mc) (slots + ms) Q (F0 m (pc + 3) ls (va_rf r :: rest))) : W p l e R s m args below meth c H locs cells slots Q (F0 m pc ls st0) := by
  have hf := g_fr hW
  refine va_callq hr hW.2.2.2.2 (fun q _ h => hf q h) hf (fun r u t H1 locs1 ht hvm hp hB hz hk hS => ?_)
  obtain ⟨b1, b2, b3⟩ := hB
  exact kk r u H1 locs1 hp ⟨g_K.moved hvm.symm b2, by rw [ht] at b1; exact b1, fun a h => hf a (b3 a h), hW.2.2.2.1, hS⟩
theorem s_iret {post : Int32 → gs_S → Prop} {v : Int32} {ty : FieldType} (hC : CallFix p m c cc nL s args Ts own) (hr : meth.sig.returnType = some ty) (hlocks : meth.locks = false) (hn : narrow ty (.int v) = .int v) (hW : g_W G (g_A S0 s.heap.size) s S H locs) (hdg : decode cc pc = .ok (.ireturn, 1)) (hp : post v S) :
    W p l e R s m args below meth c H locs cells slots (MQ below (g_Qi G S0 s.heap.size post) args s cells slots (g_A S0 s.heap.size)) (F0 m pc ls [.int v]) :=
  W.zret (hlocks := hlocks) hC.1 hC.2.1 hr hn (fun t ht hWm => ⟨⟨v, S, rfl, hp, by rw [ht]; exact hW.2.1, g_K.moved hWm.alike hW.1, hW.2.2.1⟩, hW.2.2.2.2.F ht⟩) hW.2.2.2.2.2.2 hdg
theorem s_lret {post : Int64 → gs_S → Prop} {v : Int64} (hC : CallFix p m c cc nL s args Ts own) (hr : meth.sig.returnType = some .long) (hlocks : meth.locks = false) (hW : g_W G (g_A S0 s.heap.size) s S H locs) (hdg : decode cc pc = .ok (.lreturn, 1)) (hp : post v S) :
    W p l e R s m args below meth c H locs cells slots (MQ below (g_Ql G S0 s.heap.size post) args s cells slots (g_A S0 s.heap.size)) (F0 m pc ls [.long v]) :=
  W.lret (hlocks := hlocks) hC.1 hC.2.1 hr (fun t ht hWm => ⟨⟨v, S, rfl, hp, by rw [ht]; exact hW.2.1, g_K.moved hWm.alike hW.1, hW.2.2.1⟩, hW.2.2.2.2.F ht⟩) hW.2.2.2.2.2.2 hdg
theorem s_vret {post : gs_S → Prop} (hC : CallFix p m c cc nL s args Ts own) (hr : meth.sig.returnType = none) (hlocks : meth.locks = false) (hW : g_W G (g_A S0 s.heap.size) s S H locs) (hdg : decode cc pc = .ok (.return_, 1)) (hp : post S) :
    W p l e R s m args below meth c H locs cells slots (MQ below (g_Qv G S0 s.heap.size post) args s cells slots (g_A S0 s.heap.size)) (F0 m pc ls []) :=
  W.vret (hlocks := hlocks) hC.1 hC.2.1 hr (fun t ht hWm => ⟨⟨S, rfl, hp, by rw [ht]; exact hW.2.1, g_K.moved hWm.alike hW.1, hW.2.2.1⟩, hW.2.2.2.2.F ht⟩) hW.2.2.2.2.2.2 hdg
theorem s_aret {post : Option Nat → gs_S → Prop} {v : Option Nat} {n : String} (hC : CallFix p m c cc nL s args Ts own) (hr : meth.sig.returnType = some (.object n)) (hlocks : meth.locks = false) (hW : g_W G (g_A S0 s.heap.size) s S H locs) (hdg : decode cc pc = .ok (.areturn, 1)) (hp : post v S) :
    W p l e R s m args below meth c H locs cells slots (MQ below (g_Qq G S0 s.heap.size post) args s cells slots (g_A S0 s.heap.size)) (F0 m pc ls [va_rf v]) :=
  W.aret (hlocks := hlocks) hC.1 hC.2.1 hr (Or.inl ⟨n, rfl⟩) (va_rf_or v) (fun t ht hWm => ⟨⟨v, S, rfl, hp, by rw [ht]; exact hW.2.1, g_K.moved hWm.alike hW.1, hW.2.2.1⟩, hW.2.2.2.2.F ht⟩) hW.2.2.2.2.2.2 hdg
/-- a method's head -/
theorem s_head {y : MethodName} {rm : Room} {av : List Value} {sz : Nat} {Qc : Array Value → State → Outcome → State → Prop} {maxL : Nat} {ret : Option FieldType} (hy : plainName y.cls = true) (hlen : (lg_sl av).length ≤ maxL)
    (body : ∀ (p : Program) (e : Env) (s : State) (m : MethodId) (below : List Frame) (meth : Method) (c : Code) (ls : Array Slot), s.heap.size = sz → CallFix p m c cc maxL s av.toArray gU y.cls → meth.sig.returnType = ret → meth.locks = false → meth.name = y.name → lv_has ls maxL (lv_args 0 av) → g_W G (g_A S s.heap.size) s S s.heap [] →
      W p l e rm s m av.toArray below meth c s.heap [] 0 0 (MQ below Qc av.toArray s mc ms (g_A S sz)) (F0 m 0 ls [])) : Met l y (Cond.code y cc maxL ret :: gU) rm (g_Pc G S sz av) Qc mc ms (g_A S sz) := by
  refine Met.ofW (cc := cc) (maxL := maxL) (ret := ret) hy rfl ?_
  intro p e s m args below meth c s₁ B hml hv
  obtain ⟨rfl, hsz, hP, hK⟩ := hv
  have hl := lv_entry av (n := maxL) hlen
  rw [lg_entry_eq]
  generalize (lg_sl av ++ List.replicate (maxL - (lg_sl av).length) Slot.unset).toArray = ls at hl ⊢
  exact body p e s m below meth c ls hsz ⟨B.exec, B.bytes, hml, findClass_of_methodNamed B.named, fun w h => atoms_spec (ws := Cond.code y cc maxL ret :: gU) B.pre w (List.mem_cons_of_mem _ h)⟩ B.returns B.notSynchronized (name_of_methodNamed B.named B.method).1 hl ⟨hK, hP, fun a h => Or.inl h, fun q h => Or.inr h, va_S.rf⟩
theorem gU_goodL {ws : List Cond} (h : ∀ w ∈ ws, w ∈ gU) : GoodIn gU ws := fun w hw => ⟨h w hw, good_of_word (List.mem_filter.mp (h w hw)).2⟩
/-- a call of an instance method of ours, private ones too -/
theorem s_runV {y : MethodName} {bytes : ByteArray} {maxL n index : Nat} {ret : Option FieldType} {rm : Room} {Pc : Array Value → State → Prop} {Qc : Array Value → State → Outcome → State → Prop} {free : Addr → Prop} {C : String} {b : Addr} {As : List Value} (hC : CallFix p m c cc nL s args gU own) (hM : Met l y (Cond.code y bytes maxL ret :: gU) rm Pc Qc mc ms free) (hk : Cond.code y bytes maxL ret ∈ gU) (h1 : Cond.methodLink own index y ∈ gU) (h2 : Cond.instanceMethod y ∈ gU) (h3 : Cond.selects C y y ∈ gU) (h4 : Cond.initialized C ∈ gU) (hrc : rm.cells = mc) (hrs : rm.slots = ms)
    (hd : y.cls = C ∧ y.cls ≠ "java/lang/invoke/MethodHandle" ∧ y.cls ≠ "java/lang/invoke/VarHandle" ∧ (parseMethodDescriptor y.desc).map (fun d => d.parameters.length) = some n) (hR : rm.frames + 1 ≤ R.frames ∧ 8 + (maxL + 11) + rm.locals ≤ R.locals) (hp : PreV s H C b Pc As) (hn : As.length = n) (hsize : ls.size = nL) (hstack : st0 = As.reverse ++ .ref b :: rest) (hW : (rest.map fun v => v.category).sum ≤ 8) (hdg : decode cc pc = .ok (.invokevirtual index, 3)) (hf : cells + mc ≤ R.cells ∧ slots + ms ≤ R.slots) :
    va_Run p l e R s m args below meth c H locs cells slots mc ms (F0 m pc ls st0) rest (Qc (Value.ref b :: As).toArray) free := by
  refine va_runV hC hM (cwV n hC.2.2.2.2 (gU_goodL ?_) rfl hrc hrs hd hR) hp rfl hn hsize hstack (lv_room hW) hdg hf
  intro w hw
  unfold wsV at hw
  simp only [List.mem_append, List.mem_cons, List.not_mem_nil, or_false] at hw
  rcases hw with (rfl | rfl | rfl | rfl) | rfl | hw
  · exact h1
  · exact h2
  · exact h3
  · exact h4
  · exact hk
  · exact hw
/-- a call of a static method of ours -/
theorem s_runS {y : MethodName} {bytes : ByteArray} {maxL n index : Nat} {ret : Option FieldType} {rm : Room} {Pc : Array Value → State → Prop} {Qc : Array Value → State → Outcome → State → Prop} {free : Addr → Prop} {As : List Value} (hC : CallFix p m c cc nL s args gU own) (hM : Met l y (Cond.code y bytes maxL ret :: gU) rm Pc Qc mc ms free) (hk : Cond.code y bytes maxL ret ∈ gU) (h1 : Cond.methodLink own index y ∈ gU) (h2 : Cond.static y ∈ gU) (h4 : Cond.initialized y.cls ∈ gU) (hrc : rm.cells = mc) (hrs : rm.slots = ms)
    (hd : y.cls ≠ "java/lang/invoke/MethodHandle" ∧ y.cls ≠ "java/lang/invoke/VarHandle" ∧ (parseMethodDescriptor y.desc).map (fun d => d.parameters.length) = some n) (hR : rm.frames + 1 ≤ R.frames ∧ 8 + (maxL + 11) + rm.locals ≤ R.locals) (hp : PreS s H Pc As) (hn : As.length = n) (hsize : ls.size = nL) (hstack : st0 = As.reverse ++ rest) (hW : (rest.map fun v => v.category).sum ≤ 8) (hdg : decode cc pc = .ok (.invokestatic index, 3)) (hf : cells + mc ≤ R.cells ∧ slots + ms ≤ R.slots) :
    va_Run p l e R s m args below meth c H locs cells slots mc ms (F0 m pc ls st0) rest (Qc As.toArray) free := by
  refine va_runS hC hM (va_cwS n hC.2.2.2.2 (gU_goodL ?_) rfl hrc hrs hd hR) hp rfl hn hsize hstack (lv_room hW) hdg hf
  intro w hw
  unfold va_wsS at hw
  simp only [List.mem_append, List.mem_cons, List.not_mem_nil, or_false] at hw
  rcases hw with (rfl | rfl | rfl) | rfl | hw
  · exact h1
  · exact h2
  · exact h4
  · exact hk
  · exact hw
/-- a call of a constructor of ours -/
theorem s_runI {y : MethodName} {bytes : ByteArray} {maxL n index : Nat} {rm : Room} {Pc : Array Value → State → Prop} {Qc : Array Value → State → Outcome → State → Prop} {free : Addr → Prop} {b : Addr} {As : List Value} (hC : CallFix p m c cc nL s args gU own) (hM : Met l y (Cond.code y bytes maxL none :: gU) rm Pc Qc mc ms free) (hk : Cond.code y bytes maxL none ∈ gU) (h1 : Cond.methodLink own index y ∈ gU) (h2 : Cond.instanceMethod y ∈ gU) (h4 : Cond.initialized y.cls ∈ gU) (hrc : rm.cells = mc) (hrs : rm.slots = ms) (hy1 : y.name = "<init>")
    (hd : y.cls ≠ "java/lang/invoke/MethodHandle" ∧ y.cls ≠ "java/lang/invoke/VarHandle" ∧ (parseMethodDescriptor y.desc).map (fun d => d.parameters.length) = some n) (hR : rm.frames + 1 ≤ R.frames ∧ 8 + (maxL + 11) + rm.locals ≤ R.locals) (hp : PreS s H Pc (.ref b :: As)) (hn : As.length = n) (hsize : ls.size = nL) (hstack : st0 = As.reverse ++ .ref b :: rest) (hW : (rest.map fun v => v.category).sum ≤ 8) (hdg : decode cc pc = .ok (.invokespecial index, 3)) (hf : cells + mc ≤ R.cells ∧ slots + ms ≤ R.slots) :
    va_Run p l e R s m args below meth c H locs cells slots mc ms (F0 m pc ls st0) rest (Qc (Value.ref b :: As).toArray) free := by
  refine va_runI hC hM (cwI n hC.2.2.2.2 (gU_goodL ?_) rfl hrc hrs (hC.2.2.2.2 _ h4) (hC.2.2.2.2 _ h1) (hC.2.2.2.2 _ h2) hy1 hd hR) hp rfl hn hsize hstack (lv_room hW) hdg hf
  intro w hw
  rcases List.mem_cons.mp hw with rfl | hw
  · exact hk
  · exact hw
theorem s_cat (x : Option Nat) : (va_rf x).category = 1 := by cases x <;> rfl
end GC
section GL
variable {p : Program} {l : Launch} {e : Env} {R : Room} {s : State} {m : MethodId} {args : Array Value} {below : List Frame} {meth : Method} {c : Code} {H : Heap} {locs : List Loc} {cells slots : Nat} {Q : State → Prop}
variable {cc : ByteArray} {pc : Nat} {ls : Array Slot} {rest : List Value}
theorem s_aload_n (hexec : p.tables.exec = Jvm.exec) (hb : c.code = cc) {k : Fin 4} {i : Nat} {x : Option Nat} (hdg : decode cc pc = .ok (.aload_n k, 1)) (hi : (k : Nat) = i) (hl : ls[i]? = some (.val (va_rf x)))
    (kk : W p l e R s m args below meth c H locs cells slots Q (F0 m (pc + 1) ls (va_rf x :: rest))) : W p l e R s m args below meth c H locs cells slots Q (F0 m pc ls rest) := by
  cases x with
  | none => exact lv_aload_nN hexec hb hdg hi hl kk
  | some a => exact lv_aload_n hexec hb hdg hi hl kk
theorem s_aload (hexec : p.tables.exec = Jvm.exec) (hb : c.code = cc) {i : Nat} {x : Option Nat} (hdg : decode cc pc = .ok (.aload i, 2)) (hl : ls[i]? = some (.val (va_rf x)))
    (kk : W p l e R s m args below meth c H locs cells slots Q (F0 m (pc + 2) ls (va_rf x :: rest))) : W p l e R s m args below meth c H locs cells slots Q (F0 m pc ls rest) := by
  cases x with
  | none => exact lv_aloadN hexec hb hdg hl kk
  | some a => exact lv_aload hexec hb hdg hl kk
theorem s_astore_n (hexec : p.tables.exec = Jvm.exec) (hb : c.code = cc) {k : Fin 4} {i nL : Nat} {x : Option Nat} {lv lv' : List (Nat × Value)} (hdg : decode cc pc = .ok (.astore_n k, 1)) (hi : (k : Nat) = i) (h : lv_has ls nL lv) (hn : i < nL) (hl : (i, va_rf x) :: lv.filter (fun q => !(q.1 == i) && !(q.1 + 1 == i && q.2.category == 2)) = lv')
    (kk : ∀ ls' : Array Slot, lv_has ls' nL lv' → W p l e R s m args below meth c H locs cells slots Q (F0 m (pc + 1) ls' rest)) : W p l e R s m args below meth c H locs cells slots Q (F0 m pc ls (va_rf x :: rest)) := by
  cases x with
  | none => exact lv_astore_nN hexec hb hdg hi h hn hl kk
  | some a => exact lv_astore_n hexec hb hdg hi h hn hl kk
theorem s_astore (hexec : p.tables.exec = Jvm.exec) (hb : c.code = cc) {i nL : Nat} {x : Option Nat} {lv lv' : List (Nat × Value)} (hdg : decode cc pc = .ok (.astore i, 2)) (h : lv_has ls nL lv) (hn : i < nL) (hl : (i, va_rf x) :: lv.filter (fun q => !(q.1 == i) && !(q.1 + 1 == i && q.2.category == 2)) = lv')
    (kk : ∀ ls' : Array Slot, lv_has ls' nL lv' → W p l e R s m args below meth c H locs cells slots Q (F0 m (pc + 2) ls' rest)) : W p l e R s m args below meth c H locs cells slots Q (F0 m pc ls (va_rf x :: rest)) := by
  cases x with
  | none => exact lv_astoreN hexec hb hdg h hn hl kk
  | some a => exact lv_astore hexec hb hdg h hn hl kk
theorem s_ifnull (hexec : p.tables.exec = Jvm.exec) (hb : c.code = cc) {x : Option Nat} {off : Int} {tgt : Nat} (hdg : decode cc pc = .ok (.ifnull off, 3)) (ht : (pc : Int) + off = (tgt : Int))
    (kt : x = none → W p l e R s m args below meth c H locs cells slots Q (F0 m tgt ls rest)) (kf : ∀ a : Nat, x = some a → W p l e R s m args below meth c H locs cells slots Q (F0 m (pc + 3) ls rest)) : W p l e R s m args below meth c H locs cells slots Q (F0 m pc ls (va_rf x :: rest)) := by
  cases x with
  | none => exact lv_ifnullN hexec hb hdg ht (kt rfl)
  | some a => exact lv_ifnull hexec hb hdg (kf a rfl)
theorem s_ifnonnull (hexec : p.tables.exec = Jvm.exec) (hb : c.code = cc) {x : Option Nat} {off : Int} {tgt : Nat} (hdg : decode cc pc = .ok (.ifnonnull off, 3)) (ht : (pc : Int) + off = (tgt : Int))
    (kt : ∀ a : Nat, x = some a → W p l e R s m args below meth c H locs cells slots Q (F0 m tgt ls rest)) (kf : x = none → W p l e R s m args below meth c H locs cells slots Q (F0 m (pc + 3) ls rest)) : W p l e R s m args below meth c H locs cells slots Q (F0 m pc ls (va_rf x :: rest)) := by
  cases x with
  | none => exact lv_ifnonnullN hexec hb hdg (kf rfl)
  | some a => exact lv_ifnonnull hexec hb hdg ht (kt a rfl)
theorem s_null (hexec : p.tables.exec = Jvm.exec) (hb : c.code = cc) (hdg : decode cc pc = .ok (.aconst_null, 1)) (kk : W p l e R s m args below meth c H locs cells slots Q (F0 m (pc + 1) ls (va_rf none :: rest))) : W p l e R s m args below meth c H locs cells slots Q (F0 m pc ls rest) := lv_null hexec hb hdg kk
/-- a reference on top by another name -/
theorem s_top {x y : Option Nat} (h : x = y) (kk : W p l e R s m args below meth c H locs cells slots Q (F0 m pc ls (va_rf y :: rest))) : W p l e R s m args below meth c H locs cells slots Q (F0 m pc ls (va_rf x :: rest)) := by
  subst h
  exact kk
end GL
theorem gc_L : g_C 0 "CallRows$Level" TfL 9 tyL := ⟨rfl, by decide +kernel, by decide +kernel⟩
theorem gc_P : g_C 1 "CallRows$Program" TfP 9 tyP := ⟨rfl, by decide +kernel, by decide +kernel⟩
theorem gc_R : g_C 2 "CallRows" TfR 12 tyR := ⟨rfl, by decide +kernel, by decide +kernel⟩
theorem gc_M : g_C 3 "CallRowsModel" TfM 29 tyM := ⟨rfl, by decide +kernel, by decide +kernel⟩
end
section
/-! READ AFTER WRITE: all of them; x_gs is their conjunction, for simp -/
theorem x_g_i_p_i (S : gs_S) (c k a : Nat) (v : Int32) (c' k' a' : Nat) : g_i (p_i S c k a v) c' k' a' = if c' = c ∧ k' = k ∧ a' = a then v else g_i S c' k' a' := rfl
theorem x_g_l_p_i (S : gs_S) (c k a : Nat) (v : Int32) (c' k' a' : Nat) : g_l (p_i S c k a v) c' k' a' = g_l S c' k' a' := rfl
theorem x_g_r_p_i (S : gs_S) (c k a : Nat) (v : Int32) (c' k' a' : Nat) : g_r (p_i S c k a v) c' k' a' = g_r S c' k' a' := rfl
theorem x_g_ai_p_i (S : gs_S) (c k a : Nat) (v : Int32) (c' k' a' : Nat) : g_ai (p_i S c k a v) c' k' a' = g_ai S c' k' a' := rfl
theorem x_g_al_p_i (S : gs_S) (c k a : Nat) (v : Int32) (c' k' a' : Nat) : g_al (p_i S c k a v) c' k' a' = g_al S c' k' a' := rfl
theorem x_g_ar_p_i (S : gs_S) (c k a : Nat) (v : Int32) (c' k' a' : Nat) : g_ar (p_i S c k a v) c' k' a' = g_ar S c' k' a' := rfl
theorem x_sh_p_i (S : gs_S) (c k a : Nat) (v : Int32) (b : Nat) : g_sh (p_i S c k a v) b = g_sh S b := rfl
theorem x_g_i_p_l (S : gs_S) (c k a : Nat) (v : Int64) (c' k' a' : Nat) : g_i (p_l S c k a v) c' k' a' = g_i S c' k' a' := rfl
theorem x_g_l_p_l (S : gs_S) (c k a : Nat) (v : Int64) (c' k' a' : Nat) : g_l (p_l S c k a v) c' k' a' = if c' = c ∧ k' = k ∧ a' = a then v else g_l S c' k' a' := rfl
theorem x_g_r_p_l (S : gs_S) (c k a : Nat) (v : Int64) (c' k' a' : Nat) : g_r (p_l S c k a v) c' k' a' = g_r S c' k' a' := rfl
theorem x_g_ai_p_l (S : gs_S) (c k a : Nat) (v : Int64) (c' k' a' : Nat) : g_ai (p_l S c k a v) c' k' a' = g_ai S c' k' a' := rfl
theorem x_g_al_p_l (S : gs_S) (c k a : Nat) (v : Int64) (c' k' a' : Nat) : g_al (p_l S c k a v) c' k' a' = g_al S c' k' a' := rfl
theorem x_g_ar_p_l (S : gs_S) (c k a : Nat) (v : Int64) (c' k' a' : Nat) : g_ar (p_l S c k a v) c' k' a' = g_ar S c' k' a' := rfl
theorem x_sh_p_l (S : gs_S) (c k a : Nat) (v : Int64) (b : Nat) : g_sh (p_l S c k a v) b = g_sh S b := rfl
theorem x_g_i_p_r (S : gs_S) (c k a : Nat) (v : Option Nat) (c' k' a' : Nat) : g_i (p_r S c k a v) c' k' a' = g_i S c' k' a' := rfl
theorem x_g_l_p_r (S : gs_S) (c k a : Nat) (v : Option Nat) (c' k' a' : Nat) : g_l (p_r S c k a v) c' k' a' = g_l S c' k' a' := rfl
theorem x_g_r_p_r (S : gs_S) (c k a : Nat) (v : Option Nat) (c' k' a' : Nat) : g_r (p_r S c k a v) c' k' a' = if c' = c ∧ k' = k ∧ a' = a then v else g_r S c' k' a' := rfl
theorem x_g_ai_p_r (S : gs_S) (c k a : Nat) (v : Option Nat) (c' k' a' : Nat) : g_ai (p_r S c k a v) c' k' a' = g_ai S c' k' a' := rfl
theorem x_g_al_p_r (S : gs_S) (c k a : Nat) (v : Option Nat) (c' k' a' : Nat) : g_al (p_r S c k a v) c' k' a' = g_al S c' k' a' := rfl
theorem x_g_ar_p_r (S : gs_S) (c k a : Nat) (v : Option Nat) (c' k' a' : Nat) : g_ar (p_r S c k a v) c' k' a' = g_ar S c' k' a' := rfl
theorem x_sh_p_r (S : gs_S) (c k a : Nat) (v : Option Nat) (b : Nat) : g_sh (p_r S c k a v) b = g_sh S b := rfl
theorem x_g_i_p_ai (S : gs_S) (c k a : Nat) (v : Int32) (c' k' a' : Nat) : g_i (p_ai S c k a v) c' k' a' = g_i S c' k' a' := rfl
theorem x_g_l_p_ai (S : gs_S) (c k a : Nat) (v : Int32) (c' k' a' : Nat) : g_l (p_ai S c k a v) c' k' a' = g_l S c' k' a' := rfl
theorem x_g_r_p_ai (S : gs_S) (c k a : Nat) (v : Int32) (c' k' a' : Nat) : g_r (p_ai S c k a v) c' k' a' = g_r S c' k' a' := rfl
theorem x_g_ai_p_ai (S : gs_S) (c k a : Nat) (v : Int32) (c' k' a' : Nat) : g_ai (p_ai S c k a v) c' k' a' = if c' = c ∧ k' = k ∧ a' = a then v else g_ai S c' k' a' := rfl
theorem x_g_al_p_ai (S : gs_S) (c k a : Nat) (v : Int32) (c' k' a' : Nat) : g_al (p_ai S c k a v) c' k' a' = g_al S c' k' a' := rfl
theorem x_g_ar_p_ai (S : gs_S) (c k a : Nat) (v : Int32) (c' k' a' : Nat) : g_ar (p_ai S c k a v) c' k' a' = g_ar S c' k' a' := rfl
theorem x_sh_p_ai (S : gs_S) (c k a : Nat) (v : Int32) (b : Nat) : g_sh (p_ai S c k a v) b = g_sh S b := rfl
theorem x_g_i_p_al (S : gs_S) (c k a : Nat) (v : Int64) (c' k' a' : Nat) : g_i (p_al S c k a v) c' k' a' = g_i S c' k' a' := rfl
theorem x_g_l_p_al (S : gs_S) (c k a : Nat) (v : Int64) (c' k' a' : Nat) : g_l (p_al S c k a v) c' k' a' = g_l S c' k' a' := rfl
theorem x_g_r_p_al (S : gs_S) (c k a : Nat) (v : Int64) (c' k' a' : Nat) : g_r (p_al S c k a v) c' k' a' = g_r S c' k' a' := rfl
theorem x_g_ai_p_al (S : gs_S) (c k a : Nat) (v : Int64) (c' k' a' : Nat) : g_ai (p_al S c k a v) c' k' a' = g_ai S c' k' a' := rfl
theorem x_g_al_p_al (S : gs_S) (c k a : Nat) (v : Int64) (c' k' a' : Nat) : g_al (p_al S c k a v) c' k' a' = if c' = c ∧ k' = k ∧ a' = a then v else g_al S c' k' a' := rfl
theorem x_g_ar_p_al (S : gs_S) (c k a : Nat) (v : Int64) (c' k' a' : Nat) : g_ar (p_al S c k a v) c' k' a' = g_ar S c' k' a' := rfl
theorem x_sh_p_al (S : gs_S) (c k a : Nat) (v : Int64) (b : Nat) : g_sh (p_al S c k a v) b = g_sh S b := rfl
theorem x_g_i_p_ar (S : gs_S) (c k a : Nat) (v : Option Nat) (c' k' a' : Nat) : g_i (p_ar S c k a v) c' k' a' = g_i S c' k' a' := rfl
theorem x_g_l_p_ar (S : gs_S) (c k a : Nat) (v : Option Nat) (c' k' a' : Nat) : g_l (p_ar S c k a v) c' k' a' = g_l S c' k' a' := rfl
theorem x_g_r_p_ar (S : gs_S) (c k a : Nat) (v : Option Nat) (c' k' a' : Nat) : g_r (p_ar S c k a v) c' k' a' = g_r S c' k' a' := rfl
theorem x_g_ai_p_ar (S : gs_S) (c k a : Nat) (v : Option Nat) (c' k' a' : Nat) : g_ai (p_ar S c k a v) c' k' a' = g_ai S c' k' a' := rfl
theorem x_g_al_p_ar (S : gs_S) (c k a : Nat) (v : Option Nat) (c' k' a' : Nat) : g_al (p_ar S c k a v) c' k' a' = g_al S c' k' a' := rfl
theorem x_g_ar_p_ar (S : gs_S) (c k a : Nat) (v : Option Nat) (c' k' a' : Nat) : g_ar (p_ar S c k a v) c' k' a' = if c' = c ∧ k' = k ∧ a' = a then v else g_ar S c' k' a' := rfl
theorem x_sh_p_ar (S : gs_S) (c k a : Nat) (v : Option Nat) (b : Nat) : g_sh (p_ar S c k a v) b = g_sh S b := rfl
theorem x_g_i_new (S : gs_S) (c a c' k' a' : Nat) : g_i (p_new S c a) c' k' a' = if a' = a then 0 else g_i S c' k' a' := rfl
theorem x_g_i_newA (S : gs_S) (r n a c' k' a' : Nat) : g_i (p_newA S r n a) c' k' a' = g_i S c' k' a' := rfl
theorem x_g_l_new (S : gs_S) (c a c' k' a' : Nat) : g_l (p_new S c a) c' k' a' = if a' = a then 0 else g_l S c' k' a' := rfl
theorem x_g_l_newA (S : gs_S) (r n a c' k' a' : Nat) : g_l (p_newA S r n a) c' k' a' = g_l S c' k' a' := rfl
theorem x_g_r_new (S : gs_S) (c a c' k' a' : Nat) : g_r (p_new S c a) c' k' a' = if a' = a then none else g_r S c' k' a' := rfl
theorem x_g_r_newA (S : gs_S) (r n a c' k' a' : Nat) : g_r (p_newA S r n a) c' k' a' = g_r S c' k' a' := rfl
theorem x_g_ai_new (S : gs_S) (c a c' k' a' : Nat) : g_ai (p_new S c a) c' k' a' = g_ai S c' k' a' := rfl
theorem x_g_ai_newA (S : gs_S) (r n a c' k' a' : Nat) : g_ai (p_newA S r n a) c' k' a' = if k' = a then 0 else g_ai S c' k' a' := rfl
theorem x_g_al_new (S : gs_S) (c a c' k' a' : Nat) : g_al (p_new S c a) c' k' a' = g_al S c' k' a' := rfl
theorem x_g_al_newA (S : gs_S) (r n a c' k' a' : Nat) : g_al (p_newA S r n a) c' k' a' = if k' = a then 0 else g_al S c' k' a' := rfl
theorem x_g_ar_new (S : gs_S) (c a c' k' a' : Nat) : g_ar (p_new S c a) c' k' a' = g_ar S c' k' a' := rfl
theorem x_g_ar_newA (S : gs_S) (r n a c' k' a' : Nat) : g_ar (p_newA S r n a) c' k' a' = if k' = a then none else g_ar S c' k' a' := rfl
theorem x_sh_new (S : gs_S) (c a b : Nat) : g_sh (p_new S c a) b = if b = a then some (.inl c) else g_sh S b := rfl
theorem x_sh_newA (S : gs_S) (r n a b : Nat) : g_sh (p_newA S r n a) b = if b = a then some (.inr (r, n)) else g_sh S b := rfl
theorem x_gs : (∀ (S : gs_S) (c k a : Nat) (v : Int32) (c' k' a' : Nat), g_i (p_i S c k a v) c' k' a' = if c' = c ∧ k' = k ∧ a' = a then v else g_i S c' k' a') ∧ (∀ (S : gs_S) (c k a : Nat) (v : Int32) (c' k' a' : Nat), g_l (p_i S c k a v) c' k' a' = g_l S c' k' a') ∧ (∀ (S : gs_S) (c k a : Nat) (v : Int32) (c' k' a' : Nat), g_r (p_i S c k a v) c' k' a' = g_r S c' k' a') ∧ (∀ (S : gs_S) (c k a : Nat) (v : Int32) (c' k' a' : Nat), g_ai (p_i S c k a v) c' k' a' = g_ai S c' k' a') ∧ (∀ (S : gs_S) (c k a : Nat) (v : Int32) (c' k' a' : Nat), g_al (p_i S c k a v) c' k' a' = g_al S c' k' a') ∧ (∀ (S : gs_S) (c k a : Nat) (v : Int32) (c' k' a' : Nat), g_ar (p_i S c k a v) c' k' a' = g_ar S c' k' a') ∧ (∀ (S : gs_S) (c k a : Nat) (v : Int32) (b : Nat), g_sh (p_i S c k a v) b = g_sh S b) ∧ (∀ (S : gs_S) (c k a : Nat) (v : Int64) (c' k' a' : Nat), g_i (p_l S c k a v) c' k' a' = g_i S c' k' a') ∧ (∀ (S : gs_S) (c k a : Nat) (v : Int64) (c' k' a' : Nat), g_l (p_l S c k a v) c' k' a' = if c' = c ∧ k' = k ∧ a' = a then v else g_l S c' k' a') ∧ (∀ (S : gs_S) (c k a : Nat) (v : Int64) (c' k' a' : Nat), g_r (p_l S c k a v) c' k' a' = g_r S c' k' a') ∧ (∀ (S : gs_S) (c k a : Nat) (v : Int64) (c' k' a' : Nat), g_ai (p_l S c k a v) c' k' a' = g_ai S c' k' a') ∧ (∀ (S : gs_S) (c k a : Nat) (v : Int64) (c' k' a' : Nat), g_al (p_l S c k a v) c' k' a' = g_al S c' k' a') ∧ (∀ (S : gs_S) (c k a : Nat) (v : Int64) (c' k' a' : Nat), g_ar (p_l S c k a v) c' k' a' = g_ar S c' k' a') ∧ (∀ (S : gs_S) (c k a : Nat) (v : Int64) (b : Nat), g_sh (p_l S c k a v) b = g_sh S b) ∧ (∀ (S : gs_S) (c k a : Nat) (v : Option Nat) (c' k' a' : Nat), g_i (p_r S c k a v) c' k' a' = g_i S c' k' a') ∧ (∀ (S : gs_S) (c k a : Nat) (v : Option Nat) (c' k' a' : Nat), g_l (p_r S c k a v) c' k' a' = g_l S c' k' a') ∧ (∀ (S : gs_S) (c k a : Nat) (v : Option Nat) (c' k' a' : Nat), g_r (p_r S c k a v) c' k' a' = if c' = c ∧ k' = k ∧ a' = a then v else g_r S c' k' a') ∧ (∀ (S : gs_S) (c k a : Nat) (v : Option Nat) (c' k' a' : Nat), g_ai (p_r S c k a v) c' k' a' = g_ai S c' k' a') ∧ (∀ (S : gs_S) (c k a : Nat) (v : Option Nat) (c' k' a' : Nat), g_al (p_r S c k a v) c' k' a' = g_al S c' k' a') ∧ (∀ (S : gs_S) (c k a : Nat) (v : Option Nat) (c' k' a' : Nat), g_ar (p_r S c k a v) c' k' a' = g_ar S c' k' a') ∧ (∀ (S : gs_S) (c k a : Nat) (v : Option Nat) (b : Nat), g_sh (p_r S c k a v) b = g_sh S b) ∧ (∀ (S : gs_S) (c k a : Nat) (v : Int32) (c' k' a' : Nat), g_i (p_ai S c k a v) c' k' a' = g_i S c' k' a') ∧ (∀ (S : gs_S) (c k a : Nat) (v : Int32) (c' k' a' : Nat), g_l (p_ai S c k a v) c' k' a' = g_l S c' k' a') ∧ (∀ (S : gs_S) (c k a : Nat) (v : Int32) (c' k' a' : Nat), g_r (p_ai S c k a v) c' k' a' = g_r S c' k' a') ∧ (∀ (S : gs_S) (c k a : Nat) (v : Int32) (c' k' a' : Nat), g_ai (p_ai S c k a v) c' k' a' = if c' = c ∧ k' = k ∧ a' = a then v else g_ai S c' k' a') ∧ (∀ (S : gs_S) (c k a : Nat) (v : Int32) (c' k' a' : Nat), g_al (p_ai S c k a v) c' k' a' = g_al S c' k' a') ∧ (∀ (S : gs_S) (c k a : Nat) (v : Int32) (c' k' a' : Nat), g_ar (p_ai S c k a v) c' k' a' = g_ar S c' k' a') ∧ (∀ (S : gs_S) (c k a : Nat) (v : Int32) (b : Nat), g_sh (p_ai S c k a v) b = g_sh S b) ∧ (∀ (S : gs_S) (c k a : Nat) (v : Int64) (c' k' a' : Nat), g_i (p_al S c k a v) c' k' a' = g_i S c' k' a') ∧ (∀ (S : gs_S) (c k a : Nat) (v : Int64) (c' k' a' : Nat), g_l (p_al S c k a v) c' k' a' = g_l S c' k' a') ∧ (∀ (S : gs_S) (c k a : Nat) (v : Int64) (c' k' a' : Nat), g_r (p_al S c k a v) c' k' a' = g_r S c' k' a') ∧ (∀ (S : gs_S) (c k a : Nat) (v : Int64) (c' k' a' : Nat), g_ai (p_al S c k a v) c' k' a' = g_ai S c' k' a') ∧ (∀ (S : gs_S) (c k a : Nat) (v : Int64) (c' k' a' : Nat), g_al (p_al S c k a v) c' k' a' = if c' = c ∧ k' = k ∧ a' = a then v else g_al S c' k' a') ∧ (∀ (S : gs_S) (c k a : Nat) (v : Int64) (c' k' a' : Nat), g_ar (p_al S c k a v) c' k' a' = g_ar S c' k' a') ∧ (∀ (S : gs_S) (c k a : Nat) (v : Int64) (b : Nat), g_sh (p_al S c k a v) b = g_sh S b) ∧ (∀ (S : gs_S) (c k a : Nat) (v : Option Nat) (c' k' a' : Nat), g_i (p_ar S c k a v) c' k' a' = g_i S c' k' a') ∧ (∀ (S : gs_S) (c k a : Nat) (v : Option Nat) (c' k' a' : Nat), g_l (p_ar S c k a v) c' k' a' = g_l S c' k' a') ∧ (∀ (S : gs_S) (c k a : Nat) (v : Option Nat) (c' k' a' : Nat), g_r (p_ar S c k a v) c' k' a' = g_r S c' k' a') ∧ (∀ (S : gs_S) (c k a : Nat) (v : Option Nat) (c' k' a' : Nat), g_ai (p_ar S c k a v) c' k' a' = g_ai S c' k' a') ∧ (∀ (S : gs_S) (c k a : Nat) (v : Option Nat) (c' k' a' : Nat), g_al (p_ar S c k a v) c' k' a' = g_al S c' k' a') ∧ (∀ (S : gs_S) (c k a : Nat) (v : Option Nat) (c' k' a' : Nat), g_ar (p_ar S c k a v) c' k' a' = if c' = c ∧ k' = k ∧ a' = a then v else g_ar S c' k' a') ∧ (∀ (S : gs_S) (c k a : Nat) (v : Option Nat) (b : Nat), g_sh (p_ar S c k a v) b = g_sh S b) ∧ (∀ (S : gs_S) (c a c' k' a' : Nat), g_i (p_new S c a) c' k' a' = if a' = a then 0 else g_i S c' k' a') ∧ (∀ (S : gs_S) (r n a c' k' a' : Nat), g_i (p_newA S r n a) c' k' a' = g_i S c' k' a') ∧ (∀ (S : gs_S) (c a c' k' a' : Nat), g_l (p_new S c a) c' k' a' = if a' = a then 0 else g_l S c' k' a') ∧ (∀ (S : gs_S) (r n a c' k' a' : Nat), g_l (p_newA S r n a) c' k' a' = g_l S c' k' a') ∧ (∀ (S : gs_S) (c a c' k' a' : Nat), g_r (p_new S c a) c' k' a' = if a' = a then none else g_r S c' k' a') ∧ (∀ (S : gs_S) (r n a c' k' a' : Nat), g_r (p_newA S r n a) c' k' a' = g_r S c' k' a') ∧ (∀ (S : gs_S) (c a c' k' a' : Nat), g_ai (p_new S c a) c' k' a' = g_ai S c' k' a') ∧ (∀ (S : gs_S) (r n a c' k' a' : Nat), g_ai (p_newA S r n a) c' k' a' = if k' = a then 0 else g_ai S c' k' a') ∧ (∀ (S : gs_S) (c a c' k' a' : Nat), g_al (p_new S c a) c' k' a' = g_al S c' k' a') ∧ (∀ (S : gs_S) (r n a c' k' a' : Nat), g_al (p_newA S r n a) c' k' a' = if k' = a then 0 else g_al S c' k' a') ∧ (∀ (S : gs_S) (c a c' k' a' : Nat), g_ar (p_new S c a) c' k' a' = g_ar S c' k' a') ∧ (∀ (S : gs_S) (r n a c' k' a' : Nat), g_ar (p_newA S r n a) c' k' a' = if k' = a then none else g_ar S c' k' a') ∧ (∀ (S : gs_S) (c a b : Nat), g_sh (p_new S c a) b = if b = a then some (.inl c) else g_sh S b) ∧ (∀ (S : gs_S) (r n a b : Nat), g_sh (p_newA S r n a) b = if b = a then some (.inr (r, n)) else g_sh S b) := ⟨x_g_i_p_i, x_g_l_p_i, x_g_r_p_i, x_g_ai_p_i, x_g_al_p_i, x_g_ar_p_i, x_sh_p_i, x_g_i_p_l, x_g_l_p_l, x_g_r_p_l, x_g_ai_p_l, x_g_al_p_l, x_g_ar_p_l, x_sh_p_l, x_g_i_p_r, x_g_l_p_r, x_g_r_p_r, x_g_ai_p_r, x_g_al_p_r, x_g_ar_p_r, x_sh_p_r, x_g_i_p_ai, x_g_l_p_ai, x_g_r_p_ai, x_g_ai_p_ai, x_g_al_p_ai, x_g_ar_p_ai, x_sh_p_ai, x_g_i_p_al, x_g_l_p_al, x_g_r_p_al, x_g_ai_p_al, x_g_al_p_al, x_g_ar_p_al, x_sh_p_al, x_g_i_p_ar, x_g_l_p_ar, x_g_r_p_ar, x_g_ai_p_ar, x_g_al_p_ar, x_g_ar_p_ar, x_sh_p_ar, x_g_i_new, x_g_i_newA, x_g_l_new, x_g_l_newA, x_g_r_new, x_g_r_newA, x_g_ai_new, x_g_ai_newA, x_g_al_new, x_g_al_newA, x_g_ar_new, x_g_ar_newA, x_sh_new, x_sh_newA⟩
end
