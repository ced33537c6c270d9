section
/-- a private method of a class that the tables say can be made, by its rows of tables_1 -/
def lw_okq (q : MethodName × Nat) : Prop := (q.1.cls ≠ "java/lang/invoke/MethodHandle" ∧ q.1.cls ≠ "java/lang/invoke/VarHandle") ∧ Cond.instantiable q.1.cls q.2 ∈ tables_1 ∧ Cond.privateMethod q.1 ∈ tables_1 ∧ Cond.instanceMethod q.1 ∈ tables_1
theorem lw_p0 : lw_okq (⟨"FlowDesk$Clockwork", "restart", "()V"⟩, 3) := ⟨⟨by decide +kernel, by decide +kernel⟩, List.mem_of_getElem? (i := 183) (by decide +kernel), List.mem_of_getElem? (i := 222) (by decide +kernel), List.mem_of_getElem? (i := 223) (by decide +kernel)⟩
theorem lw_p1 : lw_okq (⟨"FlowDesk$Checker", "examine", "()I"⟩, 7) := ⟨⟨by decide +kernel, by decide +kernel⟩, List.mem_of_getElem? (i := 151) (by decide +kernel), List.mem_of_getElem? (i := 229) (by decide +kernel), List.mem_of_getElem? (i := 230) (by decide +kernel)⟩
theorem lw_p2 : lw_okq (⟨"FlowDesk$Checker", "forget", "()V"⟩, 7) := ⟨⟨by decide +kernel, by decide +kernel⟩, List.mem_of_getElem? (i := 151) (by decide +kernel), List.mem_of_getElem? (i := 233) (by decide +kernel), List.mem_of_getElem? (i := 234) (by decide +kernel)⟩
theorem lw_p3 : lw_okq (⟨"FlowDesk$Waiting", "trace", "()V"⟩, 5) := ⟨⟨by decide +kernel, by decide +kernel⟩, List.mem_of_getElem? (i := 126) (by decide +kernel), List.mem_of_getElem? (i := 237) (by decide +kernel), List.mem_of_getElem? (i := 238) (by decide +kernel)⟩
theorem lw_p4 : lw_okq (⟨"FlowDesk$Waiting", "directWaits", "(LFlowDesk$Flow;)I"⟩, 5) := ⟨⟨by decide +kernel, by decide +kernel⟩, List.mem_of_getElem? (i := 126) (by decide +kernel), List.mem_of_getElem? (i := 241) (by decide +kernel), List.mem_of_getElem? (i := 242) (by decide +kernel)⟩
theorem lw_p5 : lw_okq (⟨"FlowDesk$Expression", "beginsAt", "(I)Z"⟩, 5) := ⟨⟨by decide +kernel, by decide +kernel⟩, List.mem_of_getElem? (i := 38) (by decide +kernel), List.mem_of_getElem? (i := 248) (by decide +kernel), List.mem_of_getElem? (i := 249) (by decide +kernel)⟩
theorem lw_p6 : lw_okq (⟨"FlowDesk$Expression", "named", "(I)I"⟩, 5) := ⟨⟨by decide +kernel, by decide +kernel⟩, List.mem_of_getElem? (i := 38) (by decide +kernel), List.mem_of_getElem? (i := 258) (by decide +kernel), List.mem_of_getElem? (i := 259) (by decide +kernel)⟩
theorem lw_p7 : lw_okq (⟨"FlowDesk$Waiting", "waitsFor", "(II)Z"⟩, 5) := ⟨⟨by decide +kernel, by decide +kernel⟩, List.mem_of_getElem? (i := 126) (by decide +kernel), List.mem_of_getElem? (i := 262) (by decide +kernel), List.mem_of_getElem? (i := 263) (by decide +kernel)⟩
theorem lw_p8 : lw_okq (⟨"FlowDesk$Checker", "holdsForAll", "(I)Z"⟩, 7) := ⟨⟨by decide +kernel, by decide +kernel⟩, List.mem_of_getElem? (i := 151) (by decide +kernel), List.mem_of_getElem? (i := 266) (by decide +kernel), List.mem_of_getElem? (i := 267) (by decide +kernel)⟩
theorem lw_p9 : lw_okq (⟨"FlowDesk$Checker", "faultOf", "(II)I"⟩, 7) := ⟨⟨by decide +kernel, by decide +kernel⟩, List.mem_of_getElem? (i := 151) (by decide +kernel), List.mem_of_getElem? (i := 270) (by decide +kernel), List.mem_of_getElem? (i := 271) (by decide +kernel)⟩
theorem lw_p10 : lw_okq (⟨"FlowDesk$Flow", "hasEquation", "()Z"⟩, 7) := ⟨⟨by decide +kernel, by decide +kernel⟩, List.mem_of_getElem? (i := 32) (by decide +kernel), List.mem_of_getElem? (i := 275) (by decide +kernel), List.mem_of_getElem? (i := 276) (by decide +kernel)⟩
theorem lw_p11 : lw_okq (⟨"FlowDesk$Network", "typeOf", "(I)I"⟩, 2) := ⟨⟨by decide +kernel, by decide +kernel⟩, List.mem_of_getElem? (i := 25) (by decide +kernel), List.mem_of_getElem? (i := 279) (by decide +kernel), List.mem_of_getElem? (i := 280) (by decide +kernel)⟩
theorem lw_p12 : lw_okq (⟨"FlowDesk$Checker", "typeFault", "(LFlowDesk$Expression;I)I"⟩, 7) := ⟨⟨by decide +kernel, by decide +kernel⟩, List.mem_of_getElem? (i := 151) (by decide +kernel), List.mem_of_getElem? (i := 283) (by decide +kernel), List.mem_of_getElem? (i := 284) (by decide +kernel)⟩
theorem lw_p13 : lw_okq (⟨"FlowDesk$Checker", "isOfType", "(LFlowDesk$Expression;II)Z"⟩, 7) := ⟨⟨by decide +kernel, by decide +kernel⟩, List.mem_of_getElem? (i := 151) (by decide +kernel), List.mem_of_getElem? (i := 288) (by decide +kernel), List.mem_of_getElem? (i := 289) (by decide +kernel)⟩
theorem lw_p14 : lw_okq (⟨"FlowDesk$Checker", "wantTypesOfParts", "(LFlowDesk$Expression;I)V"⟩, 7) := ⟨⟨by decide +kernel, by decide +kernel⟩, List.mem_of_getElem? (i := 151) (by decide +kernel), List.mem_of_getElem? (i := 296) (by decide +kernel), List.mem_of_getElem? (i := 297) (by decide +kernel)⟩
theorem lw_p15 : lw_okq (⟨"FlowDesk$Expression", "firstPart", "(I)I"⟩, 5) := ⟨⟨by decide +kernel, by decide +kernel⟩, List.mem_of_getElem? (i := 38) (by decide +kernel), List.mem_of_getElem? (i := 302) (by decide +kernel), List.mem_of_getElem? (i := 303) (by decide +kernel)⟩
def lw_privs_1 : List (MethodName × Nat) := [(⟨"FlowDesk$Clockwork", "restart", "()V"⟩, 3), (⟨"FlowDesk$Checker", "examine", "()I"⟩, 7), (⟨"FlowDesk$Checker", "forget", "()V"⟩, 7), (⟨"FlowDesk$Waiting", "trace", "()V"⟩, 5), (⟨"FlowDesk$Waiting", "directWaits", "(LFlowDesk$Flow;)I"⟩, 5), (⟨"FlowDesk$Expression", "beginsAt", "(I)Z"⟩, 5), (⟨"FlowDesk$Expression", "named", "(I)I"⟩, 5), (⟨"FlowDesk$Waiting", "waitsFor", "(II)Z"⟩, 5), (⟨"FlowDesk$Checker", "holdsForAll", "(I)Z"⟩, 7), (⟨"FlowDesk$Checker", "faultOf", "(II)I"⟩, 7), (⟨"FlowDesk$Flow", "hasEquation", "()Z"⟩, 7), (⟨"FlowDesk$Network", "typeOf", "(I)I"⟩, 2), (⟨"FlowDesk$Checker", "typeFault", "(LFlowDesk$Expression;I)I"⟩, 7), (⟨"FlowDesk$Checker", "isOfType", "(LFlowDesk$Expression;II)Z"⟩, 7), (⟨"FlowDesk$Checker", "wantTypesOfParts", "(LFlowDesk$Expression;I)V"⟩, 7), (⟨"FlowDesk$Expression", "firstPart", "(I)I"⟩, 5)]
theorem lw_r1 : ∀ q ∈ lw_privs_1, lw_okq q := List.forall_mem_cons.mpr ⟨lw_p0, List.forall_mem_cons.mpr ⟨lw_p1, List.forall_mem_cons.mpr ⟨lw_p2, List.forall_mem_cons.mpr ⟨lw_p3, List.forall_mem_cons.mpr ⟨lw_p4, List.forall_mem_cons.mpr ⟨lw_p5, List.forall_mem_cons.mpr ⟨lw_p6, List.forall_mem_cons.mpr ⟨lw_p7, List.forall_mem_cons.mpr ⟨lw_p8, List.forall_mem_cons.mpr ⟨lw_p9, List.forall_mem_cons.mpr ⟨lw_p10, List.forall_mem_cons.mpr ⟨lw_p11, List.forall_mem_cons.mpr ⟨lw_p12, List.forall_mem_cons.mpr ⟨lw_p13, List.forall_mem_cons.mpr ⟨lw_p14, List.forall_mem_cons.mpr ⟨lw_p15, fun _ h => absurd h List.not_mem_nil⟩⟩⟩⟩⟩⟩⟩⟩⟩⟩⟩⟩⟩⟩⟩⟩
theorem lw_p16 : lw_okq (⟨"FlowDesk$Checker", "clockFault", "(LFlowDesk$Expression;I)I"⟩, 7) := ⟨⟨by decide +kernel, by decide +kernel⟩, List.mem_of_getElem? (i := 151) (by decide +kernel), List.mem_of_getElem? (i := 310) (by decide +kernel), List.mem_of_getElem? (i := 311) (by decide +kernel)⟩
theorem lw_p17 : lw_okq (⟨"FlowDesk$Checker", "ownClock", "(LFlowDesk$Expression;I)I"⟩, 7) := ⟨⟨by decide +kernel, by decide +kernel⟩, List.mem_of_getElem? (i := 151) (by decide +kernel), List.mem_of_getElem? (i := 314) (by decide +kernel), List.mem_of_getElem? (i := 315) (by decide +kernel)⟩
theorem lw_p18 : lw_okq (⟨"FlowDesk$Checker", "wantClocksOfParts", "(LFlowDesk$Expression;I)V"⟩, 7) := ⟨⟨by decide +kernel, by decide +kernel⟩, List.mem_of_getElem? (i := 151) (by decide +kernel), List.mem_of_getElem? (i := 321) (by decide +kernel), List.mem_of_getElem? (i := 322) (by decide +kernel)⟩
theorem lw_p19 : lw_okq (⟨"FlowDesk$Checker", "clockOfPart", "(LFlowDesk$Expression;II)I"⟩, 7) := ⟨⟨by decide +kernel, by decide +kernel⟩, List.mem_of_getElem? (i := 151) (by decide +kernel), List.mem_of_getElem? (i := 325) (by decide +kernel), List.mem_of_getElem? (i := 326) (by decide +kernel)⟩
theorem lw_p20 : lw_okq (⟨"FlowDesk$Checker", "beginningFault", "(LFlowDesk$Expression;)I"⟩, 7) := ⟨⟨by decide +kernel, by decide +kernel⟩, List.mem_of_getElem? (i := 151) (by decide +kernel), List.mem_of_getElem? (i := 329) (by decide +kernel), List.mem_of_getElem? (i := 330) (by decide +kernel)⟩
theorem lw_p21 : lw_okq (⟨"FlowDesk$Checker", "hasNothing", "(LFlowDesk$Expression;I)Z"⟩, 7) := ⟨⟨by decide +kernel, by decide +kernel⟩, List.mem_of_getElem? (i := 151) (by decide +kernel), List.mem_of_getElem? (i := 333) (by decide +kernel), List.mem_of_getElem? (i := 334) (by decide +kernel)⟩
theorem lw_p22 : lw_okq (⟨"FlowDesk$Waiting", "arrange", "()V"⟩, 5) := ⟨⟨by decide +kernel, by decide +kernel⟩, List.mem_of_getElem? (i := 126) (by decide +kernel), List.mem_of_getElem? (i := 337) (by decide +kernel), List.mem_of_getElem? (i := 338) (by decide +kernel)⟩
theorem lw_p23 : lw_okq (⟨"FlowDesk$Waiting", "lowestReady", "(ZI)I"⟩, 5) := ⟨⟨by decide +kernel, by decide +kernel⟩, List.mem_of_getElem? (i := 126) (by decide +kernel), List.mem_of_getElem? (i := 341) (by decide +kernel), List.mem_of_getElem? (i := 342) (by decide +kernel)⟩
theorem lw_p24 : lw_okq (⟨"FlowDesk$Network", "isClock", "(I)Z"⟩, 2) := ⟨⟨by decide +kernel, by decide +kernel⟩, List.mem_of_getElem? (i := 25) (by decide +kernel), List.mem_of_getElem? (i := 362) (by decide +kernel), List.mem_of_getElem? (i := 363) (by decide +kernel)⟩
theorem lw_p25 : lw_okq (⟨"FlowDesk$Network", "has", "(I)Z"⟩, 2) := ⟨⟨by decide +kernel, by decide +kernel⟩, List.mem_of_getElem? (i := 25) (by decide +kernel), List.mem_of_getElem? (i := 367) (by decide +kernel), List.mem_of_getElem? (i := 368) (by decide +kernel)⟩
theorem lw_p26 : lw_okq (⟨"java/lang/Throwable", "fillInStackTrace", "(I)Ljava/lang/Throwable;"⟩, 6) := ⟨⟨by decide +kernel, by decide +kernel⟩, List.mem_of_getElem? (i := 409) (by decide +kernel), List.mem_of_getElem? (i := 407) (by decide +kernel), List.mem_of_getElem? (i := 408) (by decide +kernel)⟩
theorem lw_p27 : lw_okq (⟨"FlowDesk$Network", "append", "(ZIZ)I"⟩, 2) := ⟨⟨by decide +kernel, by decide +kernel⟩, List.mem_of_getElem? (i := 25) (by decide +kernel), List.mem_of_getElem? (i := 455) (by decide +kernel), List.mem_of_getElem? (i := 456) (by decide +kernel)⟩
theorem lw_p28 : lw_okq (⟨"FlowDesk", "beginUnchecked", "()V"⟩, 5) := ⟨⟨by decide +kernel, by decide +kernel⟩, List.mem_of_getElem? (i := 17) (by decide +kernel), List.mem_of_getElem? (i := 459) (by decide +kernel), List.mem_of_getElem? (i := 460) (by decide +kernel)⟩
theorem lw_p29 : lw_okq (⟨"FlowDesk$Expression", "append", "(I)V"⟩, 5) := ⟨⟨by decide +kernel, by decide +kernel⟩, List.mem_of_getElem? (i := 38) (by decide +kernel), List.mem_of_getElem? (i := 473) (by decide +kernel), List.mem_of_getElem? (i := 474) (by decide +kernel)⟩
theorem lw_p30 : lw_okq (⟨"FlowDesk$Expression", "isWellFormed", "(I)Z"⟩, 5) := ⟨⟨by decide +kernel, by decide +kernel⟩, List.mem_of_getElem? (i := 38) (by decide +kernel), List.mem_of_getElem? (i := 485) (by decide +kernel), List.mem_of_getElem? (i := 486) (by decide +kernel)⟩
theorem lw_p31 : lw_okq (⟨"FlowDesk$Expression", "readOne", "(III)I"⟩, 5) := ⟨⟨by decide +kernel, by decide +kernel⟩, List.mem_of_getElem? (i := 38) (by decide +kernel), List.mem_of_getElem? (i := 490) (by decide +kernel), List.mem_of_getElem? (i := 491) (by decide +kernel)⟩
def lw_privs_2 : List (MethodName × Nat) := [(⟨"FlowDesk$Checker", "clockFault", "(LFlowDesk$Expression;I)I"⟩, 7), (⟨"FlowDesk$Checker", "ownClock", "(LFlowDesk$Expression;I)I"⟩, 7), (⟨"FlowDesk$Checker", "wantClocksOfParts", "(LFlowDesk$Expression;I)V"⟩, 7), (⟨"FlowDesk$Checker", "clockOfPart", "(LFlowDesk$Expression;II)I"⟩, 7), (⟨"FlowDesk$Checker", "beginningFault", "(LFlowDesk$Expression;)I"⟩, 7), (⟨"FlowDesk$Checker", "hasNothing", "(LFlowDesk$Expression;I)Z"⟩, 7), (⟨"FlowDesk$Waiting", "arrange", "()V"⟩, 5), (⟨"FlowDesk$Waiting", "lowestReady", "(ZI)I"⟩, 5), (⟨"FlowDesk$Network", "isClock", "(I)Z"⟩, 2), (⟨"FlowDesk$Network", "has", "(I)Z"⟩, 2), (⟨"java/lang/Throwable", "fillInStackTrace", "(I)Ljava/lang/Throwable;"⟩, 6), (⟨"FlowDesk$Network", "append", "(ZIZ)I"⟩, 2), (⟨"FlowDesk", "beginUnchecked", "()V"⟩, 5), (⟨"FlowDesk$Expression", "append", "(I)V"⟩, 5), (⟨"FlowDesk$Expression", "isWellFormed", "(I)Z"⟩, 5), (⟨"FlowDesk$Expression", "readOne", "(III)I"⟩, 5)]
theorem lw_r2 : ∀ q ∈ lw_privs_2, lw_okq q := List.forall_mem_cons.mpr ⟨lw_p16, List.forall_mem_cons.mpr ⟨lw_p17, List.forall_mem_cons.mpr ⟨lw_p18, List.forall_mem_cons.mpr ⟨lw_p19, List.forall_mem_cons.mpr ⟨lw_p20, List.forall_mem_cons.mpr ⟨lw_p21, List.forall_mem_cons.mpr ⟨lw_p22, List.forall_mem_cons.mpr ⟨lw_p23, List.forall_mem_cons.mpr ⟨lw_p24, List.forall_mem_cons.mpr ⟨lw_p25, List.forall_mem_cons.mpr ⟨lw_p26, List.forall_mem_cons.mpr ⟨lw_p27, List.forall_mem_cons.mpr ⟨lw_p28, List.forall_mem_cons.mpr ⟨lw_p29, List.forall_mem_cons.mpr ⟨lw_p30, List.forall_mem_cons.mpr ⟨lw_p31, fun _ h => absurd h List.not_mem_nil⟩⟩⟩⟩⟩⟩⟩⟩⟩⟩⟩⟩⟩⟩⟩⟩
theorem lw_p32 : lw_okq (⟨"FlowDesk$Clockwork", "step", "()V"⟩, 3) := ⟨⟨by decide +kernel, by decide +kernel⟩, List.mem_of_getElem? (i := 183) (by decide +kernel), List.mem_of_getElem? (i := 546) (by decide +kernel), List.mem_of_getElem? (i := 547) (by decide +kernel)⟩
theorem lw_p33 : lw_okq (⟨"FlowDesk$Clockwork", "workOut", "(LFlowDesk$Flow;)V"⟩, 3) := ⟨⟨by decide +kernel, by decide +kernel⟩, List.mem_of_getElem? (i := 183) (by decide +kernel), List.mem_of_getElem? (i := 550) (by decide +kernel), List.mem_of_getElem? (i := 551) (by decide +kernel)⟩
theorem lw_p34 : lw_okq (⟨"FlowDesk$Clockwork", "hasInstant", "(I)Z"⟩, 3) := ⟨⟨by decide +kernel, by decide +kernel⟩, List.mem_of_getElem? (i := 183) (by decide +kernel), List.mem_of_getElem? (i := 554) (by decide +kernel), List.mem_of_getElem? (i := 555) (by decide +kernel)⟩
theorem lw_p35 : lw_okq (⟨"FlowDesk$Clockwork", "resultOf", "(LFlowDesk$Expression;I)I"⟩, 3) := ⟨⟨by decide +kernel, by decide +kernel⟩, List.mem_of_getElem? (i := 183) (by decide +kernel), List.mem_of_getElem? (i := 559) (by decide +kernel), List.mem_of_getElem? (i := 560) (by decide +kernel)⟩
theorem lw_p36 : lw_okq (⟨"FlowDesk$Clockwork", "chosenPart", "(LFlowDesk$Expression;I)I"⟩, 3) := ⟨⟨by decide +kernel, by decide +kernel⟩, List.mem_of_getElem? (i := 183) (by decide +kernel), List.mem_of_getElem? (i := 564) (by decide +kernel), List.mem_of_getElem? (i := 565) (by decide +kernel)⟩
theorem lw_p37 : lw_okq (⟨"FlowDesk$Expression", "secondPart", "(I)I"⟩, 5) := ⟨⟨by decide +kernel, by decide +kernel⟩, List.mem_of_getElem? (i := 38) (by decide +kernel), List.mem_of_getElem? (i := 569) (by decide +kernel), List.mem_of_getElem? (i := 570) (by decide +kernel)⟩
theorem lw_p38 : lw_okq (⟨"FlowDesk$Expression", "thirdPart", "(I)I"⟩, 5) := ⟨⟨by decide +kernel, by decide +kernel⟩, List.mem_of_getElem? (i := 38) (by decide +kernel), List.mem_of_getElem? (i := 574) (by decide +kernel), List.mem_of_getElem? (i := 575) (by decide +kernel)⟩
theorem lw_p39 : lw_okq (⟨"FlowDesk$Clockwork", "remember", "(LFlowDesk$Expression;)V"⟩, 3) := ⟨⟨by decide +kernel, by decide +kernel⟩, List.mem_of_getElem? (i := 183) (by decide +kernel), List.mem_of_getElem? (i := 585) (by decide +kernel), List.mem_of_getElem? (i := 586) (by decide +kernel)⟩
theorem lw_p40 : lw_okq (⟨"FlowDesk$Clockwork", "countOf", "(I)I"⟩, 3) := ⟨⟨by decide +kernel, by decide +kernel⟩, List.mem_of_getElem? (i := 183) (by decide +kernel), List.mem_of_getElem? (i := 605) (by decide +kernel), List.mem_of_getElem? (i := 606) (by decide +kernel)⟩
theorem lw_p41 : lw_okq (⟨"FlowDeskModel", "throwing", "(ZZ)Z"⟩, 31) := ⟨⟨by decide +kernel, by decide +kernel⟩, List.mem_of_getElem? (i := 617) (by decide +kernel), List.mem_of_getElem? (i := 725) (by decide +kernel), List.mem_of_getElem? (i := 726) (by decide +kernel)⟩
theorem lw_p42 : lw_okq (⟨"FlowDeskModel", "again", "()V"⟩, 31) := ⟨⟨by decide +kernel, by decide +kernel⟩, List.mem_of_getElem? (i := 617) (by decide +kernel), List.mem_of_getElem? (i := 729) (by decide +kernel), List.mem_of_getElem? (i := 730) (by decide +kernel)⟩
theorem lw_p43 : lw_okq (⟨"FlowDeskModel", "restart", "()V"⟩, 31) := ⟨⟨by decide +kernel, by decide +kernel⟩, List.mem_of_getElem? (i := 617) (by decide +kernel), List.mem_of_getElem? (i := 733) (by decide +kernel), List.mem_of_getElem? (i := 734) (by decide +kernel)⟩
theorem lw_p44 : lw_okq (⟨"FlowDeskModel", "isWhole", "()Z"⟩, 31) := ⟨⟨by decide +kernel, by decide +kernel⟩, List.mem_of_getElem? (i := 617) (by decide +kernel), List.mem_of_getElem? (i := 746) (by decide +kernel), List.mem_of_getElem? (i := 747) (by decide +kernel)⟩
theorem lw_p45 : lw_okq (⟨"FlowDeskModel", "push", "(I)V"⟩, 31) := ⟨⟨by decide +kernel, by decide +kernel⟩, List.mem_of_getElem? (i := 617) (by decide +kernel), List.mem_of_getElem? (i := 750) (by decide +kernel), List.mem_of_getElem? (i := 751) (by decide +kernel)⟩
theorem lw_p46 : lw_okq (⟨"FlowDeskModel", "pop", "()I"⟩, 31) := ⟨⟨by decide +kernel, by decide +kernel⟩, List.mem_of_getElem? (i := 617) (by decide +kernel), List.mem_of_getElem? (i := 754) (by decide +kernel), List.mem_of_getElem? (i := 755) (by decide +kernel)⟩
theorem lw_p47 : lw_okq (⟨"FlowDeskModel", "findWaits", "()V"⟩, 31) := ⟨⟨by decide +kernel, by decide +kernel⟩, List.mem_of_getElem? (i := 617) (by decide +kernel), List.mem_of_getElem? (i := 768) (by decide +kernel), List.mem_of_getElem? (i := 769) (by decide +kernel)⟩
def lw_privs_3 : List (MethodName × Nat) := [(⟨"FlowDesk$Clockwork", "step", "()V"⟩, 3), (⟨"FlowDesk$Clockwork", "workOut", "(LFlowDesk$Flow;)V"⟩, 3), (⟨"FlowDesk$Clockwork", "hasInstant", "(I)Z"⟩, 3), (⟨"FlowDesk$Clockwork", "resultOf", "(LFlowDesk$Expression;I)I"⟩, 3), (⟨"FlowDesk$Clockwork", "chosenPart", "(LFlowDesk$Expression;I)I"⟩, 3), (⟨"FlowDesk$Expression", "secondPart", "(I)I"⟩, 5), (⟨"FlowDesk$Expression", "thirdPart", "(I)I"⟩, 5), (⟨"FlowDesk$Clockwork", "remember", "(LFlowDesk$Expression;)V"⟩, 3), (⟨"FlowDesk$Clockwork", "countOf", "(I)I"⟩, 3), (⟨"FlowDeskModel", "throwing", "(ZZ)Z"⟩, 31), (⟨"FlowDeskModel", "again", "()V"⟩, 31), (⟨"FlowDeskModel", "restart", "()V"⟩, 31), (⟨"FlowDeskModel", "isWhole", "()Z"⟩, 31), (⟨"FlowDeskModel", "push", "(I)V"⟩, 31), (⟨"FlowDeskModel", "pop", "()I"⟩, 31), (⟨"FlowDeskModel", "findWaits", "()V"⟩, 31)]
theorem lw_r3 : ∀ q ∈ lw_privs_3, lw_okq q := List.forall_mem_cons.mpr ⟨lw_p32, List.forall_mem_cons.mpr ⟨lw_p33, List.forall_mem_cons.mpr ⟨lw_p34, List.forall_mem_cons.mpr ⟨lw_p35, List.forall_mem_cons.mpr ⟨lw_p36, List.forall_mem_cons.mpr ⟨lw_p37, List.forall_mem_cons.mpr ⟨lw_p38, List.forall_mem_cons.mpr ⟨lw_p39, List.forall_mem_cons.mpr ⟨lw_p40, List.forall_mem_cons.mpr ⟨lw_p41, List.forall_mem_cons.mpr ⟨lw_p42, List.forall_mem_cons.mpr ⟨lw_p43, List.forall_mem_cons.mpr ⟨lw_p44, List.forall_mem_cons.mpr ⟨lw_p45, List.forall_mem_cons.mpr ⟨lw_p46, List.forall_mem_cons.mpr ⟨lw_p47, fun _ h => absurd h List.not_mem_nil⟩⟩⟩⟩⟩⟩⟩⟩⟩⟩⟩⟩⟩⟩⟩⟩
theorem lw_p48 : lw_okq (⟨"FlowDeskModel", "named", "(I)I"⟩, 31) := ⟨⟨by decide +kernel, by decide +kernel⟩, List.mem_of_getElem? (i := 617) (by decide +kernel), List.mem_of_getElem? (i := 772) (by decide +kernel), List.mem_of_getElem? (i := 773) (by decide +kernel)⟩
theorem lw_p49 : lw_okq (⟨"FlowDeskModel", "want", "(III)V"⟩, 31) := ⟨⟨by decide +kernel, by decide +kernel⟩, List.mem_of_getElem? (i := 617) (by decide +kernel), List.mem_of_getElem? (i := 776) (by decide +kernel), List.mem_of_getElem? (i := 777) (by decide +kernel)⟩
theorem lw_p50 : lw_okq (⟨"FlowDeskModel", "fails", "(II)Z"⟩, 31) := ⟨⟨by decide +kernel, by decide +kernel⟩, List.mem_of_getElem? (i := 617) (by decide +kernel), List.mem_of_getElem? (i := 780) (by decide +kernel), List.mem_of_getElem? (i := 781) (by decide +kernel)⟩
theorem lw_p51 : lw_okq (⟨"FlowDeskModel", "types", "(I)V"⟩, 31) := ⟨⟨by decide +kernel, by decide +kernel⟩, List.mem_of_getElem? (i := 617) (by decide +kernel), List.mem_of_getElem? (i := 784) (by decide +kernel), List.mem_of_getElem? (i := 785) (by decide +kernel)⟩
theorem lw_p52 : lw_okq (⟨"FlowDeskModel", "note", "(I)V"⟩, 31) := ⟨⟨by decide +kernel, by decide +kernel⟩, List.mem_of_getElem? (i := 617) (by decide +kernel), List.mem_of_getElem? (i := 788) (by decide +kernel), List.mem_of_getElem? (i := 789) (by decide +kernel)⟩
theorem lw_p53 : lw_okq (⟨"FlowDeskModel", "clocks", "(I)V"⟩, 31) := ⟨⟨by decide +kernel, by decide +kernel⟩, List.mem_of_getElem? (i := 617) (by decide +kernel), List.mem_of_getElem? (i := 792) (by decide +kernel), List.mem_of_getElem? (i := 793) (by decide +kernel)⟩
theorem lw_p54 : lw_okq (⟨"FlowDeskModel", "beginnings", "(I)V"⟩, 31) := ⟨⟨by decide +kernel, by decide +kernel⟩, List.mem_of_getElem? (i := 617) (by decide +kernel), List.mem_of_getElem? (i := 796) (by decide +kernel), List.mem_of_getElem? (i := 797) (by decide +kernel)⟩
theorem lw_p55 : lw_okq (⟨"FlowDeskModel", "arrange", "()V"⟩, 31) := ⟨⟨by decide +kernel, by decide +kernel⟩, List.mem_of_getElem? (i := 617) (by decide +kernel), List.mem_of_getElem? (i := 800) (by decide +kernel), List.mem_of_getElem? (i := 801) (by decide +kernel)⟩
theorem lw_p56 : lw_okq (⟨"FlowDeskModel", "instant", "()V"⟩, 31) := ⟨⟨by decide +kernel, by decide +kernel⟩, List.mem_of_getElem? (i := 617) (by decide +kernel), List.mem_of_getElem? (i := 820) (by decide +kernel), List.mem_of_getElem? (i := 821) (by decide +kernel)⟩
theorem lw_p57 : lw_okq (⟨"FlowDeskModel", "has", "(I)Z"⟩, 31) := ⟨⟨by decide +kernel, by decide +kernel⟩, List.mem_of_getElem? (i := 617) (by decide +kernel), List.mem_of_getElem? (i := 824) (by decide +kernel), List.mem_of_getElem? (i := 825) (by decide +kernel)⟩
theorem lw_p58 : lw_okq (⟨"FlowDeskModel", "reckonAll", "(I)I"⟩, 31) := ⟨⟨by decide +kernel, by decide +kernel⟩, List.mem_of_getElem? (i := 617) (by decide +kernel), List.mem_of_getElem? (i := 828) (by decide +kernel), List.mem_of_getElem? (i := 829) (by decide +kernel)⟩
theorem lw_p59 : lw_okq (⟨"FlowDeskModel", "keep", "(I)V"⟩, 31) := ⟨⟨by decide +kernel, by decide +kernel⟩, List.mem_of_getElem? (i := 617) (by decide +kernel), List.mem_of_getElem? (i := 835) (by decide +kernel), List.mem_of_getElem? (i := 836) (by decide +kernel)⟩
def lw_privs_4 : List (MethodName × Nat) := [(⟨"FlowDeskModel", "named", "(I)I"⟩, 31), (⟨"FlowDeskModel", "want", "(III)V"⟩, 31), (⟨"FlowDeskModel", "fails", "(II)Z"⟩, 31), (⟨"FlowDeskModel", "types", "(I)V"⟩, 31), (⟨"FlowDeskModel", "note", "(I)V"⟩, 31), (⟨"FlowDeskModel", "clocks", "(I)V"⟩, 31), (⟨"FlowDeskModel", "beginnings", "(I)V"⟩, 31), (⟨"FlowDeskModel", "arrange", "()V"⟩, 31), (⟨"FlowDeskModel", "instant", "()V"⟩, 31), (⟨"FlowDeskModel", "has", "(I)Z"⟩, 31), (⟨"FlowDeskModel", "reckonAll", "(I)I"⟩, 31), (⟨"FlowDeskModel", "keep", "(I)V"⟩, 31)]
theorem lw_r4 : ∀ q ∈ lw_privs_4, lw_okq q := List.forall_mem_cons.mpr ⟨lw_p48, List.forall_mem_cons.mpr ⟨lw_p49, List.forall_mem_cons.mpr ⟨lw_p50, List.forall_mem_cons.mpr ⟨lw_p51, List.forall_mem_cons.mpr ⟨lw_p52, List.forall_mem_cons.mpr ⟨lw_p53, List.forall_mem_cons.mpr ⟨lw_p54, List.forall_mem_cons.mpr ⟨lw_p55, List.forall_mem_cons.mpr ⟨lw_p56, List.forall_mem_cons.mpr ⟨lw_p57, List.forall_mem_cons.mpr ⟨lw_p58, List.forall_mem_cons.mpr ⟨lw_p59, fun _ h => absurd h List.not_mem_nil⟩⟩⟩⟩⟩⟩⟩⟩⟩⟩⟩⟩
def lw_privs : List (MethodName × Nat) := lw_privs_1 ++ (lw_privs_2 ++ (lw_privs_3 ++ (lw_privs_4)))
def lw_tbl : List Cond := k2_sels lw_privs ++ tables_1
theorem lw_privs_ok : ∀ q ∈ lw_privs, lw_okq q := by
  show ∀ q ∈ lw_privs_1 ++ (lw_privs_2 ++ (lw_privs_3 ++ (lw_privs_4))), lw_okq q
  exact List.forall_mem_append.mpr ⟨lw_r1, List.forall_mem_append.mpr ⟨lw_r2, List.forall_mem_append.mpr ⟨lw_r3, lw_r4⟩⟩⟩
end
section
/-! Names: classes, their fields in the order of the slots, methods and their bytes. Written by wip/gen/names.py out of claim/Statement.lean and claim/JAVAP.txt. -/
def R_K : String := "FlowDesk$Checker"
def T_K : u_T := fun k => match k with
  | 0 => ("FlowDesk$Checker", "network", "LFlowDesk$Network;", true)
  | 1 => ("FlowDesk$Checker", "waiting", "LFlowDesk$Waiting;", true)
  | 2 => ("FlowDesk$Checker", "wantedTypes", "[I", true)
  | 3 => ("FlowDesk$Checker", "maybeNothing", "[Z", true)
  | 4 => ("FlowDesk$Checker", "passed", "Z", false)
  | 5 => ("FlowDesk$Checker", "faultFlow", "I", false)
  | _ => ("FlowDesk$Checker", "faultByte", "I", false)
def t_K : Nat → FieldType := fun k => match k with
  | 0 => .object "FlowDesk$Network"
  | 1 => .object "FlowDesk$Waiting"
  | 2 => .array .int
  | 3 => .array .boolean
  | 4 => .boolean
  | 5 => .int
  | _ => .int
theorem n_K : ∀ a, a < 7 → ∀ b, b < 7 → a ≠ b → (T_K a).2.1 ≠ (T_K b).2.1 := by decide +kernel
theorem p_K : ∀ k, k < 7 → parseFieldDescriptor (T_K k).2.2.1 = some (t_K k) := by decide +kernel
def R_C : String := "FlowDesk$Clockwork"
def T_C : u_T := fun k => match k with
  | 0 => ("FlowDesk$Clockwork", "network", "LFlowDesk$Network;", true)
  | 1 => ("FlowDesk$Clockwork", "waiting", "LFlowDesk$Waiting;", true)
  | _ => ("FlowDesk$Clockwork", "counts", "[I", true)
def t_C : Nat → FieldType := fun k => match k with
  | 0 => .object "FlowDesk$Network"
  | 1 => .object "FlowDesk$Waiting"
  | _ => .array .int
theorem n_C : ∀ a, a < 3 → ∀ b, b < 3 → a ≠ b → (T_C a).2.1 ≠ (T_C b).2.1 := by decide +kernel
theorem p_C : ∀ k, k < 3 → parseFieldDescriptor (T_C k).2.2.1 = some (t_C k) := by decide +kernel
def R_E : String := "FlowDesk$Expression"
def T_E : u_T := fun k => match k with
  | 0 => ("FlowDesk$Expression", "bytes", "[I", true)
  | 1 => ("FlowDesk$Expression", "ends", "[I", true)
  | 2 => ("FlowDesk$Expression", "clocks", "[I", true)
  | 3 => ("FlowDesk$Expression", "past", "[I", true)
  | _ => ("FlowDesk$Expression", "length", "I", false)
def t_E : Nat → FieldType := fun k => match k with
  | 0 => .array .int
  | 1 => .array .int
  | 2 => .array .int
  | 3 => .array .int
  | _ => .int
theorem n_E : ∀ a, a < 5 → ∀ b, b < 5 → a ≠ b → (T_E a).2.1 ≠ (T_E b).2.1 := by decide +kernel
theorem p_E : ∀ k, k < 5 → parseFieldDescriptor (T_E k).2.2.1 = some (t_E k) := by decide +kernel
def R_F : String := "FlowDesk$Flow"
def T_F : u_T := fun k => match k with
  | 0 => ("FlowDesk$Flow", "expression", "LFlowDesk$Expression;", false)
  | 1 => ("FlowDesk$Flow", "bool", "Z", false)
  | 2 => ("FlowDesk$Flow", "input", "Z", false)
  | 3 => ("FlowDesk$Flow", "clock", "I", false)
  | 4 => ("FlowDesk$Flow", "host", "I", false)
  | 5 => ("FlowDesk$Flow", "isPresent", "Z", false)
  | _ => ("FlowDesk$Flow", "latest", "I", false)
def t_F : Nat → FieldType := fun k => match k with
  | 0 => .object "FlowDesk$Expression"
  | 1 => .boolean
  | 2 => .boolean
  | 3 => .int
  | 4 => .int
  | 5 => .boolean
  | _ => .int
theorem n_F : ∀ a, a < 7 → ∀ b, b < 7 → a ≠ b → (T_F a).2.1 ≠ (T_F b).2.1 := by decide +kernel
theorem p_F : ∀ k, k < 7 → parseFieldDescriptor (T_F k).2.2.1 = some (t_F k) := by decide +kernel
def R_N : String := "FlowDesk$Network"
def T_N : u_T := fun k => match k with
  | 0 => ("FlowDesk$Network", "rows", "[LFlowDesk$Flow;", true)
  | _ => ("FlowDesk$Network", "count", "I", false)
def t_N : Nat → FieldType := fun k => match k with
  | 0 => .array (.object "FlowDesk$Flow")
  | _ => .int
theorem n_N : ∀ a, a < 2 → ∀ b, b < 2 → a ≠ b → (T_N a).2.1 ≠ (T_N b).2.1 := by decide +kernel
theorem p_N : ∀ k, k < 2 → parseFieldDescriptor (T_N k).2.2.1 = some (t_N k) := by decide +kernel
def R_W : String := "FlowDesk$Waiting"
def T_W : u_T := fun k => match k with
  | 0 => ("FlowDesk$Waiting", "network", "LFlowDesk$Network;", true)
  | 1 => ("FlowDesk$Waiting", "masks", "[I", true)
  | 2 => ("FlowDesk$Waiting", "order", "[I", true)
  | 3 => ("FlowDesk$Waiting", "ordered", "I", false)
  | _ => ("FlowDesk$Waiting", "turns", "[I", true)
def t_W : Nat → FieldType := fun k => match k with
  | 0 => .object "FlowDesk$Network"
  | 1 => .array .int
  | 2 => .array .int
  | 3 => .int
  | _ => .array .int
theorem n_W : ∀ a, a < 5 → ∀ b, b < 5 → a ≠ b → (T_W a).2.1 ≠ (T_W b).2.1 := by decide +kernel
theorem p_W : ∀ k, k < 5 → parseFieldDescriptor (T_W k).2.2.1 = some (t_W k) := by decide +kernel
def R_D : String := "FlowDesk"
def T_D : u_T := fun k => match k with
  | 0 => ("FlowDesk", "network", "LFlowDesk$Network;", true)
  | 1 => ("FlowDesk", "waiting", "LFlowDesk$Waiting;", true)
  | 2 => ("FlowDesk", "checker", "LFlowDesk$Checker;", true)
  | 3 => ("FlowDesk", "clockwork", "LFlowDesk$Clockwork;", true)
  | _ => ("FlowDesk", "draft", "LFlowDesk$Expression;", false)
def t_D : Nat → FieldType := fun k => match k with
  | 0 => .object "FlowDesk$Network"
  | 1 => .object "FlowDesk$Waiting"
  | 2 => .object "FlowDesk$Checker"
  | 3 => .object "FlowDesk$Clockwork"
  | _ => .object "FlowDesk$Expression"
theorem n_D : ∀ a, a < 5 → ∀ b, b < 5 → a ≠ b → (T_D a).2.1 ≠ (T_D b).2.1 := by decide +kernel
theorem p_D : ∀ k, k < 5 → parseFieldDescriptor (T_D k).2.2.1 = some (t_D k) := by decide +kernel
def R_M : String := "FlowDeskModel"
def T_M : u_T := fun k => match k with
  | 0 => ("FlowDeskModel", "thrown", "I", false)
  | 1 => ("FlowDeskModel", "flows", "I", false)
  | 2 => ("FlowDeskModel", "bool", "[Z", true)
  | 3 => ("FlowDeskModel", "input", "[Z", true)
  | 4 => ("FlowDeskModel", "clock", "[I", true)
  | 5 => ("FlowDeskModel", "wanted", "[I", true)
  | 6 => ("FlowDeskModel", "value", "[I", true)
  | 7 => ("FlowDeskModel", "seen", "[I", true)
  | 8 => ("FlowDeskModel", "present", "[Z", true)
  | 9 => ("FlowDeskModel", "waits", "[I", true)
  | 10 => ("FlowDeskModel", "size", "[I", true)
  | 11 => ("FlowDeskModel", "parts", "[I", true)
  | 12 => ("FlowDeskModel", "bytes", "[I", true)
  | 13 => ("FlowDeskModel", "begin", "[I", true)
  | 14 => ("FlowDeskModel", "on", "[I", true)
  | 15 => ("FlowDeskModel", "kept", "[I", true)
  | 16 => ("FlowDeskModel", "next", "[I", true)
  | 17 => ("FlowDeskModel", "started", "[Z", true)
  | 18 => ("FlowDeskModel", "draft", "[I", true)
  | 19 => ("FlowDeskModel", "drafted", "I", false)
  | 20 => ("FlowDeskModel", "starts", "[I", true)
  | 21 => ("FlowDeskModel", "found", "I", false)
  | 22 => ("FlowDeskModel", "time", "I", false)
  | 23 => ("FlowDeskModel", "good", "Z", false)
  | 24 => ("FlowDeskModel", "faultFlow", "I", false)
  | 25 => ("FlowDeskModel", "faultByte", "I", false)
  | 26 => ("FlowDeskModel", "order", "[I", true)
  | 27 => ("FlowDeskModel", "ordered", "I", false)
  | 28 => ("FlowDeskModel", "stack", "[I", true)
  | 29 => ("FlowDeskModel", "top", "I", false)
  | _ => ("FlowDeskModel", "place", "I", false)
def t_M : Nat → FieldType := fun k => match k with
  | 0 => .int
  | 1 => .int
  | 2 => .array .boolean
  | 3 => .array .boolean
  | 4 => .array .int
  | 5 => .array .int
  | 6 => .array .int
  | 7 => .array .int
  | 8 => .array .boolean
  | 9 => .array .int
  | 10 => .array .int
  | 11 => .array .int
  | 12 => .array .int
  | 13 => .array .int
  | 14 => .array .int
  | 15 => .array .int
  | 16 => .array .int
  | 17 => .array .boolean
  | 18 => .array .int
  | 19 => .int
  | 20 => .array .int
  | 21 => .int
  | 22 => .int
  | 23 => .boolean
  | 24 => .int
  | 25 => .int
  | 26 => .array .int
  | 27 => .int
  | 28 => .array .int
  | 29 => .int
  | _ => .int
theorem n_M : ∀ a, a < 31 → ∀ b, b < 31 → a ≠ b → (T_M a).2.1 ≠ (T_M b).2.1 := by decide +kernel
theorem p_M : ∀ k, k < 31 → parseFieldDescriptor (T_M k).2.2.1 = some (t_M k) := by decide +kernel
abbrev fk_cl : List vw_C := [(R_K, T_K, 7), (R_C, T_C, 3), (R_E, T_E, 5), (R_F, T_F, 7), (R_N, T_N, 2), (R_W, T_W, 5), (R_D, T_D, 5), (R_M, T_M, 31)]
abbrev b_D_init : ByteArray := prog_1_method_1_code
def y_D_init : MethodName := ⟨"FlowDesk", "<init>", "()V"⟩
abbrev b_N_init : ByteArray := prog_6_method_1_code
def y_N_init : MethodName := ⟨"FlowDesk$Network", "<init>", "()V"⟩
abbrev b_F_init : ByteArray := prog_5_method_1_code
def y_F_init : MethodName := ⟨"FlowDesk$Flow", "<init>", "()V"⟩
abbrev b_E_init : ByteArray := prog_4_method_1_code
def y_E_init : MethodName := ⟨"FlowDesk$Expression", "<init>", "()V"⟩
abbrev b_W_init : ByteArray := prog_7_method_1_code
def y_W_init : MethodName := ⟨"FlowDesk$Waiting", "<init>", "(LFlowDesk$Network;)V"⟩
abbrev b_K_init : ByteArray := prog_2_method_1_code
def y_K_init : MethodName := ⟨"FlowDesk$Checker", "<init>", "(LFlowDesk$Network;LFlowDesk$Waiting;)V"⟩
abbrev b_C_init : ByteArray := prog_3_method_1_code
def y_C_init : MethodName := ⟨"FlowDesk$Clockwork", "<init>", "(LFlowDesk$Network;LFlowDesk$Waiting;)V"⟩
abbrev b_D_check : ByteArray := prog_1_method_5_code
def y_D_check : MethodName := ⟨"FlowDesk", "check", "()I"⟩
abbrev b_C_restart : ByteArray := prog_3_method_2_code
def y_C_restart : MethodName := ⟨"FlowDesk$Clockwork", "restart", "()V"⟩
abbrev b_A_fill : ByteArray := prog_16_method_103_code
def y_A_fill : MethodName := ⟨"java/util/Arrays", "fill", "([II)V"⟩
abbrev b_K_examine : ByteArray := prog_2_method_3_code
def y_K_examine : MethodName := ⟨"FlowDesk$Checker", "examine", "()I"⟩
abbrev b_K_forget : ByteArray := prog_2_method_2_code
def y_K_forget : MethodName := ⟨"FlowDesk$Checker", "forget", "()V"⟩
abbrev b_W_trace : ByteArray := prog_7_method_2_code
def y_W_trace : MethodName := ⟨"FlowDesk$Waiting", "trace", "()V"⟩
abbrev b_W_directWaits : ByteArray := prog_7_method_3_code
def y_W_directWaits : MethodName := ⟨"FlowDesk$Waiting", "directWaits", "(LFlowDesk$Flow;)I"⟩
abbrev b_D_flowBehind : ByteArray := prog_1_method_19_code
def y_D_flowBehind : MethodName := ⟨"FlowDesk", "flowBehind", "(I)I"⟩
abbrev b_E_beginsAt : ByteArray := prog_4_method_5_code
def y_E_beginsAt : MethodName := ⟨"FlowDesk$Expression", "beginsAt", "(I)Z"⟩
abbrev b_D_namesFlow : ByteArray := prog_1_method_16_code
def y_D_namesFlow : MethodName := ⟨"FlowDesk", "namesFlow", "(I)Z"⟩
abbrev b_D_isSampling : ByteArray := prog_1_method_17_code
def y_D_isSampling : MethodName := ⟨"FlowDesk", "isSampling", "(I)Z"⟩
abbrev b_E_named : ByteArray := prog_4_method_9_code
def y_E_named : MethodName := ⟨"FlowDesk$Expression", "named", "(I)I"⟩
abbrev b_W_waitsFor : ByteArray := prog_7_method_4_code
def y_W_waitsFor : MethodName := ⟨"FlowDesk$Waiting", "waitsFor", "(II)Z"⟩
abbrev b_K_holdsForAll : ByteArray := prog_2_method_4_code
def y_K_holdsForAll : MethodName := ⟨"FlowDesk$Checker", "holdsForAll", "(I)Z"⟩
abbrev b_K_faultOf : ByteArray := prog_2_method_5_code
def y_K_faultOf : MethodName := ⟨"FlowDesk$Checker", "faultOf", "(II)I"⟩
abbrev b_F_hasEquation : ByteArray := prog_5_method_2_code
def y_F_hasEquation : MethodName := ⟨"FlowDesk$Flow", "hasEquation", "()Z"⟩
abbrev b_N_typeOf : ByteArray := prog_6_method_5_code
def y_N_typeOf : MethodName := ⟨"FlowDesk$Network", "typeOf", "(I)I"⟩
abbrev b_K_typeFault : ByteArray := prog_2_method_6_code
def y_K_typeFault : MethodName := ⟨"FlowDesk$Checker", "typeFault", "(LFlowDesk$Expression;I)I"⟩
abbrev b_K_isOfType : ByteArray := prog_2_method_7_code
def y_K_isOfType : MethodName := ⟨"FlowDesk$Checker", "isOfType", "(LFlowDesk$Expression;II)Z"⟩
abbrev b_K_wantTypesOfParts : ByteArray := prog_2_method_8_code
def y_K_wantTypesOfParts : MethodName := ⟨"FlowDesk$Checker", "wantTypesOfParts", "(LFlowDesk$Expression;I)V"⟩
abbrev b_E_firstPart : ByteArray := prog_4_method_6_code
def y_E_firstPart : MethodName := ⟨"FlowDesk$Expression", "firstPart", "(I)I"⟩
abbrev b_K_clockFault : ByteArray := prog_2_method_9_code
def y_K_clockFault : MethodName := ⟨"FlowDesk$Checker", "clockFault", "(LFlowDesk$Expression;I)I"⟩
abbrev b_K_ownClock : ByteArray := prog_2_method_10_code
def y_K_ownClock : MethodName := ⟨"FlowDesk$Checker", "ownClock", "(LFlowDesk$Expression;I)I"⟩
abbrev b_D_clockWhere : ByteArray := prog_1_method_18_code
def y_D_clockWhere : MethodName := ⟨"FlowDesk", "clockWhere", "(IZ)I"⟩
abbrev b_K_wantClocksOfParts : ByteArray := prog_2_method_11_code
def y_K_wantClocksOfParts : MethodName := ⟨"FlowDesk$Checker", "wantClocksOfParts", "(LFlowDesk$Expression;I)V"⟩
abbrev b_K_clockOfPart : ByteArray := prog_2_method_12_code
def y_K_clockOfPart : MethodName := ⟨"FlowDesk$Checker", "clockOfPart", "(LFlowDesk$Expression;II)I"⟩
abbrev b_K_beginningFault : ByteArray := prog_2_method_13_code
def y_K_beginningFault : MethodName := ⟨"FlowDesk$Checker", "beginningFault", "(LFlowDesk$Expression;)I"⟩
abbrev b_K_hasNothing : ByteArray := prog_2_method_14_code
def y_K_hasNothing : MethodName := ⟨"FlowDesk$Checker", "hasNothing", "(LFlowDesk$Expression;I)Z"⟩
abbrev b_W_arrange : ByteArray := prog_7_method_5_code
def y_W_arrange : MethodName := ⟨"FlowDesk$Waiting", "arrange", "()V"⟩
abbrev b_W_lowestReady : ByteArray := prog_7_method_6_code
def y_W_lowestReady : MethodName := ⟨"FlowDesk$Waiting", "lowestReady", "(ZI)I"⟩
abbrev b_D_time : ByteArray := prog_1_method_10_code
def y_D_time : MethodName := ⟨"FlowDesk", "time", "()I"⟩
abbrev b_D_flows : ByteArray := prog_1_method_14_code
def y_D_flows : MethodName := ⟨"FlowDesk", "flows", "()I"⟩
abbrev b_D_flow : ByteArray := prog_1_method_2_code
def y_D_flow : MethodName := ⟨"FlowDesk", "flow", "(ZIZ)I"⟩
abbrev b_N_isClock : ByteArray := prog_6_method_3_code
def y_N_isClock : MethodName := ⟨"FlowDesk$Network", "isClock", "(I)Z"⟩
abbrev b_N_has : ByteArray := prog_6_method_2_code
def y_N_has : MethodName := ⟨"FlowDesk$Network", "has", "(I)Z"⟩
abbrev b_N_append : ByteArray := prog_6_method_4_code
def y_N_append : MethodName := ⟨"FlowDesk$Network", "append", "(ZIZ)I"⟩
abbrev b_D_beginUnchecked : ByteArray := prog_1_method_15_code
def y_D_beginUnchecked : MethodName := ⟨"FlowDesk", "beginUnchecked", "()V"⟩
abbrev b_D_type : ByteArray := prog_1_method_3_code
def y_D_type : MethodName := ⟨"FlowDesk", "type", "(JI)V"⟩
abbrev b_E_append : ByteArray := prog_4_method_2_code
def y_E_append : MethodName := ⟨"FlowDesk$Expression", "append", "(I)V"⟩
abbrev b_D_equation : ByteArray := prog_1_method_4_code
def y_D_equation : MethodName := ⟨"FlowDesk", "equation", "(I)V"⟩
abbrev b_E_isWellFormed : ByteArray := prog_4_method_3_code
def y_E_isWellFormed : MethodName := ⟨"FlowDesk$Expression", "isWellFormed", "(I)Z"⟩
abbrev b_E_readOne : ByteArray := prog_4_method_4_code
def y_E_readOne : MethodName := ⟨"FlowDesk$Expression", "readOne", "(III)I"⟩
abbrev b_D_fault : ByteArray := prog_1_method_6_code
def y_D_fault : MethodName := ⟨"FlowDesk", "fault", "(I)I"⟩
abbrev b_D_order : ByteArray := prog_1_method_7_code
def y_D_order : MethodName := ⟨"FlowDesk", "order", "(I)I"⟩
abbrev b_D_set : ByteArray := prog_1_method_8_code
def y_D_set : MethodName := ⟨"FlowDesk", "set", "(II)V"⟩
abbrev b_D_instants : ByteArray := prog_1_method_9_code
def y_D_instants : MethodName := ⟨"FlowDesk", "instants", "(I)V"⟩
abbrev b_C_step : ByteArray := prog_3_method_4_code
def y_C_step : MethodName := ⟨"FlowDesk$Clockwork", "step", "()V"⟩
abbrev b_C_workOut : ByteArray := prog_3_method_5_code
def y_C_workOut : MethodName := ⟨"FlowDesk$Clockwork", "workOut", "(LFlowDesk$Flow;)V"⟩
abbrev b_C_hasInstant : ByteArray := prog_3_method_6_code
def y_C_hasInstant : MethodName := ⟨"FlowDesk$Clockwork", "hasInstant", "(I)Z"⟩
abbrev b_C_resultOf : ByteArray := prog_3_method_8_code
def y_C_resultOf : MethodName := ⟨"FlowDesk$Clockwork", "resultOf", "(LFlowDesk$Expression;I)I"⟩
abbrev b_C_chosenPart : ByteArray := prog_3_method_9_code
def y_C_chosenPart : MethodName := ⟨"FlowDesk$Clockwork", "chosenPart", "(LFlowDesk$Expression;I)I"⟩
abbrev b_E_secondPart : ByteArray := prog_4_method_7_code
def y_E_secondPart : MethodName := ⟨"FlowDesk$Expression", "secondPart", "(I)I"⟩
abbrev b_E_thirdPart : ByteArray := prog_4_method_8_code
def y_E_thirdPart : MethodName := ⟨"FlowDesk$Expression", "thirdPart", "(I)I"⟩
abbrev b_C_combine : ByteArray := prog_3_method_10_code
def y_C_combine : MethodName := ⟨"FlowDesk$Clockwork", "combine", "(III)I"⟩
abbrev b_D_truth : ByteArray := prog_1_method_20_code
def y_D_truth : MethodName := ⟨"FlowDesk", "truth", "(Z)I"⟩
abbrev b_C_remember : ByteArray := prog_3_method_7_code
def y_C_remember : MethodName := ⟨"FlowDesk$Clockwork", "remember", "(LFlowDesk$Expression;)V"⟩
abbrev b_D_present : ByteArray := prog_1_method_11_code
def y_D_present : MethodName := ⟨"FlowDesk", "present", "(I)Z"⟩
abbrev b_D_value : ByteArray := prog_1_method_12_code
def y_D_value : MethodName := ⟨"FlowDesk", "value", "(I)I"⟩
abbrev b_C_countOf : ByteArray := prog_3_method_3_code
def y_C_countOf : MethodName := ⟨"FlowDesk$Clockwork", "countOf", "(I)I"⟩
abbrev b_D_seen : ByteArray := prog_1_method_13_code
def y_D_seen : MethodName := ⟨"FlowDesk", "seen", "(I)I"⟩
abbrev b_M_init : ByteArray := prog_9_method_1_code
def y_M_init : MethodName := ⟨"FlowDeskModel", "<init>", "()V"⟩
abbrev b_M_thrown : ByteArray := prog_9_method_2_code
def y_M_thrown : MethodName := ⟨"FlowDeskModel", "thrown", "()I"⟩
abbrev b_M_flow : ByteArray := prog_9_method_10_code
def y_M_flow : MethodName := ⟨"FlowDeskModel", "flow", "(ZIZ)I"⟩
abbrev b_M_throwing : ByteArray := prog_9_method_3_code
def y_M_throwing : MethodName := ⟨"FlowDeskModel", "throwing", "(ZZ)Z"⟩
abbrev b_M_again : ByteArray := prog_9_method_9_code
def y_M_again : MethodName := ⟨"FlowDeskModel", "again", "()V"⟩
abbrev b_M_restart : ByteArray := prog_9_method_8_code
def y_M_restart : MethodName := ⟨"FlowDeskModel", "restart", "()V"⟩
abbrev b_M_type : ByteArray := prog_9_method_11_code
def y_M_type : MethodName := ⟨"FlowDeskModel", "type", "(JI)V"⟩
abbrev b_M_equation : ByteArray := prog_9_method_13_code
def y_M_equation : MethodName := ⟨"FlowDeskModel", "equation", "(I)V"⟩
abbrev b_M_isWhole : ByteArray := prog_9_method_12_code
def y_M_isWhole : MethodName := ⟨"FlowDeskModel", "isWhole", "()Z"⟩
abbrev b_M_push : ByteArray := prog_9_method_5_code
def y_M_push : MethodName := ⟨"FlowDeskModel", "push", "(I)V"⟩
abbrev b_M_pop : ByteArray := prog_9_method_6_code
def y_M_pop : MethodName := ⟨"FlowDeskModel", "pop", "()I"⟩
abbrev b_M_many : ByteArray := prog_9_method_7_code
def y_M_many : MethodName := ⟨"FlowDeskModel", "many", "(I)I"⟩
abbrev b_M_out : ByteArray := prog_9_method_4_code
def y_M_out : MethodName := ⟨"FlowDeskModel", "out", "(II)Z"⟩
abbrev b_M_check : ByteArray := prog_9_method_22_code
def y_M_check : MethodName := ⟨"FlowDeskModel", "check", "()I"⟩
abbrev b_M_findWaits : ByteArray := prog_9_method_20_code
def y_M_findWaits : MethodName := ⟨"FlowDeskModel", "findWaits", "()V"⟩
abbrev b_M_named : ByteArray := prog_9_method_19_code
def y_M_named : MethodName := ⟨"FlowDeskModel", "named", "(I)I"⟩
abbrev b_M_want : ByteArray := prog_9_method_15_code
def y_M_want : MethodName := ⟨"FlowDeskModel", "want", "(III)V"⟩
abbrev b_M_fails : ByteArray := prog_9_method_21_code
def y_M_fails : MethodName := ⟨"FlowDeskModel", "fails", "(II)Z"⟩
abbrev b_M_types : ByteArray := prog_9_method_16_code
def y_M_types : MethodName := ⟨"FlowDeskModel", "types", "(I)V"⟩
abbrev b_M_note : ByteArray := prog_9_method_14_code
def y_M_note : MethodName := ⟨"FlowDeskModel", "note", "(I)V"⟩
abbrev b_M_clocks : ByteArray := prog_9_method_17_code
def y_M_clocks : MethodName := ⟨"FlowDeskModel", "clocks", "(I)V"⟩
abbrev b_M_beginnings : ByteArray := prog_9_method_18_code
def y_M_beginnings : MethodName := ⟨"FlowDeskModel", "beginnings", "(I)V"⟩
abbrev b_M_arrange : ByteArray := prog_9_method_23_code
def y_M_arrange : MethodName := ⟨"FlowDeskModel", "arrange", "()V"⟩
abbrev b_M_fault : ByteArray := prog_9_method_24_code
def y_M_fault : MethodName := ⟨"FlowDeskModel", "fault", "(I)I"⟩
abbrev b_M_order : ByteArray := prog_9_method_25_code
def y_M_order : MethodName := ⟨"FlowDeskModel", "order", "(I)I"⟩
abbrev b_M_set : ByteArray := prog_9_method_26_code
def y_M_set : MethodName := ⟨"FlowDeskModel", "set", "(II)V"⟩
abbrev b_M_instants : ByteArray := prog_9_method_32_code
def y_M_instants : MethodName := ⟨"FlowDeskModel", "instants", "(I)V"⟩
abbrev b_M_instant : ByteArray := prog_9_method_30_code
def y_M_instant : MethodName := ⟨"FlowDeskModel", "instant", "()V"⟩
abbrev b_M_has : ByteArray := prog_9_method_27_code
def y_M_has : MethodName := ⟨"FlowDeskModel", "has", "(I)Z"⟩
abbrev b_M_reckonAll : ByteArray := prog_9_method_29_code
def y_M_reckonAll : MethodName := ⟨"FlowDeskModel", "reckonAll", "(I)I"⟩
abbrev b_M_reckon : ByteArray := prog_9_method_28_code
def y_M_reckon : MethodName := ⟨"FlowDeskModel", "reckon", "(IIII)I"⟩
abbrev b_M_keep : ByteArray := prog_9_method_31_code
def y_M_keep : MethodName := ⟨"FlowDeskModel", "keep", "(I)V"⟩
abbrev b_M_time : ByteArray := prog_9_method_33_code
def y_M_time : MethodName := ⟨"FlowDeskModel", "time", "()I"⟩
abbrev b_M_present : ByteArray := prog_9_method_34_code
def y_M_present : MethodName := ⟨"FlowDeskModel", "present", "(I)Z"⟩
abbrev b_M_value : ByteArray := prog_9_method_35_code
def y_M_value : MethodName := ⟨"FlowDeskModel", "value", "(I)I"⟩
abbrev b_M_seen : ByteArray := prog_9_method_36_code
def y_M_seen : MethodName := ⟨"FlowDeskModel", "seen", "(I)I"⟩
abbrev b_M_flows : ByteArray := prog_9_method_37_code
def y_M_flows : MethodName := ⟨"FlowDeskModel", "flows", "()I"⟩
abbrev b_L_flow : ByteArray := method_3_code
def y_L_flow : MethodName := ⟨"FlowDeskLaw", "flow", "(LFlowDesk;ZIZ[J)I"⟩
abbrev b_L_type : ByteArray := method_4_code
def y_L_type : MethodName := ⟨"FlowDeskLaw", "type", "(LFlowDesk;JI)I"⟩
abbrev b_L_equation : ByteArray := method_5_code
def y_L_equation : MethodName := ⟨"FlowDeskLaw", "equation", "(LFlowDesk;I)I"⟩
abbrev b_L_fault : ByteArray := method_6_code
def y_L_fault : MethodName := ⟨"FlowDeskLaw", "fault", "(LFlowDesk;I[J)I"⟩
abbrev b_L_order : ByteArray := method_7_code
def y_L_order : MethodName := ⟨"FlowDeskLaw", "order", "(LFlowDesk;I[J)I"⟩
abbrev b_L_set : ByteArray := method_8_code
def y_L_set : MethodName := ⟨"FlowDeskLaw", "set", "(LFlowDesk;II)I"⟩
abbrev b_L_instants : ByteArray := method_9_code
def y_L_instants : MethodName := ⟨"FlowDeskLaw", "instants", "(LFlowDesk;I)I"⟩
abbrev b_L_present : ByteArray := method_10_code
def y_L_present : MethodName := ⟨"FlowDeskLaw", "present", "(LFlowDesk;I[J)I"⟩
abbrev b_L_value : ByteArray := method_11_code
def y_L_value : MethodName := ⟨"FlowDeskLaw", "value", "(LFlowDesk;I[J)I"⟩
abbrev b_L_seen : ByteArray := method_12_code
def y_L_seen : MethodName := ⟨"FlowDeskLaw", "seen", "(LFlowDesk;I[J)I"⟩
/-- the words that stay true: of the tables, and the selections of private methods -/
def fk_ALL : List Cond := lw_tbl.filter goodWord
theorem fk_good (w : Cond) (h : w ∈ fk_ALL) : goodWord w = true := (List.mem_filter.mp h).2
theorem fk_mt {w : Cond} (h : w ∈ tables_1) (hg : goodWord w = true) : w ∈ fk_ALL := List.mem_filter.mpr ⟨List.mem_append_right _ h, hg⟩
theorem fk_mp {q : MethodName × Nat} (h : q ∈ lw_privs) : Cond.selects q.1.cls q.1 q.1 ∈ fk_ALL := List.mem_filter.mpr ⟨List.mem_append_left _ (List.mem_map.mpr ⟨q, h, rfl⟩), rfl⟩
end
section
/-! Words of the tables, by their places. -/
theorem i_0 : (Cond.initialized "FlowDeskLaw") ∈ fk_ALL := fk_mt (List.mem_of_getElem? (i := 0) (by decide +kernel)) (by decide +kernel)
theorem i_1 : (Cond.initialized "FlowDesk") ∈ fk_ALL := fk_mt (List.mem_of_getElem? (i := 1) (by decide +kernel)) (by decide +kernel)
theorem i_2 : (Cond.initialized "FlowDesk$Network") ∈ fk_ALL := fk_mt (List.mem_of_getElem? (i := 2) (by decide +kernel)) (by decide +kernel)
theorem i_3 : (Cond.initialized "FlowDesk$Flow") ∈ fk_ALL := fk_mt (List.mem_of_getElem? (i := 3) (by decide +kernel)) (by decide +kernel)
theorem i_4 : (Cond.initialized "FlowDesk$Expression") ∈ fk_ALL := fk_mt (List.mem_of_getElem? (i := 4) (by decide +kernel)) (by decide +kernel)
theorem i_5 : (Cond.initialized "FlowDesk$Waiting") ∈ fk_ALL := fk_mt (List.mem_of_getElem? (i := 5) (by decide +kernel)) (by decide +kernel)
theorem i_6 : (Cond.initialized "FlowDesk$Checker") ∈ fk_ALL := fk_mt (List.mem_of_getElem? (i := 6) (by decide +kernel)) (by decide +kernel)
theorem i_7 : (Cond.initialized "FlowDesk$Clockwork") ∈ fk_ALL := fk_mt (List.mem_of_getElem? (i := 7) (by decide +kernel)) (by decide +kernel)
theorem i_8 : (Cond.initialized "FlowDeskModel") ∈ fk_ALL := fk_mt (List.mem_of_getElem? (i := 8) (by decide +kernel)) (by decide +kernel)
theorem i_9 : (Cond.initialized "java/lang/Throwable") ∈ fk_ALL := fk_mt (List.mem_of_getElem? (i := 9) (by decide +kernel)) (by decide +kernel)
theorem i_10 : (Cond.initialized "java/lang/Exception") ∈ fk_ALL := fk_mt (List.mem_of_getElem? (i := 10) (by decide +kernel)) (by decide +kernel)
theorem i_11 : (Cond.initialized "java/lang/RuntimeException") ∈ fk_ALL := fk_mt (List.mem_of_getElem? (i := 11) (by decide +kernel)) (by decide +kernel)
theorem i_12 : (Cond.initialized "java/lang/IllegalArgumentException") ∈ fk_ALL := fk_mt (List.mem_of_getElem? (i := 12) (by decide +kernel)) (by decide +kernel)
theorem i_13 : (Cond.initialized "java/lang/IllegalStateException") ∈ fk_ALL := fk_mt (List.mem_of_getElem? (i := 13) (by decide +kernel)) (by decide +kernel)
theorem i_14 : (Cond.initialized "java/util/Arrays") ∈ fk_ALL := fk_mt (List.mem_of_getElem? (i := 14) (by decide +kernel)) (by decide +kernel)
theorem i_15 : (Cond.initialized "java/util/NoSuchElementException") ∈ fk_ALL := fk_mt (List.mem_of_getElem? (i := 15) (by decide +kernel)) (by decide +kernel)
theorem i_16 : (Cond.classLink "FlowDeskLaw" (8 : Nat) "FlowDesk") ∈ fk_ALL := fk_mt (List.mem_of_getElem? (i := 16) (by decide +kernel)) (by decide +kernel)
theorem i_17 : (Cond.instantiable "FlowDesk" (5 : Nat)) ∈ fk_ALL := fk_mt (List.mem_of_getElem? (i := 17) (by decide +kernel)) (by decide +kernel)
theorem i_18 : (Cond.methodLink "FlowDeskLaw" (51 : Nat) ({ cls := "FlowDesk", name := "<init>", desc := "()V" } : MethodName)) ∈ fk_ALL := fk_mt (List.mem_of_getElem? (i := 18) (by decide +kernel)) (by decide +kernel)
theorem i_19 : (Cond.instanceMethod ({ cls := "FlowDesk", name := "<init>", desc := "()V" } : MethodName)) ∈ fk_ALL := fk_mt (List.mem_of_getElem? (i := 19) (by decide +kernel)) (by decide +kernel)
theorem i_20 : (Cond.code ({ cls := "FlowDesk", name := "<init>", desc := "()V" } : MethodName) prog_1_method_1_code (1 : Nat) (none : Option FieldType)) ∈ fk_ALL := fk_mt (List.mem_of_getElem? (i := 20) (by decide +kernel)) (by decide +kernel)
theorem i_21 : (Cond.methodLink "FlowDesk" (3 : Nat) ({ cls := "java/lang/Object", name := "<init>", desc := "()V" } : MethodName)) ∈ fk_ALL := fk_mt (List.mem_of_getElem? (i := 21) (by decide +kernel)) (by decide +kernel)
theorem i_22 : (Cond.instanceMethod ({ cls := "java/lang/Object", name := "<init>", desc := "()V" } : MethodName)) ∈ fk_ALL := fk_mt (List.mem_of_getElem? (i := 22) (by decide +kernel)) (by decide +kernel)
theorem i_23 : (Cond.code ({ cls := "java/lang/Object", name := "<init>", desc := "()V" } : MethodName) object_method_1_code (1 : Nat) (none : Option FieldType)) ∈ fk_ALL := fk_mt (List.mem_of_getElem? (i := 23) (by decide +kernel)) (by decide +kernel)
theorem i_24 : (Cond.classLink "FlowDesk" (9 : Nat) "FlowDesk$Network") ∈ fk_ALL := fk_mt (List.mem_of_getElem? (i := 24) (by decide +kernel)) (by decide +kernel)
theorem i_25 : (Cond.instantiable "FlowDesk$Network" (2 : Nat)) ∈ fk_ALL := fk_mt (List.mem_of_getElem? (i := 25) (by decide +kernel)) (by decide +kernel)
theorem i_27 : (Cond.instanceMethod ({ cls := "FlowDesk$Network", name := "<init>", desc := "()V" } : MethodName)) ∈ fk_ALL := fk_mt (List.mem_of_getElem? (i := 27) (by decide +kernel)) (by decide +kernel)
theorem i_28 : (Cond.code ({ cls := "FlowDesk$Network", name := "<init>", desc := "()V" } : MethodName) prog_6_method_1_code (2 : Nat) (none : Option FieldType)) ∈ fk_ALL := fk_mt (List.mem_of_getElem? (i := 28) (by decide +kernel)) (by decide +kernel)
theorem i_29 : (Cond.methodLink "FlowDesk$Network" (3 : Nat) ({ cls := "java/lang/Object", name := "<init>", desc := "()V" } : MethodName)) ∈ fk_ALL := fk_mt (List.mem_of_getElem? (i := 29) (by decide +kernel)) (by decide +kernel)
theorem i_30 : (Cond.classLink "FlowDesk$Network" (9 : Nat) "FlowDesk$Flow") ∈ fk_ALL := fk_mt (List.mem_of_getElem? (i := 30) (by decide +kernel)) (by decide +kernel)
theorem i_32 : (Cond.instantiable "FlowDesk$Flow" (7 : Nat)) ∈ fk_ALL := fk_mt (List.mem_of_getElem? (i := 32) (by decide +kernel)) (by decide +kernel)
theorem i_34 : (Cond.instanceMethod ({ cls := "FlowDesk$Flow", name := "<init>", desc := "()V" } : MethodName)) ∈ fk_ALL := fk_mt (List.mem_of_getElem? (i := 34) (by decide +kernel)) (by decide +kernel)
theorem i_35 : (Cond.code ({ cls := "FlowDesk$Flow", name := "<init>", desc := "()V" } : MethodName) prog_5_method_1_code (1 : Nat) (none : Option FieldType)) ∈ fk_ALL := fk_mt (List.mem_of_getElem? (i := 35) (by decide +kernel)) (by decide +kernel)
theorem i_36 : (Cond.methodLink "FlowDesk$Flow" (1 : Nat) ({ cls := "java/lang/Object", name := "<init>", desc := "()V" } : MethodName)) ∈ fk_ALL := fk_mt (List.mem_of_getElem? (i := 36) (by decide +kernel)) (by decide +kernel)
theorem i_37 : (Cond.classLink "FlowDesk$Flow" (7 : Nat) "FlowDesk$Expression") ∈ fk_ALL := fk_mt (List.mem_of_getElem? (i := 37) (by decide +kernel)) (by decide +kernel)
theorem i_38 : (Cond.instantiable "FlowDesk$Expression" (5 : Nat)) ∈ fk_ALL := fk_mt (List.mem_of_getElem? (i := 38) (by decide +kernel)) (by decide +kernel)
theorem i_40 : (Cond.instanceMethod ({ cls := "FlowDesk$Expression", name := "<init>", desc := "()V" } : MethodName)) ∈ fk_ALL := fk_mt (List.mem_of_getElem? (i := 40) (by decide +kernel)) (by decide +kernel)
theorem i_41 : (Cond.code ({ cls := "FlowDesk$Expression", name := "<init>", desc := "()V" } : MethodName) prog_4_method_1_code (1 : Nat) (none : Option FieldType)) ∈ fk_ALL := fk_mt (List.mem_of_getElem? (i := 41) (by decide +kernel)) (by decide +kernel)
theorem i_42 : (Cond.methodLink "FlowDesk$Expression" (3 : Nat) ({ cls := "java/lang/Object", name := "<init>", desc := "()V" } : MethodName)) ∈ fk_ALL := fk_mt (List.mem_of_getElem? (i := 42) (by decide +kernel)) (by decide +kernel)
theorem i_43 : (Cond.fieldLink "FlowDesk$Expression" (9 : Nat) "FlowDesk$Expression" "bytes" "[I") ∈ fk_ALL := fk_mt (List.mem_of_getElem? (i := 43) (by decide +kernel)) (by decide +kernel)
theorem i_47 : (Cond.fieldLink "FlowDesk$Expression" (15 : Nat) "FlowDesk$Expression" "ends" "[I") ∈ fk_ALL := fk_mt (List.mem_of_getElem? (i := 47) (by decide +kernel)) (by decide +kernel)
theorem i_50 : (Cond.fieldLink "FlowDesk$Expression" (18 : Nat) "FlowDesk$Expression" "clocks" "[I") ∈ fk_ALL := fk_mt (List.mem_of_getElem? (i := 50) (by decide +kernel)) (by decide +kernel)
theorem i_53 : (Cond.fieldLink "FlowDesk$Expression" (21 : Nat) "FlowDesk$Expression" "past" "[I") ∈ fk_ALL := fk_mt (List.mem_of_getElem? (i := 53) (by decide +kernel)) (by decide +kernel)
theorem i_56 : (Cond.fieldLink "FlowDesk$Expression" (24 : Nat) "FlowDesk$Expression" "length" "I") ∈ fk_ALL := fk_mt (List.mem_of_getElem? (i := 56) (by decide +kernel)) (by decide +kernel)
theorem i_61 : (Cond.laysFinal "FlowDesk$Expression" "FlowDesk$Expression" "bytes" "[I") ∈ fk_ALL := fk_mt (List.mem_of_getElem? (i := 61) (by decide +kernel)) (by decide +kernel)
theorem i_63 : (Cond.laysFinal "FlowDesk$Expression" "FlowDesk$Expression" "ends" "[I") ∈ fk_ALL := fk_mt (List.mem_of_getElem? (i := 63) (by decide +kernel)) (by decide +kernel)
theorem i_65 : (Cond.laysFinal "FlowDesk$Expression" "FlowDesk$Expression" "clocks" "[I") ∈ fk_ALL := fk_mt (List.mem_of_getElem? (i := 65) (by decide +kernel)) (by decide +kernel)
theorem i_67 : (Cond.laysFinal "FlowDesk$Expression" "FlowDesk$Expression" "past" "[I") ∈ fk_ALL := fk_mt (List.mem_of_getElem? (i := 67) (by decide +kernel)) (by decide +kernel)
theorem i_69 : (Cond.lays "FlowDesk$Expression" "FlowDesk$Expression" "length" "I") ∈ fk_ALL := fk_mt (List.mem_of_getElem? (i := 69) (by decide +kernel)) (by decide +kernel)
theorem i_73 : (Cond.fieldLink "FlowDesk$Flow" (10 : Nat) "FlowDesk$Flow" "expression" "LFlowDesk$Expression;") ∈ fk_ALL := fk_mt (List.mem_of_getElem? (i := 73) (by decide +kernel)) (by decide +kernel)
theorem i_95 : (Cond.lays "FlowDesk$Flow" "FlowDesk$Flow" "expression" "LFlowDesk$Expression;") ∈ fk_ALL := fk_mt (List.mem_of_getElem? (i := 95) (by decide +kernel)) (by decide +kernel)
theorem i_97 : (Cond.lays "FlowDesk$Flow" "FlowDesk$Flow" "bool" "Z") ∈ fk_ALL := fk_mt (List.mem_of_getElem? (i := 97) (by decide +kernel)) (by decide +kernel)
theorem i_99 : (Cond.lays "FlowDesk$Flow" "FlowDesk$Flow" "input" "Z") ∈ fk_ALL := fk_mt (List.mem_of_getElem? (i := 99) (by decide +kernel)) (by decide +kernel)
theorem i_101 : (Cond.lays "FlowDesk$Flow" "FlowDesk$Flow" "clock" "I") ∈ fk_ALL := fk_mt (List.mem_of_getElem? (i := 101) (by decide +kernel)) (by decide +kernel)
theorem i_103 : (Cond.lays "FlowDesk$Flow" "FlowDesk$Flow" "host" "I") ∈ fk_ALL := fk_mt (List.mem_of_getElem? (i := 103) (by decide +kernel)) (by decide +kernel)
theorem i_105 : (Cond.lays "FlowDesk$Flow" "FlowDesk$Flow" "isPresent" "Z") ∈ fk_ALL := fk_mt (List.mem_of_getElem? (i := 105) (by decide +kernel)) (by decide +kernel)
theorem i_107 : (Cond.lays "FlowDesk$Flow" "FlowDesk$Flow" "latest" "I") ∈ fk_ALL := fk_mt (List.mem_of_getElem? (i := 107) (by decide +kernel)) (by decide +kernel)
theorem i_110 : (Cond.fieldLink "FlowDesk$Network" (11 : Nat) "FlowDesk$Network" "rows" "[LFlowDesk$Flow;") ∈ fk_ALL := fk_mt (List.mem_of_getElem? (i := 110) (by decide +kernel)) (by decide +kernel)
theorem i_115 : (Cond.fieldLink "FlowDesk$Network" (18 : Nat) "FlowDesk$Network" "count" "I") ∈ fk_ALL := fk_mt (List.mem_of_getElem? (i := 115) (by decide +kernel)) (by decide +kernel)
theorem i_120 : (Cond.laysFinal "FlowDesk$Network" "FlowDesk$Network" "rows" "[LFlowDesk$Flow;") ∈ fk_ALL := fk_mt (List.mem_of_getElem? (i := 120) (by decide +kernel)) (by decide +kernel)
theorem i_122 : (Cond.lays "FlowDesk$Network" "FlowDesk$Network" "count" "I") ∈ fk_ALL := fk_mt (List.mem_of_getElem? (i := 122) (by decide +kernel)) (by decide +kernel)
theorem i_125 : (Cond.classLink "FlowDesk" (16 : Nat) "FlowDesk$Waiting") ∈ fk_ALL := fk_mt (List.mem_of_getElem? (i := 125) (by decide +kernel)) (by decide +kernel)
theorem i_126 : (Cond.instantiable "FlowDesk$Waiting" (5 : Nat)) ∈ fk_ALL := fk_mt (List.mem_of_getElem? (i := 126) (by decide +kernel)) (by decide +kernel)
theorem i_128 : (Cond.instanceMethod ({ cls := "FlowDesk$Waiting", name := "<init>", desc := "(LFlowDesk$Network;)V" } : MethodName)) ∈ fk_ALL := fk_mt (List.mem_of_getElem? (i := 128) (by decide +kernel)) (by decide +kernel)
theorem i_129 : (Cond.code ({ cls := "FlowDesk$Waiting", name := "<init>", desc := "(LFlowDesk$Network;)V" } : MethodName) prog_7_method_1_code (2 : Nat) (none : Option FieldType)) ∈ fk_ALL := fk_mt (List.mem_of_getElem? (i := 129) (by decide +kernel)) (by decide +kernel)
theorem i_130 : (Cond.methodLink "FlowDesk$Waiting" (3 : Nat) ({ cls := "java/lang/Object", name := "<init>", desc := "()V" } : MethodName)) ∈ fk_ALL := fk_mt (List.mem_of_getElem? (i := 130) (by decide +kernel)) (by decide +kernel)
theorem i_131 : (Cond.fieldLink "FlowDesk$Waiting" (21 : Nat) "FlowDesk$Waiting" "network" "LFlowDesk$Network;") ∈ fk_ALL := fk_mt (List.mem_of_getElem? (i := 131) (by decide +kernel)) (by decide +kernel)
theorem i_132 : (Cond.fieldLink "FlowDesk$Waiting" (9 : Nat) "FlowDesk$Waiting" "masks" "[I") ∈ fk_ALL := fk_mt (List.mem_of_getElem? (i := 132) (by decide +kernel)) (by decide +kernel)
theorem i_133 : (Cond.fieldLink "FlowDesk$Waiting" (15 : Nat) "FlowDesk$Waiting" "order" "[I") ∈ fk_ALL := fk_mt (List.mem_of_getElem? (i := 133) (by decide +kernel)) (by decide +kernel)
theorem i_135 : (Cond.fieldLink "FlowDesk$Waiting" (77 : Nat) "FlowDesk$Waiting" "ordered" "I") ∈ fk_ALL := fk_mt (List.mem_of_getElem? (i := 135) (by decide +kernel)) (by decide +kernel)
theorem i_137 : (Cond.fieldLink "FlowDesk$Waiting" (18 : Nat) "FlowDesk$Waiting" "turns" "[I") ∈ fk_ALL := fk_mt (List.mem_of_getElem? (i := 137) (by decide +kernel)) (by decide +kernel)
theorem i_139 : (Cond.laysFinal "FlowDesk$Waiting" "FlowDesk$Waiting" "network" "LFlowDesk$Network;") ∈ fk_ALL := fk_mt (List.mem_of_getElem? (i := 139) (by decide +kernel)) (by decide +kernel)
theorem i_141 : (Cond.laysFinal "FlowDesk$Waiting" "FlowDesk$Waiting" "masks" "[I") ∈ fk_ALL := fk_mt (List.mem_of_getElem? (i := 141) (by decide +kernel)) (by decide +kernel)
theorem i_143 : (Cond.laysFinal "FlowDesk$Waiting" "FlowDesk$Waiting" "order" "[I") ∈ fk_ALL := fk_mt (List.mem_of_getElem? (i := 143) (by decide +kernel)) (by decide +kernel)
theorem i_145 : (Cond.lays "FlowDesk$Waiting" "FlowDesk$Waiting" "ordered" "I") ∈ fk_ALL := fk_mt (List.mem_of_getElem? (i := 145) (by decide +kernel)) (by decide +kernel)
theorem i_147 : (Cond.laysFinal "FlowDesk$Waiting" "FlowDesk$Waiting" "turns" "[I") ∈ fk_ALL := fk_mt (List.mem_of_getElem? (i := 147) (by decide +kernel)) (by decide +kernel)
theorem i_150 : (Cond.classLink "FlowDesk" (25 : Nat) "FlowDesk$Checker") ∈ fk_ALL := fk_mt (List.mem_of_getElem? (i := 150) (by decide +kernel)) (by decide +kernel)
theorem i_151 : (Cond.instantiable "FlowDesk$Checker" (7 : Nat)) ∈ fk_ALL := fk_mt (List.mem_of_getElem? (i := 151) (by decide +kernel)) (by decide +kernel)
theorem i_153 : (Cond.instanceMethod ({ cls := "FlowDesk$Checker", name := "<init>", desc := "(LFlowDesk$Network;LFlowDesk$Waiting;)V" } : MethodName)) ∈ fk_ALL := fk_mt (List.mem_of_getElem? (i := 153) (by decide +kernel)) (by decide +kernel)
theorem i_154 : (Cond.code ({ cls := "FlowDesk$Checker", name := "<init>", desc := "(LFlowDesk$Network;LFlowDesk$Waiting;)V" } : MethodName) prog_2_method_1_code (3 : Nat) (none : Option FieldType)) ∈ fk_ALL := fk_mt (List.mem_of_getElem? (i := 154) (by decide +kernel)) (by decide +kernel)
theorem i_155 : (Cond.methodLink "FlowDesk$Checker" (3 : Nat) ({ cls := "java/lang/Object", name := "<init>", desc := "()V" } : MethodName)) ∈ fk_ALL := fk_mt (List.mem_of_getElem? (i := 155) (by decide +kernel)) (by decide +kernel)
theorem i_156 : (Cond.fieldLink "FlowDesk$Checker" (26 : Nat) "FlowDesk$Checker" "network" "LFlowDesk$Network;") ∈ fk_ALL := fk_mt (List.mem_of_getElem? (i := 156) (by decide +kernel)) (by decide +kernel)
theorem i_157 : (Cond.fieldLink "FlowDesk$Checker" (30 : Nat) "FlowDesk$Checker" "waiting" "LFlowDesk$Waiting;") ∈ fk_ALL := fk_mt (List.mem_of_getElem? (i := 157) (by decide +kernel)) (by decide +kernel)
theorem i_158 : (Cond.fieldLink "FlowDesk$Checker" (9 : Nat) "FlowDesk$Checker" "wantedTypes" "[I") ∈ fk_ALL := fk_mt (List.mem_of_getElem? (i := 158) (by decide +kernel)) (by decide +kernel)
theorem i_159 : (Cond.fieldLink "FlowDesk$Checker" (15 : Nat) "FlowDesk$Checker" "maybeNothing" "[Z") ∈ fk_ALL := fk_mt (List.mem_of_getElem? (i := 159) (by decide +kernel)) (by decide +kernel)
theorem i_160 : (Cond.fieldLink "FlowDesk$Checker" (34 : Nat) "FlowDesk$Checker" "passed" "Z") ∈ fk_ALL := fk_mt (List.mem_of_getElem? (i := 160) (by decide +kernel)) (by decide +kernel)
theorem i_162 : (Cond.fieldLink "FlowDesk$Checker" (19 : Nat) "FlowDesk$Checker" "faultFlow" "I") ∈ fk_ALL := fk_mt (List.mem_of_getElem? (i := 162) (by decide +kernel)) (by decide +kernel)
theorem i_164 : (Cond.fieldLink "FlowDesk$Checker" (23 : Nat) "FlowDesk$Checker" "faultByte" "I") ∈ fk_ALL := fk_mt (List.mem_of_getElem? (i := 164) (by decide +kernel)) (by decide +kernel)
theorem i_166 : (Cond.laysFinal "FlowDesk$Checker" "FlowDesk$Checker" "network" "LFlowDesk$Network;") ∈ fk_ALL := fk_mt (List.mem_of_getElem? (i := 166) (by decide +kernel)) (by decide +kernel)
theorem i_168 : (Cond.laysFinal "FlowDesk$Checker" "FlowDesk$Checker" "waiting" "LFlowDesk$Waiting;") ∈ fk_ALL := fk_mt (List.mem_of_getElem? (i := 168) (by decide +kernel)) (by decide +kernel)
theorem i_170 : (Cond.laysFinal "FlowDesk$Checker" "FlowDesk$Checker" "wantedTypes" "[I") ∈ fk_ALL := fk_mt (List.mem_of_getElem? (i := 170) (by decide +kernel)) (by decide +kernel)
theorem i_172 : (Cond.laysFinal "FlowDesk$Checker" "FlowDesk$Checker" "maybeNothing" "[Z") ∈ fk_ALL := fk_mt (List.mem_of_getElem? (i := 172) (by decide +kernel)) (by decide +kernel)
theorem i_174 : (Cond.lays "FlowDesk$Checker" "FlowDesk$Checker" "passed" "Z") ∈ fk_ALL := fk_mt (List.mem_of_getElem? (i := 174) (by decide +kernel)) (by decide +kernel)
theorem i_176 : (Cond.lays "FlowDesk$Checker" "FlowDesk$Checker" "faultFlow" "I") ∈ fk_ALL := fk_mt (List.mem_of_getElem? (i := 176) (by decide +kernel)) (by decide +kernel)
theorem i_178 : (Cond.lays "FlowDesk$Checker" "FlowDesk$Checker" "faultByte" "I") ∈ fk_ALL := fk_mt (List.mem_of_getElem? (i := 178) (by decide +kernel)) (by decide +kernel)
theorem i_182 : (Cond.classLink "FlowDesk" (34 : Nat) "FlowDesk$Clockwork") ∈ fk_ALL := fk_mt (List.mem_of_getElem? (i := 182) (by decide +kernel)) (by decide +kernel)
theorem i_183 : (Cond.instantiable "FlowDesk$Clockwork" (3 : Nat)) ∈ fk_ALL := fk_mt (List.mem_of_getElem? (i := 183) (by decide +kernel)) (by decide +kernel)
theorem i_185 : (Cond.instanceMethod ({ cls := "FlowDesk$Clockwork", name := "<init>", desc := "(LFlowDesk$Network;LFlowDesk$Waiting;)V" } : MethodName)) ∈ fk_ALL := fk_mt (List.mem_of_getElem? (i := 185) (by decide +kernel)) (by decide +kernel)
theorem i_186 : (Cond.code ({ cls := "FlowDesk$Clockwork", name := "<init>", desc := "(LFlowDesk$Network;LFlowDesk$Waiting;)V" } : MethodName) prog_3_method_1_code (3 : Nat) (none : Option FieldType)) ∈ fk_ALL := fk_mt (List.mem_of_getElem? (i := 186) (by decide +kernel)) (by decide +kernel)
theorem i_187 : (Cond.methodLink "FlowDesk$Clockwork" (3 : Nat) ({ cls := "java/lang/Object", name := "<init>", desc := "()V" } : MethodName)) ∈ fk_ALL := fk_mt (List.mem_of_getElem? (i := 187) (by decide +kernel)) (by decide +kernel)
theorem i_188 : (Cond.fieldLink "FlowDesk$Clockwork" (15 : Nat) "FlowDesk$Clockwork" "network" "LFlowDesk$Network;") ∈ fk_ALL := fk_mt (List.mem_of_getElem? (i := 188) (by decide +kernel)) (by decide +kernel)
theorem i_189 : (Cond.fieldLink "FlowDesk$Clockwork" (19 : Nat) "FlowDesk$Clockwork" "waiting" "LFlowDesk$Waiting;") ∈ fk_ALL := fk_mt (List.mem_of_getElem? (i := 189) (by decide +kernel)) (by decide +kernel)
theorem i_190 : (Cond.fieldLink "FlowDesk$Clockwork" (9 : Nat) "FlowDesk$Clockwork" "counts" "[I") ∈ fk_ALL := fk_mt (List.mem_of_getElem? (i := 190) (by decide +kernel)) (by decide +kernel)
theorem i_192 : (Cond.laysFinal "FlowDesk$Clockwork" "FlowDesk$Clockwork" "network" "LFlowDesk$Network;") ∈ fk_ALL := fk_mt (List.mem_of_getElem? (i := 192) (by decide +kernel)) (by decide +kernel)
theorem i_194 : (Cond.laysFinal "FlowDesk$Clockwork" "FlowDesk$Clockwork" "waiting" "LFlowDesk$Waiting;") ∈ fk_ALL := fk_mt (List.mem_of_getElem? (i := 194) (by decide +kernel)) (by decide +kernel)
theorem i_196 : (Cond.laysFinal "FlowDesk$Clockwork" "FlowDesk$Clockwork" "counts" "[I") ∈ fk_ALL := fk_mt (List.mem_of_getElem? (i := 196) (by decide +kernel)) (by decide +kernel)
theorem i_199 : (Cond.classLink "FlowDesk" (41 : Nat) "FlowDesk$Expression") ∈ fk_ALL := fk_mt (List.mem_of_getElem? (i := 199) (by decide +kernel)) (by decide +kernel)
theorem i_201 : (Cond.fieldLink "FlowDesk" (12 : Nat) "FlowDesk" "network" "LFlowDesk$Network;") ∈ fk_ALL := fk_mt (List.mem_of_getElem? (i := 201) (by decide +kernel)) (by decide +kernel)
theorem i_202 : (Cond.fieldLink "FlowDesk" (21 : Nat) "FlowDesk" "waiting" "LFlowDesk$Waiting;") ∈ fk_ALL := fk_mt (List.mem_of_getElem? (i := 202) (by decide +kernel)) (by decide +kernel)
theorem i_203 : (Cond.fieldLink "FlowDesk" (30 : Nat) "FlowDesk" "checker" "LFlowDesk$Checker;") ∈ fk_ALL := fk_mt (List.mem_of_getElem? (i := 203) (by decide +kernel)) (by decide +kernel)
theorem i_204 : (Cond.fieldLink "FlowDesk" (37 : Nat) "FlowDesk" "clockwork" "LFlowDesk$Clockwork;") ∈ fk_ALL := fk_mt (List.mem_of_getElem? (i := 204) (by decide +kernel)) (by decide +kernel)
theorem i_205 : (Cond.fieldLink "FlowDesk" (44 : Nat) "FlowDesk" "draft" "LFlowDesk$Expression;") ∈ fk_ALL := fk_mt (List.mem_of_getElem? (i := 205) (by decide +kernel)) (by decide +kernel)
theorem i_206 : (Cond.laysFinal "FlowDesk" "FlowDesk" "network" "LFlowDesk$Network;") ∈ fk_ALL := fk_mt (List.mem_of_getElem? (i := 206) (by decide +kernel)) (by decide +kernel)
theorem i_208 : (Cond.laysFinal "FlowDesk" "FlowDesk" "waiting" "LFlowDesk$Waiting;") ∈ fk_ALL := fk_mt (List.mem_of_getElem? (i := 208) (by decide +kernel)) (by decide +kernel)
theorem i_210 : (Cond.laysFinal "FlowDesk" "FlowDesk" "checker" "LFlowDesk$Checker;") ∈ fk_ALL := fk_mt (List.mem_of_getElem? (i := 210) (by decide +kernel)) (by decide +kernel)
theorem i_212 : (Cond.laysFinal "FlowDesk" "FlowDesk" "clockwork" "LFlowDesk$Clockwork;") ∈ fk_ALL := fk_mt (List.mem_of_getElem? (i := 212) (by decide +kernel)) (by decide +kernel)
theorem i_214 : (Cond.lays "FlowDesk" "FlowDesk" "draft" "LFlowDesk$Expression;") ∈ fk_ALL := fk_mt (List.mem_of_getElem? (i := 214) (by decide +kernel)) (by decide +kernel)
theorem i_217 : (Cond.methodLink "FlowDeskLaw" (75 : Nat) ({ cls := "FlowDesk", name := "check", desc := "()I" } : MethodName)) ∈ fk_ALL := fk_mt (List.mem_of_getElem? (i := 217) (by decide +kernel)) (by decide +kernel)
theorem i_218 : (Cond.instanceMethod ({ cls := "FlowDesk", name := "check", desc := "()I" } : MethodName)) ∈ fk_ALL := fk_mt (List.mem_of_getElem? (i := 218) (by decide +kernel)) (by decide +kernel)
theorem i_219 : (Cond.selects "FlowDesk" ({ cls := "FlowDesk", name := "check", desc := "()I" } : MethodName) ({ cls := "FlowDesk", name := "check", desc := "()I" } : MethodName)) ∈ fk_ALL := fk_mt (List.mem_of_getElem? (i := 219) (by decide +kernel)) (by decide +kernel)
theorem i_220 : (Cond.code ({ cls := "FlowDesk", name := "check", desc := "()I" } : MethodName) prog_1_method_5_code (1 : Nat) (some .int)) ∈ fk_ALL := fk_mt (List.mem_of_getElem? (i := 220) (by decide +kernel)) (by decide +kernel)
theorem i_223 : (Cond.instanceMethod ({ cls := "FlowDesk$Clockwork", name := "restart", desc := "()V" } : MethodName)) ∈ fk_ALL := fk_mt (List.mem_of_getElem? (i := 223) (by decide +kernel)) (by decide +kernel)
theorem i_224 : (Cond.code ({ cls := "FlowDesk$Clockwork", name := "restart", desc := "()V" } : MethodName) prog_3_method_2_code (3 : Nat) (none : Option FieldType)) ∈ fk_ALL := fk_mt (List.mem_of_getElem? (i := 224) (by decide +kernel)) (by decide +kernel)
theorem i_225 : (Cond.methodLink "FlowDesk$Clockwork" (23 : Nat) ({ cls := "java/util/Arrays", name := "fill", desc := "([II)V" } : MethodName)) ∈ fk_ALL := fk_mt (List.mem_of_getElem? (i := 225) (by decide +kernel)) (by decide +kernel)
theorem i_226 : (Cond.static ({ cls := "java/util/Arrays", name := "fill", desc := "([II)V" } : MethodName)) ∈ fk_ALL := fk_mt (List.mem_of_getElem? (i := 226) (by decide +kernel)) (by decide +kernel)
theorem i_227 : (Cond.code ({ cls := "java/util/Arrays", name := "fill", desc := "([II)V" } : MethodName) prog_16_method_103_code (4 : Nat) (none : Option FieldType)) ∈ fk_ALL := fk_mt (List.mem_of_getElem? (i := 227) (by decide +kernel)) (by decide +kernel)
theorem i_230 : (Cond.instanceMethod ({ cls := "FlowDesk$Checker", name := "examine", desc := "()I" } : MethodName)) ∈ fk_ALL := fk_mt (List.mem_of_getElem? (i := 230) (by decide +kernel)) (by decide +kernel)
theorem i_231 : (Cond.code ({ cls := "FlowDesk$Checker", name := "examine", desc := "()I" } : MethodName) prog_2_method_3_code (2 : Nat) (some .int)) ∈ fk_ALL := fk_mt (List.mem_of_getElem? (i := 231) (by decide +kernel)) (by decide +kernel)
theorem i_232 : (Cond.methodLink "FlowDesk$Checker" (38 : Nat) ({ cls := "FlowDesk$Checker", name := "forget", desc := "()V" } : MethodName)) ∈ fk_ALL := fk_mt (List.mem_of_getElem? (i := 232) (by decide +kernel)) (by decide +kernel)
theorem i_234 : (Cond.instanceMethod ({ cls := "FlowDesk$Checker", name := "forget", desc := "()V" } : MethodName)) ∈ fk_ALL := fk_mt (List.mem_of_getElem? (i := 234) (by decide +kernel)) (by decide +kernel)
theorem i_235 : (Cond.code ({ cls := "FlowDesk$Checker", name := "forget", desc := "()V" } : MethodName) prog_2_method_2_code (1 : Nat) (none : Option FieldType)) ∈ fk_ALL := fk_mt (List.mem_of_getElem? (i := 235) (by decide +kernel)) (by decide +kernel)
theorem i_238 : (Cond.instanceMethod ({ cls := "FlowDesk$Waiting", name := "trace", desc := "()V" } : MethodName)) ∈ fk_ALL := fk_mt (List.mem_of_getElem? (i := 238) (by decide +kernel)) (by decide +kernel)
theorem i_239 : (Cond.code ({ cls := "FlowDesk$Waiting", name := "trace", desc := "()V" } : MethodName) prog_7_method_2_code (3 : Nat) (none : Option FieldType)) ∈ fk_ALL := fk_mt (List.mem_of_getElem? (i := 239) (by decide +kernel)) (by decide +kernel)
theorem i_240 : (Cond.methodLink "FlowDesk$Waiting" (35 : Nat) ({ cls := "FlowDesk$Waiting", name := "directWaits", desc := "(LFlowDesk$Flow;)I" } : MethodName)) ∈ fk_ALL := fk_mt (List.mem_of_getElem? (i := 240) (by decide +kernel)) (by decide +kernel)
theorem i_242 : (Cond.instanceMethod ({ cls := "FlowDesk$Waiting", name := "directWaits", desc := "(LFlowDesk$Flow;)I" } : MethodName)) ∈ fk_ALL := fk_mt (List.mem_of_getElem? (i := 242) (by decide +kernel)) (by decide +kernel)
theorem i_243 : (Cond.code ({ cls := "FlowDesk$Waiting", name := "directWaits", desc := "(LFlowDesk$Flow;)I" } : MethodName) prog_7_method_3_code (6 : Nat) (some .int)) ∈ fk_ALL := fk_mt (List.mem_of_getElem? (i := 243) (by decide +kernel)) (by decide +kernel)
theorem i_245 : (Cond.static ({ cls := "FlowDesk", name := "flowBehind", desc := "(I)I" } : MethodName)) ∈ fk_ALL := fk_mt (List.mem_of_getElem? (i := 245) (by decide +kernel)) (by decide +kernel)
theorem i_246 : (Cond.code ({ cls := "FlowDesk", name := "flowBehind", desc := "(I)I" } : MethodName) prog_1_method_19_code (1 : Nat) (some .int)) ∈ fk_ALL := fk_mt (List.mem_of_getElem? (i := 246) (by decide +kernel)) (by decide +kernel)
theorem i_249 : (Cond.instanceMethod ({ cls := "FlowDesk$Expression", name := "beginsAt", desc := "(I)Z" } : MethodName)) ∈ fk_ALL := fk_mt (List.mem_of_getElem? (i := 249) (by decide +kernel)) (by decide +kernel)
theorem i_250 : (Cond.code ({ cls := "FlowDesk$Expression", name := "beginsAt", desc := "(I)Z" } : MethodName) prog_4_method_5_code (2 : Nat) (some .boolean)) ∈ fk_ALL := fk_mt (List.mem_of_getElem? (i := 250) (by decide +kernel)) (by decide +kernel)
theorem i_252 : (Cond.static ({ cls := "FlowDesk", name := "namesFlow", desc := "(I)Z" } : MethodName)) ∈ fk_ALL := fk_mt (List.mem_of_getElem? (i := 252) (by decide +kernel)) (by decide +kernel)
theorem i_253 : (Cond.code ({ cls := "FlowDesk", name := "namesFlow", desc := "(I)Z" } : MethodName) prog_1_method_16_code (1 : Nat) (some .boolean)) ∈ fk_ALL := fk_mt (List.mem_of_getElem? (i := 253) (by decide +kernel)) (by decide +kernel)
theorem i_254 : (Cond.methodLink "FlowDesk" (171 : Nat) ({ cls := "FlowDesk", name := "isSampling", desc := "(I)Z" } : MethodName)) ∈ fk_ALL := fk_mt (List.mem_of_getElem? (i := 254) (by decide +kernel)) (by decide +kernel)
theorem i_255 : (Cond.static ({ cls := "FlowDesk", name := "isSampling", desc := "(I)Z" } : MethodName)) ∈ fk_ALL := fk_mt (List.mem_of_getElem? (i := 255) (by decide +kernel)) (by decide +kernel)
theorem i_256 : (Cond.code ({ cls := "FlowDesk", name := "isSampling", desc := "(I)Z" } : MethodName) prog_1_method_17_code (1 : Nat) (some .boolean)) ∈ fk_ALL := fk_mt (List.mem_of_getElem? (i := 256) (by decide +kernel)) (by decide +kernel)
theorem i_259 : (Cond.instanceMethod ({ cls := "FlowDesk$Expression", name := "named", desc := "(I)I" } : MethodName)) ∈ fk_ALL := fk_mt (List.mem_of_getElem? (i := 259) (by decide +kernel)) (by decide +kernel)
theorem i_260 : (Cond.code ({ cls := "FlowDesk$Expression", name := "named", desc := "(I)I" } : MethodName) prog_4_method_9_code (2 : Nat) (some .int)) ∈ fk_ALL := fk_mt (List.mem_of_getElem? (i := 260) (by decide +kernel)) (by decide +kernel)
theorem i_261 : (Cond.methodLink "FlowDesk$Waiting" (39 : Nat) ({ cls := "FlowDesk$Waiting", name := "waitsFor", desc := "(II)Z" } : MethodName)) ∈ fk_ALL := fk_mt (List.mem_of_getElem? (i := 261) (by decide +kernel)) (by decide +kernel)
theorem i_263 : (Cond.instanceMethod ({ cls := "FlowDesk$Waiting", name := "waitsFor", desc := "(II)Z" } : MethodName)) ∈ fk_ALL := fk_mt (List.mem_of_getElem? (i := 263) (by decide +kernel)) (by decide +kernel)
theorem i_264 : (Cond.code ({ cls := "FlowDesk$Waiting", name := "waitsFor", desc := "(II)Z" } : MethodName) prog_7_method_4_code (3 : Nat) (some .boolean)) ∈ fk_ALL := fk_mt (List.mem_of_getElem? (i := 264) (by decide +kernel)) (by decide +kernel)
theorem i_265 : (Cond.methodLink "FlowDesk$Checker" (46 : Nat) ({ cls := "FlowDesk$Checker", name := "holdsForAll", desc := "(I)Z" } : MethodName)) ∈ fk_ALL := fk_mt (List.mem_of_getElem? (i := 265) (by decide +kernel)) (by decide +kernel)
theorem i_267 : (Cond.instanceMethod ({ cls := "FlowDesk$Checker", name := "holdsForAll", desc := "(I)Z" } : MethodName)) ∈ fk_ALL := fk_mt (List.mem_of_getElem? (i := 267) (by decide +kernel)) (by decide +kernel)
theorem i_268 : (Cond.code ({ cls := "FlowDesk$Checker", name := "holdsForAll", desc := "(I)Z" } : MethodName) prog_2_method_4_code (4 : Nat) (some .boolean)) ∈ fk_ALL := fk_mt (List.mem_of_getElem? (i := 268) (by decide +kernel)) (by decide +kernel)
theorem i_269 : (Cond.methodLink "FlowDesk$Checker" (58 : Nat) ({ cls := "FlowDesk$Checker", name := "faultOf", desc := "(II)I" } : MethodName)) ∈ fk_ALL := fk_mt (List.mem_of_getElem? (i := 269) (by decide +kernel)) (by decide +kernel)
theorem i_271 : (Cond.instanceMethod ({ cls := "FlowDesk$Checker", name := "faultOf", desc := "(II)I" } : MethodName)) ∈ fk_ALL := fk_mt (List.mem_of_getElem? (i := 271) (by decide +kernel)) (by decide +kernel)
theorem i_272 : (Cond.code ({ cls := "FlowDesk$Checker", name := "faultOf", desc := "(II)I" } : MethodName) prog_2_method_5_code (4 : Nat) (some .int)) ∈ fk_ALL := fk_mt (List.mem_of_getElem? (i := 272) (by decide +kernel)) (by decide +kernel)
theorem i_276 : (Cond.instanceMethod ({ cls := "FlowDesk$Flow", name := "hasEquation", desc := "()Z" } : MethodName)) ∈ fk_ALL := fk_mt (List.mem_of_getElem? (i := 276) (by decide +kernel)) (by decide +kernel)
theorem i_277 : (Cond.code ({ cls := "FlowDesk$Flow", name := "hasEquation", desc := "()Z" } : MethodName) prog_5_method_2_code (1 : Nat) (some .boolean)) ∈ fk_ALL := fk_mt (List.mem_of_getElem? (i := 277) (by decide +kernel)) (by decide +kernel)
theorem i_280 : (Cond.instanceMethod ({ cls := "FlowDesk$Network", name := "typeOf", desc := "(I)I" } : MethodName)) ∈ fk_ALL := fk_mt (List.mem_of_getElem? (i := 280) (by decide +kernel)) (by decide +kernel)
theorem i_281 : (Cond.code ({ cls := "FlowDesk$Network", name := "typeOf", desc := "(I)I" } : MethodName) prog_6_method_5_code (2 : Nat) (some .int)) ∈ fk_ALL := fk_mt (List.mem_of_getElem? (i := 281) (by decide +kernel)) (by decide +kernel)
theorem i_282 : (Cond.methodLink "FlowDesk$Checker" (87 : Nat) ({ cls := "FlowDesk$Checker", name := "typeFault", desc := "(LFlowDesk$Expression;I)I" } : MethodName)) ∈ fk_ALL := fk_mt (List.mem_of_getElem? (i := 282) (by decide +kernel)) (by decide +kernel)
theorem i_284 : (Cond.instanceMethod ({ cls := "FlowDesk$Checker", name := "typeFault", desc := "(LFlowDesk$Expression;I)I" } : MethodName)) ∈ fk_ALL := fk_mt (List.mem_of_getElem? (i := 284) (by decide +kernel)) (by decide +kernel)
theorem i_285 : (Cond.code ({ cls := "FlowDesk$Checker", name := "typeFault", desc := "(LFlowDesk$Expression;I)I" } : MethodName) prog_2_method_6_code (4 : Nat) (some .int)) ∈ fk_ALL := fk_mt (List.mem_of_getElem? (i := 285) (by decide +kernel)) (by decide +kernel)
theorem i_287 : (Cond.methodLink "FlowDesk$Checker" (109 : Nat) ({ cls := "FlowDesk$Checker", name := "isOfType", desc := "(LFlowDesk$Expression;II)Z" } : MethodName)) ∈ fk_ALL := fk_mt (List.mem_of_getElem? (i := 287) (by decide +kernel)) (by decide +kernel)
theorem i_289 : (Cond.instanceMethod ({ cls := "FlowDesk$Checker", name := "isOfType", desc := "(LFlowDesk$Expression;II)Z" } : MethodName)) ∈ fk_ALL := fk_mt (List.mem_of_getElem? (i := 289) (by decide +kernel)) (by decide +kernel)
theorem i_290 : (Cond.code ({ cls := "FlowDesk$Checker", name := "isOfType", desc := "(LFlowDesk$Expression;II)Z" } : MethodName) prog_2_method_7_code (5 : Nat) (some .boolean)) ∈ fk_ALL := fk_mt (List.mem_of_getElem? (i := 290) (by decide +kernel)) (by decide +kernel)
theorem i_295 : (Cond.methodLink "FlowDesk$Checker" (113 : Nat) ({ cls := "FlowDesk$Checker", name := "wantTypesOfParts", desc := "(LFlowDesk$Expression;I)V" } : MethodName)) ∈ fk_ALL := fk_mt (List.mem_of_getElem? (i := 295) (by decide +kernel)) (by decide +kernel)
theorem i_297 : (Cond.instanceMethod ({ cls := "FlowDesk$Checker", name := "wantTypesOfParts", desc := "(LFlowDesk$Expression;I)V" } : MethodName)) ∈ fk_ALL := fk_mt (List.mem_of_getElem? (i := 297) (by decide +kernel)) (by decide +kernel)
theorem i_298 : (Cond.code ({ cls := "FlowDesk$Checker", name := "wantTypesOfParts", desc := "(LFlowDesk$Expression;I)V" } : MethodName) prog_2_method_8_code (7 : Nat) (none : Option FieldType)) ∈ fk_ALL := fk_mt (List.mem_of_getElem? (i := 298) (by decide +kernel)) (by decide +kernel)
theorem i_303 : (Cond.instanceMethod ({ cls := "FlowDesk$Expression", name := "firstPart", desc := "(I)I" } : MethodName)) ∈ fk_ALL := fk_mt (List.mem_of_getElem? (i := 303) (by decide +kernel)) (by decide +kernel)
theorem i_304 : (Cond.code ({ cls := "FlowDesk$Expression", name := "firstPart", desc := "(I)I" } : MethodName) prog_4_method_6_code (2 : Nat) (some .int)) ∈ fk_ALL := fk_mt (List.mem_of_getElem? (i := 304) (by decide +kernel)) (by decide +kernel)
theorem i_309 : (Cond.methodLink "FlowDesk$Checker" (94 : Nat) ({ cls := "FlowDesk$Checker", name := "clockFault", desc := "(LFlowDesk$Expression;I)I" } : MethodName)) ∈ fk_ALL := fk_mt (List.mem_of_getElem? (i := 309) (by decide +kernel)) (by decide +kernel)
theorem i_311 : (Cond.instanceMethod ({ cls := "FlowDesk$Checker", name := "clockFault", desc := "(LFlowDesk$Expression;I)I" } : MethodName)) ∈ fk_ALL := fk_mt (List.mem_of_getElem? (i := 311) (by decide +kernel)) (by decide +kernel)
theorem i_312 : (Cond.code ({ cls := "FlowDesk$Checker", name := "clockFault", desc := "(LFlowDesk$Expression;I)I" } : MethodName) prog_2_method_9_code (4 : Nat) (some .int)) ∈ fk_ALL := fk_mt (List.mem_of_getElem? (i := 312) (by decide +kernel)) (by decide +kernel)
theorem i_313 : (Cond.methodLink "FlowDesk$Checker" (144 : Nat) ({ cls := "FlowDesk$Checker", name := "ownClock", desc := "(LFlowDesk$Expression;I)I" } : MethodName)) ∈ fk_ALL := fk_mt (List.mem_of_getElem? (i := 313) (by decide +kernel)) (by decide +kernel)
theorem i_315 : (Cond.instanceMethod ({ cls := "FlowDesk$Checker", name := "ownClock", desc := "(LFlowDesk$Expression;I)I" } : MethodName)) ∈ fk_ALL := fk_mt (List.mem_of_getElem? (i := 315) (by decide +kernel)) (by decide +kernel)
theorem i_316 : (Cond.code ({ cls := "FlowDesk$Checker", name := "ownClock", desc := "(LFlowDesk$Expression;I)I" } : MethodName) prog_2_method_10_code (3 : Nat) (some .int)) ∈ fk_ALL := fk_mt (List.mem_of_getElem? (i := 316) (by decide +kernel)) (by decide +kernel)
theorem i_318 : (Cond.static ({ cls := "FlowDesk", name := "clockWhere", desc := "(IZ)I" } : MethodName)) ∈ fk_ALL := fk_mt (List.mem_of_getElem? (i := 318) (by decide +kernel)) (by decide +kernel)
theorem i_319 : (Cond.code ({ cls := "FlowDesk", name := "clockWhere", desc := "(IZ)I" } : MethodName) prog_1_method_18_code (2 : Nat) (some .int)) ∈ fk_ALL := fk_mt (List.mem_of_getElem? (i := 319) (by decide +kernel)) (by decide +kernel)
theorem i_320 : (Cond.methodLink "FlowDesk$Checker" (147 : Nat) ({ cls := "FlowDesk$Checker", name := "wantClocksOfParts", desc := "(LFlowDesk$Expression;I)V" } : MethodName)) ∈ fk_ALL := fk_mt (List.mem_of_getElem? (i := 320) (by decide +kernel)) (by decide +kernel)
theorem i_322 : (Cond.instanceMethod ({ cls := "FlowDesk$Checker", name := "wantClocksOfParts", desc := "(LFlowDesk$Expression;I)V" } : MethodName)) ∈ fk_ALL := fk_mt (List.mem_of_getElem? (i := 322) (by decide +kernel)) (by decide +kernel)
theorem i_323 : (Cond.code ({ cls := "FlowDesk$Checker", name := "wantClocksOfParts", desc := "(LFlowDesk$Expression;I)V" } : MethodName) prog_2_method_11_code (5 : Nat) (none : Option FieldType)) ∈ fk_ALL := fk_mt (List.mem_of_getElem? (i := 323) (by decide +kernel)) (by decide +kernel)
theorem i_324 : (Cond.methodLink "FlowDesk$Checker" (154 : Nat) ({ cls := "FlowDesk$Checker", name := "clockOfPart", desc := "(LFlowDesk$Expression;II)I" } : MethodName)) ∈ fk_ALL := fk_mt (List.mem_of_getElem? (i := 324) (by decide +kernel)) (by decide +kernel)
theorem i_326 : (Cond.instanceMethod ({ cls := "FlowDesk$Checker", name := "clockOfPart", desc := "(LFlowDesk$Expression;II)I" } : MethodName)) ∈ fk_ALL := fk_mt (List.mem_of_getElem? (i := 326) (by decide +kernel)) (by decide +kernel)
theorem i_327 : (Cond.code ({ cls := "FlowDesk$Checker", name := "clockOfPart", desc := "(LFlowDesk$Expression;II)I" } : MethodName) prog_2_method_12_code (4 : Nat) (some .int)) ∈ fk_ALL := fk_mt (List.mem_of_getElem? (i := 327) (by decide +kernel)) (by decide +kernel)
theorem i_328 : (Cond.methodLink "FlowDesk$Checker" (97 : Nat) ({ cls := "FlowDesk$Checker", name := "beginningFault", desc := "(LFlowDesk$Expression;)I" } : MethodName)) ∈ fk_ALL := fk_mt (List.mem_of_getElem? (i := 328) (by decide +kernel)) (by decide +kernel)
theorem i_330 : (Cond.instanceMethod ({ cls := "FlowDesk$Checker", name := "beginningFault", desc := "(LFlowDesk$Expression;)I" } : MethodName)) ∈ fk_ALL := fk_mt (List.mem_of_getElem? (i := 330) (by decide +kernel)) (by decide +kernel)
theorem i_331 : (Cond.code ({ cls := "FlowDesk$Checker", name := "beginningFault", desc := "(LFlowDesk$Expression;)I" } : MethodName) prog_2_method_13_code (5 : Nat) (some .int)) ∈ fk_ALL := fk_mt (List.mem_of_getElem? (i := 331) (by decide +kernel)) (by decide +kernel)
theorem i_332 : (Cond.methodLink "FlowDesk$Checker" (158 : Nat) ({ cls := "FlowDesk$Checker", name := "hasNothing", desc := "(LFlowDesk$Expression;I)Z" } : MethodName)) ∈ fk_ALL := fk_mt (List.mem_of_getElem? (i := 332) (by decide +kernel)) (by decide +kernel)
theorem i_334 : (Cond.instanceMethod ({ cls := "FlowDesk$Checker", name := "hasNothing", desc := "(LFlowDesk$Expression;I)Z" } : MethodName)) ∈ fk_ALL := fk_mt (List.mem_of_getElem? (i := 334) (by decide +kernel)) (by decide +kernel)
theorem i_335 : (Cond.code ({ cls := "FlowDesk$Checker", name := "hasNothing", desc := "(LFlowDesk$Expression;I)Z" } : MethodName) prog_2_method_14_code (7 : Nat) (some .boolean)) ∈ fk_ALL := fk_mt (List.mem_of_getElem? (i := 335) (by decide +kernel)) (by decide +kernel)
theorem i_338 : (Cond.instanceMethod ({ cls := "FlowDesk$Waiting", name := "arrange", desc := "()V" } : MethodName)) ∈ fk_ALL := fk_mt (List.mem_of_getElem? (i := 338) (by decide +kernel)) (by decide +kernel)
theorem i_339 : (Cond.code ({ cls := "FlowDesk$Waiting", name := "arrange", desc := "()V" } : MethodName) prog_7_method_5_code (4 : Nat) (none : Option FieldType)) ∈ fk_ALL := fk_mt (List.mem_of_getElem? (i := 339) (by decide +kernel)) (by decide +kernel)
theorem i_340 : (Cond.methodLink "FlowDesk$Waiting" (80 : Nat) ({ cls := "FlowDesk$Waiting", name := "lowestReady", desc := "(ZI)I" } : MethodName)) ∈ fk_ALL := fk_mt (List.mem_of_getElem? (i := 340) (by decide +kernel)) (by decide +kernel)
theorem i_342 : (Cond.instanceMethod ({ cls := "FlowDesk$Waiting", name := "lowestReady", desc := "(ZI)I" } : MethodName)) ∈ fk_ALL := fk_mt (List.mem_of_getElem? (i := 342) (by decide +kernel)) (by decide +kernel)
theorem i_343 : (Cond.code ({ cls := "FlowDesk$Waiting", name := "lowestReady", desc := "(ZI)I" } : MethodName) prog_7_method_6_code (5 : Nat) (some .int)) ∈ fk_ALL := fk_mt (List.mem_of_getElem? (i := 343) (by decide +kernel)) (by decide +kernel)
theorem i_344 : (Cond.methodLink "FlowDeskLaw" (93 : Nat) ({ cls := "FlowDesk", name := "time", desc := "()I" } : MethodName)) ∈ fk_ALL := fk_mt (List.mem_of_getElem? (i := 344) (by decide +kernel)) (by decide +kernel)
theorem i_345 : (Cond.instanceMethod ({ cls := "FlowDesk", name := "time", desc := "()I" } : MethodName)) ∈ fk_ALL := fk_mt (List.mem_of_getElem? (i := 345) (by decide +kernel)) (by decide +kernel)
theorem i_346 : (Cond.selects "FlowDesk" ({ cls := "FlowDesk", name := "time", desc := "()I" } : MethodName) ({ cls := "FlowDesk", name := "time", desc := "()I" } : MethodName)) ∈ fk_ALL := fk_mt (List.mem_of_getElem? (i := 346) (by decide +kernel)) (by decide +kernel)
theorem i_347 : (Cond.code ({ cls := "FlowDesk", name := "time", desc := "()I" } : MethodName) prog_1_method_10_code (1 : Nat) (some .int)) ∈ fk_ALL := fk_mt (List.mem_of_getElem? (i := 347) (by decide +kernel)) (by decide +kernel)
theorem i_348 : (Cond.methodLink "FlowDeskLaw" (106 : Nat) ({ cls := "FlowDesk", name := "flows", desc := "()I" } : MethodName)) ∈ fk_ALL := fk_mt (List.mem_of_getElem? (i := 348) (by decide +kernel)) (by decide +kernel)
theorem i_349 : (Cond.instanceMethod ({ cls := "FlowDesk", name := "flows", desc := "()I" } : MethodName)) ∈ fk_ALL := fk_mt (List.mem_of_getElem? (i := 349) (by decide +kernel)) (by decide +kernel)
theorem i_350 : (Cond.selects "FlowDesk" ({ cls := "FlowDesk", name := "flows", desc := "()I" } : MethodName) ({ cls := "FlowDesk", name := "flows", desc := "()I" } : MethodName)) ∈ fk_ALL := fk_mt (List.mem_of_getElem? (i := 350) (by decide +kernel)) (by decide +kernel)
theorem i_351 : (Cond.code ({ cls := "FlowDesk", name := "flows", desc := "()I" } : MethodName) prog_1_method_14_code (1 : Nat) (some .int)) ∈ fk_ALL := fk_mt (List.mem_of_getElem? (i := 351) (by decide +kernel)) (by decide +kernel)
theorem i_352 : (Cond.methodLink "FlowDeskLaw" (55 : Nat) ({ cls := "FlowDeskLaw", name := "flow", desc := "(LFlowDesk;ZIZ[J)I" } : MethodName)) ∈ fk_ALL := fk_mt (List.mem_of_getElem? (i := 352) (by decide +kernel)) (by decide +kernel)
theorem i_353 : (Cond.static ({ cls := "FlowDeskLaw", name := "flow", desc := "(LFlowDesk;ZIZ[J)I" } : MethodName)) ∈ fk_ALL := fk_mt (List.mem_of_getElem? (i := 353) (by decide +kernel)) (by decide +kernel)
theorem i_354 : (Cond.codeWith ({ cls := "FlowDeskLaw", name := "flow", desc := "(LFlowDesk;ZIZ[J)I" } : MethodName) method_3_code (6 : Nat) (some .int) [((0 : Nat), (12 : Nat), (15 : Nat), (13 : Nat)), ((0 : Nat), (12 : Nat), (19 : Nat), (15 : Nat))]) ∈ fk_ALL := fk_mt (List.mem_of_getElem? (i := 354) (by decide +kernel)) (by decide +kernel)
theorem i_355 : (Cond.classLink "FlowDeskLaw" (13 : Nat) "java/lang/IllegalArgumentException") ∈ fk_ALL := fk_mt (List.mem_of_getElem? (i := 355) (by decide +kernel)) (by decide +kernel)
theorem i_356 : (Cond.classLink "FlowDeskLaw" (15 : Nat) "java/lang/IllegalStateException") ∈ fk_ALL := fk_mt (List.mem_of_getElem? (i := 356) (by decide +kernel)) (by decide +kernel)
theorem i_357 : (Cond.methodLink "FlowDeskLaw" (7 : Nat) ({ cls := "FlowDesk", name := "flow", desc := "(ZIZ)I" } : MethodName)) ∈ fk_ALL := fk_mt (List.mem_of_getElem? (i := 357) (by decide +kernel)) (by decide +kernel)
theorem i_358 : (Cond.instanceMethod ({ cls := "FlowDesk", name := "flow", desc := "(ZIZ)I" } : MethodName)) ∈ fk_ALL := fk_mt (List.mem_of_getElem? (i := 358) (by decide +kernel)) (by decide +kernel)
theorem i_359 : (Cond.selects "FlowDesk" ({ cls := "FlowDesk", name := "flow", desc := "(ZIZ)I" } : MethodName) ({ cls := "FlowDesk", name := "flow", desc := "(ZIZ)I" } : MethodName)) ∈ fk_ALL := fk_mt (List.mem_of_getElem? (i := 359) (by decide +kernel)) (by decide +kernel)
theorem i_360 : (Cond.code ({ cls := "FlowDesk", name := "flow", desc := "(ZIZ)I" } : MethodName) prog_1_method_2_code (5 : Nat) (some .int)) ∈ fk_ALL := fk_mt (List.mem_of_getElem? (i := 360) (by decide +kernel)) (by decide +kernel)
theorem i_363 : (Cond.instanceMethod ({ cls := "FlowDesk$Network", name := "isClock", desc := "(I)Z" } : MethodName)) ∈ fk_ALL := fk_mt (List.mem_of_getElem? (i := 363) (by decide +kernel)) (by decide +kernel)
theorem i_364 : (Cond.code ({ cls := "FlowDesk$Network", name := "isClock", desc := "(I)Z" } : MethodName) prog_6_method_3_code (2 : Nat) (some .boolean)) ∈ fk_ALL := fk_mt (List.mem_of_getElem? (i := 364) (by decide +kernel)) (by decide +kernel)
theorem i_366 : (Cond.methodLink "FlowDesk$Network" (26 : Nat) ({ cls := "FlowDesk$Network", name := "has", desc := "(I)Z" } : MethodName)) ∈ fk_ALL := fk_mt (List.mem_of_getElem? (i := 366) (by decide +kernel)) (by decide +kernel)
theorem i_368 : (Cond.instanceMethod ({ cls := "FlowDesk$Network", name := "has", desc := "(I)Z" } : MethodName)) ∈ fk_ALL := fk_mt (List.mem_of_getElem? (i := 368) (by decide +kernel)) (by decide +kernel)
theorem i_369 : (Cond.code ({ cls := "FlowDesk$Network", name := "has", desc := "(I)Z" } : MethodName) prog_6_method_2_code (2 : Nat) (some .boolean)) ∈ fk_ALL := fk_mt (List.mem_of_getElem? (i := 369) (by decide +kernel)) (by decide +kernel)
theorem i_370 : (Cond.classLink "FlowDesk" (52 : Nat) "java/lang/IllegalArgumentException") ∈ fk_ALL := fk_mt (List.mem_of_getElem? (i := 370) (by decide +kernel)) (by decide +kernel)
theorem i_371 : (Cond.instantiable "java/lang/IllegalArgumentException" (6 : Nat)) ∈ fk_ALL := fk_mt (List.mem_of_getElem? (i := 371) (by decide +kernel)) (by decide +kernel)
theorem i_380 : (Cond.selects "java/lang/IllegalArgumentException" ({ cls := "java/lang/Throwable", name := "fillInStackTrace", desc := "()Ljava/lang/Throwable;" } : MethodName) ({ cls := "java/lang/Throwable", name := "fillInStackTrace", desc := "()Ljava/lang/Throwable;" } : MethodName)) ∈ fk_ALL := fk_mt (List.mem_of_getElem? (i := 380) (by decide +kernel)) (by decide +kernel)
theorem i_381 : (Cond.lays "java/lang/IllegalArgumentException" "java/lang/Throwable" "cause" "Ljava/lang/Throwable;") ∈ fk_ALL := fk_mt (List.mem_of_getElem? (i := 381) (by decide +kernel)) (by decide +kernel)
theorem i_382 : (Cond.lays "java/lang/Throwable" "java/lang/Throwable" "cause" "Ljava/lang/Throwable;") ∈ fk_ALL := fk_mt (List.mem_of_getElem? (i := 382) (by decide +kernel)) (by decide +kernel)
theorem i_383 : (Cond.lays "java/lang/IllegalArgumentException" "java/lang/Throwable" "stackTrace" "[Ljava/lang/StackTraceElement;") ∈ fk_ALL := fk_mt (List.mem_of_getElem? (i := 383) (by decide +kernel)) (by decide +kernel)
theorem i_384 : (Cond.lays "java/lang/Throwable" "java/lang/Throwable" "stackTrace" "[Ljava/lang/StackTraceElement;") ∈ fk_ALL := fk_mt (List.mem_of_getElem? (i := 384) (by decide +kernel)) (by decide +kernel)
theorem i_385 : (Cond.lays "java/lang/IllegalArgumentException" "java/lang/Throwable" "suppressedExceptions" "Ljava/util/List;") ∈ fk_ALL := fk_mt (List.mem_of_getElem? (i := 385) (by decide +kernel)) (by decide +kernel)
theorem i_386 : (Cond.lays "java/lang/Throwable" "java/lang/Throwable" "suppressedExceptions" "Ljava/util/List;") ∈ fk_ALL := fk_mt (List.mem_of_getElem? (i := 386) (by decide +kernel)) (by decide +kernel)
theorem i_387 : (Cond.lays "java/lang/IllegalArgumentException" "java/lang/Throwable" "detailMessage" "Ljava/lang/String;") ∈ fk_ALL := fk_mt (List.mem_of_getElem? (i := 387) (by decide +kernel)) (by decide +kernel)
theorem i_388 : (Cond.lays "java/lang/Throwable" "java/lang/Throwable" "detailMessage" "Ljava/lang/String;") ∈ fk_ALL := fk_mt (List.mem_of_getElem? (i := 388) (by decide +kernel)) (by decide +kernel)
theorem i_389 : (Cond.lays "java/lang/IllegalArgumentException" "java/lang/Throwable" "backtrace" "Ljava/lang/Object;") ∈ fk_ALL := fk_mt (List.mem_of_getElem? (i := 389) (by decide +kernel)) (by decide +kernel)
theorem i_390 : (Cond.lays "java/lang/Throwable" "java/lang/Throwable" "backtrace" "Ljava/lang/Object;") ∈ fk_ALL := fk_mt (List.mem_of_getElem? (i := 390) (by decide +kernel)) (by decide +kernel)
theorem i_395 : (Cond.methodLink "java/lang/Throwable" (1 : Nat) ({ cls := "java/lang/Object", name := "<init>", desc := "()V" } : MethodName)) ∈ fk_ALL := fk_mt (List.mem_of_getElem? (i := 395) (by decide +kernel)) (by decide +kernel)
theorem i_396 : (Cond.fieldLink "java/lang/Throwable" (13 : Nat) "java/lang/Throwable" "UNASSIGNED_STACK" "[Ljava/lang/StackTraceElement;") ∈ fk_ALL := fk_mt (List.mem_of_getElem? (i := 396) (by decide +kernel)) (by decide +kernel)
theorem i_398 : (Cond.fieldLink "java/lang/Throwable" (20 : Nat) "java/lang/Throwable" "SUPPRESSED_SENTINEL" "Ljava/util/List;") ∈ fk_ALL := fk_mt (List.mem_of_getElem? (i := 398) (by decide +kernel)) (by decide +kernel)
theorem i_400 : (Cond.methodLink "java/lang/Throwable" (27 : Nat) ({ cls := "java/lang/Throwable", name := "fillInStackTrace", desc := "()Ljava/lang/Throwable;" } : MethodName)) ∈ fk_ALL := fk_mt (List.mem_of_getElem? (i := 400) (by decide +kernel)) (by decide +kernel)
theorem i_406 : (Cond.methodLink "java/lang/Throwable" (202 : Nat) ({ cls := "java/lang/Throwable", name := "fillInStackTrace", desc := "(I)Ljava/lang/Throwable;" } : MethodName)) ∈ fk_ALL := fk_mt (List.mem_of_getElem? (i := 406) (by decide +kernel)) (by decide +kernel)
theorem i_408 : (Cond.instanceMethod ({ cls := "java/lang/Throwable", name := "fillInStackTrace", desc := "(I)Ljava/lang/Throwable;" } : MethodName)) ∈ fk_ALL := fk_mt (List.mem_of_getElem? (i := 408) (by decide +kernel)) (by decide +kernel)
theorem i_409 : (Cond.instantiable "java/lang/Throwable" (6 : Nat)) ∈ fk_ALL := fk_mt (List.mem_of_getElem? (i := 409) (by decide +kernel)) (by decide +kernel)
theorem i_412 : (Cond.methodLink "FlowDesk" (56 : Nat) ({ cls := "java/lang/IllegalArgumentException", name := "<init>", desc := "(Ljava/lang/String;)V" } : MethodName)) ∈ fk_ALL := fk_mt (List.mem_of_getElem? (i := 412) (by decide +kernel)) (by decide +kernel)
theorem i_413 : (Cond.instanceMethod ({ cls := "java/lang/IllegalArgumentException", name := "<init>", desc := "(Ljava/lang/String;)V" } : MethodName)) ∈ fk_ALL := fk_mt (List.mem_of_getElem? (i := 413) (by decide +kernel)) (by decide +kernel)
theorem i_415 : (Cond.methodLink "java/lang/IllegalArgumentException" (7 : Nat) ({ cls := "java/lang/RuntimeException", name := "<init>", desc := "(Ljava/lang/String;)V" } : MethodName)) ∈ fk_ALL := fk_mt (List.mem_of_getElem? (i := 415) (by decide +kernel)) (by decide +kernel)
theorem i_416 : (Cond.instanceMethod ({ cls := "java/lang/RuntimeException", name := "<init>", desc := "(Ljava/lang/String;)V" } : MethodName)) ∈ fk_ALL := fk_mt (List.mem_of_getElem? (i := 416) (by decide +kernel)) (by decide +kernel)
theorem i_418 : (Cond.methodLink "java/lang/RuntimeException" (7 : Nat) ({ cls := "java/lang/Exception", name := "<init>", desc := "(Ljava/lang/String;)V" } : MethodName)) ∈ fk_ALL := fk_mt (List.mem_of_getElem? (i := 418) (by decide +kernel)) (by decide +kernel)
theorem i_419 : (Cond.instanceMethod ({ cls := "java/lang/Exception", name := "<init>", desc := "(Ljava/lang/String;)V" } : MethodName)) ∈ fk_ALL := fk_mt (List.mem_of_getElem? (i := 419) (by decide +kernel)) (by decide +kernel)
theorem i_421 : (Cond.methodLink "java/lang/Exception" (7 : Nat) ({ cls := "java/lang/Throwable", name := "<init>", desc := "(Ljava/lang/String;)V" } : MethodName)) ∈ fk_ALL := fk_mt (List.mem_of_getElem? (i := 421) (by decide +kernel)) (by decide +kernel)
theorem i_422 : (Cond.instanceMethod ({ cls := "java/lang/Throwable", name := "<init>", desc := "(Ljava/lang/String;)V" } : MethodName)) ∈ fk_ALL := fk_mt (List.mem_of_getElem? (i := 422) (by decide +kernel)) (by decide +kernel)
theorem i_424 : (Cond.fieldLink "java/lang/Throwable" (198 : Nat) "java/lang/Throwable" "backtrace" "Ljava/lang/Object;") ∈ fk_ALL := fk_mt (List.mem_of_getElem? (i := 424) (by decide +kernel)) (by decide +kernel)
theorem i_425 : (Cond.fieldLink "java/lang/Throwable" (31 : Nat) "java/lang/Throwable" "detailMessage" "Ljava/lang/String;") ∈ fk_ALL := fk_mt (List.mem_of_getElem? (i := 425) (by decide +kernel)) (by decide +kernel)
theorem i_426 : (Cond.fieldLink "java/lang/Throwable" (7 : Nat) "java/lang/Throwable" "cause" "Ljava/lang/Throwable;") ∈ fk_ALL := fk_mt (List.mem_of_getElem? (i := 426) (by decide +kernel)) (by decide +kernel)
theorem i_427 : (Cond.fieldLink "java/lang/Throwable" (17 : Nat) "java/lang/Throwable" "stackTrace" "[Ljava/lang/StackTraceElement;") ∈ fk_ALL := fk_mt (List.mem_of_getElem? (i := 427) (by decide +kernel)) (by decide +kernel)
theorem i_428 : (Cond.fieldLink "java/lang/Throwable" (24 : Nat) "java/lang/Throwable" "suppressedExceptions" "Ljava/util/List;") ∈ fk_ALL := fk_mt (List.mem_of_getElem? (i := 428) (by decide +kernel)) (by decide +kernel)
theorem i_433 : (Cond.lays "java/lang/IllegalArgumentException" "java/lang/Throwable" "depth" "I") ∈ fk_ALL := fk_mt (List.mem_of_getElem? (i := 433) (by decide +kernel)) (by decide +kernel)
theorem i_438 : (Cond.classLink "FlowDesk" (63 : Nat) "java/lang/IllegalStateException") ∈ fk_ALL := fk_mt (List.mem_of_getElem? (i := 438) (by decide +kernel)) (by decide +kernel)
theorem i_439 : (Cond.instantiable "java/lang/IllegalStateException" (6 : Nat)) ∈ fk_ALL := fk_mt (List.mem_of_getElem? (i := 439) (by decide +kernel)) (by decide +kernel)
theorem i_441 : (Cond.selects "java/lang/IllegalStateException" ({ cls := "java/lang/Throwable", name := "fillInStackTrace", desc := "(I)Ljava/lang/Throwable;" } : MethodName) ({ cls := "java/lang/Throwable", name := "fillInStackTrace", desc := "(I)Ljava/lang/Throwable;" } : MethodName)) ∈ fk_ALL := fk_mt (List.mem_of_getElem? (i := 441) (by decide +kernel)) (by decide +kernel)
theorem i_442 : (Cond.lays "java/lang/IllegalStateException" "java/lang/Throwable" "cause" "Ljava/lang/Throwable;") ∈ fk_ALL := fk_mt (List.mem_of_getElem? (i := 442) (by decide +kernel)) (by decide +kernel)
theorem i_443 : (Cond.lays "java/lang/IllegalStateException" "java/lang/Throwable" "stackTrace" "[Ljava/lang/StackTraceElement;") ∈ fk_ALL := fk_mt (List.mem_of_getElem? (i := 443) (by decide +kernel)) (by decide +kernel)
theorem i_444 : (Cond.lays "java/lang/IllegalStateException" "java/lang/Throwable" "suppressedExceptions" "Ljava/util/List;") ∈ fk_ALL := fk_mt (List.mem_of_getElem? (i := 444) (by decide +kernel)) (by decide +kernel)
theorem i_445 : (Cond.lays "java/lang/IllegalStateException" "java/lang/Throwable" "detailMessage" "Ljava/lang/String;") ∈ fk_ALL := fk_mt (List.mem_of_getElem? (i := 445) (by decide +kernel)) (by decide +kernel)
theorem i_446 : (Cond.lays "java/lang/IllegalStateException" "java/lang/Throwable" "backtrace" "Ljava/lang/Object;") ∈ fk_ALL := fk_mt (List.mem_of_getElem? (i := 446) (by decide +kernel)) (by decide +kernel)
theorem i_448 : (Cond.methodLink "FlowDesk" (67 : Nat) ({ cls := "java/lang/IllegalStateException", name := "<init>", desc := "(Ljava/lang/String;)V" } : MethodName)) ∈ fk_ALL := fk_mt (List.mem_of_getElem? (i := 448) (by decide +kernel)) (by decide +kernel)
theorem i_449 : (Cond.instanceMethod ({ cls := "java/lang/IllegalStateException", name := "<init>", desc := "(Ljava/lang/String;)V" } : MethodName)) ∈ fk_ALL := fk_mt (List.mem_of_getElem? (i := 449) (by decide +kernel)) (by decide +kernel)
theorem i_451 : (Cond.methodLink "java/lang/IllegalStateException" (7 : Nat) ({ cls := "java/lang/RuntimeException", name := "<init>", desc := "(Ljava/lang/String;)V" } : MethodName)) ∈ fk_ALL := fk_mt (List.mem_of_getElem? (i := 451) (by decide +kernel)) (by decide +kernel)
theorem i_452 : (Cond.lays "java/lang/IllegalStateException" "java/lang/Throwable" "depth" "I") ∈ fk_ALL := fk_mt (List.mem_of_getElem? (i := 452) (by decide +kernel)) (by decide +kernel)
theorem i_456 : (Cond.instanceMethod ({ cls := "FlowDesk$Network", name := "append", desc := "(ZIZ)I" } : MethodName)) ∈ fk_ALL := fk_mt (List.mem_of_getElem? (i := 456) (by decide +kernel)) (by decide +kernel)
theorem i_457 : (Cond.code ({ cls := "FlowDesk$Network", name := "append", desc := "(ZIZ)I" } : MethodName) prog_6_method_4_code (5 : Nat) (some .int)) ∈ fk_ALL := fk_mt (List.mem_of_getElem? (i := 457) (by decide +kernel)) (by decide +kernel)
theorem i_458 : (Cond.methodLink "FlowDesk" (72 : Nat) ({ cls := "FlowDesk", name := "beginUnchecked", desc := "()V" } : MethodName)) ∈ fk_ALL := fk_mt (List.mem_of_getElem? (i := 458) (by decide +kernel)) (by decide +kernel)
theorem i_460 : (Cond.instanceMethod ({ cls := "FlowDesk", name := "beginUnchecked", desc := "()V" } : MethodName)) ∈ fk_ALL := fk_mt (List.mem_of_getElem? (i := 460) (by decide +kernel)) (by decide +kernel)
theorem i_461 : (Cond.code ({ cls := "FlowDesk", name := "beginUnchecked", desc := "()V" } : MethodName) prog_1_method_15_code (1 : Nat) (none : Option FieldType)) ∈ fk_ALL := fk_mt (List.mem_of_getElem? (i := 461) (by decide +kernel)) (by decide +kernel)
theorem i_463 : (Cond.methodLink "FlowDeskLaw" (67 : Nat) ({ cls := "FlowDeskLaw", name := "type", desc := "(LFlowDesk;JI)I" } : MethodName)) ∈ fk_ALL := fk_mt (List.mem_of_getElem? (i := 463) (by decide +kernel)) (by decide +kernel)
theorem i_464 : (Cond.static ({ cls := "FlowDeskLaw", name := "type", desc := "(LFlowDesk;JI)I" } : MethodName)) ∈ fk_ALL := fk_mt (List.mem_of_getElem? (i := 464) (by decide +kernel)) (by decide +kernel)
theorem i_465 : (Cond.codeWith ({ cls := "FlowDeskLaw", name := "type", desc := "(LFlowDesk;JI)I" } : MethodName) method_4_code (5 : Nat) (some .int) [((0 : Nat), (6 : Nat), (9 : Nat), (13 : Nat)), ((0 : Nat), (6 : Nat), (13 : Nat), (15 : Nat))]) ∈ fk_ALL := fk_mt (List.mem_of_getElem? (i := 465) (by decide +kernel)) (by decide +kernel)
theorem i_466 : (Cond.methodLink "FlowDeskLaw" (17 : Nat) ({ cls := "FlowDesk", name := "type", desc := "(JI)V" } : MethodName)) ∈ fk_ALL := fk_mt (List.mem_of_getElem? (i := 466) (by decide +kernel)) (by decide +kernel)
theorem i_467 : (Cond.instanceMethod ({ cls := "FlowDesk", name := "type", desc := "(JI)V" } : MethodName)) ∈ fk_ALL := fk_mt (List.mem_of_getElem? (i := 467) (by decide +kernel)) (by decide +kernel)
theorem i_468 : (Cond.selects "FlowDesk" ({ cls := "FlowDesk", name := "type", desc := "(JI)V" } : MethodName) ({ cls := "FlowDesk", name := "type", desc := "(JI)V" } : MethodName)) ∈ fk_ALL := fk_mt (List.mem_of_getElem? (i := 468) (by decide +kernel)) (by decide +kernel)
theorem i_469 : (Cond.code ({ cls := "FlowDesk", name := "type", desc := "(JI)V" } : MethodName) prog_1_method_3_code (5 : Nat) (none : Option FieldType)) ∈ fk_ALL := fk_mt (List.mem_of_getElem? (i := 469) (by decide +kernel)) (by decide +kernel)
theorem i_474 : (Cond.instanceMethod ({ cls := "FlowDesk$Expression", name := "append", desc := "(I)V" } : MethodName)) ∈ fk_ALL := fk_mt (List.mem_of_getElem? (i := 474) (by decide +kernel)) (by decide +kernel)
theorem i_475 : (Cond.code ({ cls := "FlowDesk$Expression", name := "append", desc := "(I)V" } : MethodName) prog_4_method_2_code (2 : Nat) (none : Option FieldType)) ∈ fk_ALL := fk_mt (List.mem_of_getElem? (i := 475) (by decide +kernel)) (by decide +kernel)
theorem i_476 : (Cond.methodLink "FlowDeskLaw" (71 : Nat) ({ cls := "FlowDeskLaw", name := "equation", desc := "(LFlowDesk;I)I" } : MethodName)) ∈ fk_ALL := fk_mt (List.mem_of_getElem? (i := 476) (by decide +kernel)) (by decide +kernel)
theorem i_477 : (Cond.static ({ cls := "FlowDeskLaw", name := "equation", desc := "(LFlowDesk;I)I" } : MethodName)) ∈ fk_ALL := fk_mt (List.mem_of_getElem? (i := 477) (by decide +kernel)) (by decide +kernel)
theorem i_478 : (Cond.codeWith ({ cls := "FlowDeskLaw", name := "equation", desc := "(LFlowDesk;I)I" } : MethodName) method_5_code (3 : Nat) (some .int) [((0 : Nat), (5 : Nat), (8 : Nat), (13 : Nat))]) ∈ fk_ALL := fk_mt (List.mem_of_getElem? (i := 478) (by decide +kernel)) (by decide +kernel)
theorem i_479 : (Cond.methodLink "FlowDeskLaw" (21 : Nat) ({ cls := "FlowDesk", name := "equation", desc := "(I)V" } : MethodName)) ∈ fk_ALL := fk_mt (List.mem_of_getElem? (i := 479) (by decide +kernel)) (by decide +kernel)
theorem i_480 : (Cond.instanceMethod ({ cls := "FlowDesk", name := "equation", desc := "(I)V" } : MethodName)) ∈ fk_ALL := fk_mt (List.mem_of_getElem? (i := 480) (by decide +kernel)) (by decide +kernel)
theorem i_481 : (Cond.selects "FlowDesk" ({ cls := "FlowDesk", name := "equation", desc := "(I)V" } : MethodName) ({ cls := "FlowDesk", name := "equation", desc := "(I)V" } : MethodName)) ∈ fk_ALL := fk_mt (List.mem_of_getElem? (i := 481) (by decide +kernel)) (by decide +kernel)
theorem i_482 : (Cond.code ({ cls := "FlowDesk", name := "equation", desc := "(I)V" } : MethodName) prog_1_method_4_code (4 : Nat) (none : Option FieldType)) ∈ fk_ALL := fk_mt (List.mem_of_getElem? (i := 482) (by decide +kernel)) (by decide +kernel)
theorem i_486 : (Cond.instanceMethod ({ cls := "FlowDesk$Expression", name := "isWellFormed", desc := "(I)Z" } : MethodName)) ∈ fk_ALL := fk_mt (List.mem_of_getElem? (i := 486) (by decide +kernel)) (by decide +kernel)
theorem i_487 : (Cond.code ({ cls := "FlowDesk$Expression", name := "isWellFormed", desc := "(I)Z" } : MethodName) prog_4_method_3_code (2 : Nat) (some .boolean)) ∈ fk_ALL := fk_mt (List.mem_of_getElem? (i := 487) (by decide +kernel)) (by decide +kernel)
theorem i_488 : (Cond.methodLink "FlowDesk$Expression" (28 : Nat) ({ cls := "java/util/Arrays", name := "fill", desc := "([II)V" } : MethodName)) ∈ fk_ALL := fk_mt (List.mem_of_getElem? (i := 488) (by decide +kernel)) (by decide +kernel)
theorem i_489 : (Cond.methodLink "FlowDesk$Expression" (34 : Nat) ({ cls := "FlowDesk$Expression", name := "readOne", desc := "(III)I" } : MethodName)) ∈ fk_ALL := fk_mt (List.mem_of_getElem? (i := 489) (by decide +kernel)) (by decide +kernel)
theorem i_491 : (Cond.instanceMethod ({ cls := "FlowDesk$Expression", name := "readOne", desc := "(III)I" } : MethodName)) ∈ fk_ALL := fk_mt (List.mem_of_getElem? (i := 491) (by decide +kernel)) (by decide +kernel)
theorem i_492 : (Cond.code ({ cls := "FlowDesk$Expression", name := "readOne", desc := "(III)I" } : MethodName) prog_4_method_4_code (7 : Nat) (some .int)) ∈ fk_ALL := fk_mt (List.mem_of_getElem? (i := 492) (by decide +kernel)) (by decide +kernel)
theorem i_496 : (Cond.methodLink "FlowDeskLaw" (79 : Nat) ({ cls := "FlowDeskLaw", name := "fault", desc := "(LFlowDesk;I[J)I" } : MethodName)) ∈ fk_ALL := fk_mt (List.mem_of_getElem? (i := 496) (by decide +kernel)) (by decide +kernel)
theorem i_497 : (Cond.static ({ cls := "FlowDeskLaw", name := "fault", desc := "(LFlowDesk;I[J)I" } : MethodName)) ∈ fk_ALL := fk_mt (List.mem_of_getElem? (i := 497) (by decide +kernel)) (by decide +kernel)
theorem i_498 : (Cond.codeWith ({ cls := "FlowDeskLaw", name := "fault", desc := "(LFlowDesk;I[J)I" } : MethodName) method_6_code (4 : Nat) (some .int) [((0 : Nat), (9 : Nat), (12 : Nat), (13 : Nat))]) ∈ fk_ALL := fk_mt (List.mem_of_getElem? (i := 498) (by decide +kernel)) (by decide +kernel)
theorem i_499 : (Cond.methodLink "FlowDeskLaw" (25 : Nat) ({ cls := "FlowDesk", name := "fault", desc := "(I)I" } : MethodName)) ∈ fk_ALL := fk_mt (List.mem_of_getElem? (i := 499) (by decide +kernel)) (by decide +kernel)
theorem i_500 : (Cond.instanceMethod ({ cls := "FlowDesk", name := "fault", desc := "(I)I" } : MethodName)) ∈ fk_ALL := fk_mt (List.mem_of_getElem? (i := 500) (by decide +kernel)) (by decide +kernel)
theorem i_501 : (Cond.selects "FlowDesk" ({ cls := "FlowDesk", name := "fault", desc := "(I)I" } : MethodName) ({ cls := "FlowDesk", name := "fault", desc := "(I)I" } : MethodName)) ∈ fk_ALL := fk_mt (List.mem_of_getElem? (i := 501) (by decide +kernel)) (by decide +kernel)
theorem i_502 : (Cond.code ({ cls := "FlowDesk", name := "fault", desc := "(I)I" } : MethodName) prog_1_method_6_code (2 : Nat) (some .int)) ∈ fk_ALL := fk_mt (List.mem_of_getElem? (i := 502) (by decide +kernel)) (by decide +kernel)
theorem i_504 : (Cond.methodLink "FlowDeskLaw" (83 : Nat) ({ cls := "FlowDeskLaw", name := "order", desc := "(LFlowDesk;I[J)I" } : MethodName)) ∈ fk_ALL := fk_mt (List.mem_of_getElem? (i := 504) (by decide +kernel)) (by decide +kernel)
theorem i_505 : (Cond.static ({ cls := "FlowDeskLaw", name := "order", desc := "(LFlowDesk;I[J)I" } : MethodName)) ∈ fk_ALL := fk_mt (List.mem_of_getElem? (i := 505) (by decide +kernel)) (by decide +kernel)
theorem i_506 : (Cond.codeWith ({ cls := "FlowDeskLaw", name := "order", desc := "(LFlowDesk;I[J)I" } : MethodName) method_7_code (4 : Nat) (some .int) [((0 : Nat), (9 : Nat), (12 : Nat), (15 : Nat)), ((0 : Nat), (9 : Nat), (15 : Nat), (32 : Nat))]) ∈ fk_ALL := fk_mt (List.mem_of_getElem? (i := 506) (by decide +kernel)) (by decide +kernel)
theorem i_507 : (Cond.classLink "FlowDeskLaw" (32 : Nat) "java/util/NoSuchElementException") ∈ fk_ALL := fk_mt (List.mem_of_getElem? (i := 507) (by decide +kernel)) (by decide +kernel)
theorem i_508 : (Cond.methodLink "FlowDeskLaw" (29 : Nat) ({ cls := "FlowDesk", name := "order", desc := "(I)I" } : MethodName)) ∈ fk_ALL := fk_mt (List.mem_of_getElem? (i := 508) (by decide +kernel)) (by decide +kernel)
theorem i_509 : (Cond.instanceMethod ({ cls := "FlowDesk", name := "order", desc := "(I)I" } : MethodName)) ∈ fk_ALL := fk_mt (List.mem_of_getElem? (i := 509) (by decide +kernel)) (by decide +kernel)
theorem i_510 : (Cond.selects "FlowDesk" ({ cls := "FlowDesk", name := "order", desc := "(I)I" } : MethodName) ({ cls := "FlowDesk", name := "order", desc := "(I)I" } : MethodName)) ∈ fk_ALL := fk_mt (List.mem_of_getElem? (i := 510) (by decide +kernel)) (by decide +kernel)
theorem i_511 : (Cond.code ({ cls := "FlowDesk", name := "order", desc := "(I)I" } : MethodName) prog_1_method_7_code (2 : Nat) (some .int)) ∈ fk_ALL := fk_mt (List.mem_of_getElem? (i := 511) (by decide +kernel)) (by decide +kernel)
theorem i_513 : (Cond.classLink "FlowDesk" (129 : Nat) "java/util/NoSuchElementException") ∈ fk_ALL := fk_mt (List.mem_of_getElem? (i := 513) (by decide +kernel)) (by decide +kernel)
theorem i_514 : (Cond.instantiable "java/util/NoSuchElementException" (6 : Nat)) ∈ fk_ALL := fk_mt (List.mem_of_getElem? (i := 514) (by decide +kernel)) (by decide +kernel)
theorem i_516 : (Cond.selects "java/util/NoSuchElementException" ({ cls := "java/lang/Throwable", name := "fillInStackTrace", desc := "(I)Ljava/lang/Throwable;" } : MethodName) ({ cls := "java/lang/Throwable", name := "fillInStackTrace", desc := "(I)Ljava/lang/Throwable;" } : MethodName)) ∈ fk_ALL := fk_mt (List.mem_of_getElem? (i := 516) (by decide +kernel)) (by decide +kernel)
theorem i_517 : (Cond.lays "java/util/NoSuchElementException" "java/lang/Throwable" "cause" "Ljava/lang/Throwable;") ∈ fk_ALL := fk_mt (List.mem_of_getElem? (i := 517) (by decide +kernel)) (by decide +kernel)
theorem i_518 : (Cond.lays "java/util/NoSuchElementException" "java/lang/Throwable" "stackTrace" "[Ljava/lang/StackTraceElement;") ∈ fk_ALL := fk_mt (List.mem_of_getElem? (i := 518) (by decide +kernel)) (by decide +kernel)
theorem i_519 : (Cond.lays "java/util/NoSuchElementException" "java/lang/Throwable" "suppressedExceptions" "Ljava/util/List;") ∈ fk_ALL := fk_mt (List.mem_of_getElem? (i := 519) (by decide +kernel)) (by decide +kernel)
theorem i_520 : (Cond.lays "java/util/NoSuchElementException" "java/lang/Throwable" "detailMessage" "Ljava/lang/String;") ∈ fk_ALL := fk_mt (List.mem_of_getElem? (i := 520) (by decide +kernel)) (by decide +kernel)
theorem i_521 : (Cond.lays "java/util/NoSuchElementException" "java/lang/Throwable" "backtrace" "Ljava/lang/Object;") ∈ fk_ALL := fk_mt (List.mem_of_getElem? (i := 521) (by decide +kernel)) (by decide +kernel)
theorem i_523 : (Cond.methodLink "FlowDesk" (133 : Nat) ({ cls := "java/util/NoSuchElementException", name := "<init>", desc := "(Ljava/lang/String;)V" } : MethodName)) ∈ fk_ALL := fk_mt (List.mem_of_getElem? (i := 523) (by decide +kernel)) (by decide +kernel)
theorem i_524 : (Cond.instanceMethod ({ cls := "java/util/NoSuchElementException", name := "<init>", desc := "(Ljava/lang/String;)V" } : MethodName)) ∈ fk_ALL := fk_mt (List.mem_of_getElem? (i := 524) (by decide +kernel)) (by decide +kernel)
theorem i_526 : (Cond.methodLink "java/util/NoSuchElementException" (13 : Nat) ({ cls := "java/lang/RuntimeException", name := "<init>", desc := "(Ljava/lang/String;)V" } : MethodName)) ∈ fk_ALL := fk_mt (List.mem_of_getElem? (i := 526) (by decide +kernel)) (by decide +kernel)
theorem i_527 : (Cond.lays "java/util/NoSuchElementException" "java/lang/Throwable" "depth" "I") ∈ fk_ALL := fk_mt (List.mem_of_getElem? (i := 527) (by decide +kernel)) (by decide +kernel)
theorem i_529 : (Cond.methodLink "FlowDeskLaw" (86 : Nat) ({ cls := "FlowDeskLaw", name := "set", desc := "(LFlowDesk;II)I" } : MethodName)) ∈ fk_ALL := fk_mt (List.mem_of_getElem? (i := 529) (by decide +kernel)) (by decide +kernel)
theorem i_530 : (Cond.static ({ cls := "FlowDeskLaw", name := "set", desc := "(LFlowDesk;II)I" } : MethodName)) ∈ fk_ALL := fk_mt (List.mem_of_getElem? (i := 530) (by decide +kernel)) (by decide +kernel)
theorem i_531 : (Cond.codeWith ({ cls := "FlowDeskLaw", name := "set", desc := "(LFlowDesk;II)I" } : MethodName) method_8_code (4 : Nat) (some .int) [((0 : Nat), (6 : Nat), (9 : Nat), (13 : Nat))]) ∈ fk_ALL := fk_mt (List.mem_of_getElem? (i := 531) (by decide +kernel)) (by decide +kernel)
theorem i_532 : (Cond.methodLink "FlowDeskLaw" (34 : Nat) ({ cls := "FlowDesk", name := "set", desc := "(II)V" } : MethodName)) ∈ fk_ALL := fk_mt (List.mem_of_getElem? (i := 532) (by decide +kernel)) (by decide +kernel)
theorem i_533 : (Cond.instanceMethod ({ cls := "FlowDesk", name := "set", desc := "(II)V" } : MethodName)) ∈ fk_ALL := fk_mt (List.mem_of_getElem? (i := 533) (by decide +kernel)) (by decide +kernel)
theorem i_534 : (Cond.selects "FlowDesk" ({ cls := "FlowDesk", name := "set", desc := "(II)V" } : MethodName) ({ cls := "FlowDesk", name := "set", desc := "(II)V" } : MethodName)) ∈ fk_ALL := fk_mt (List.mem_of_getElem? (i := 534) (by decide +kernel)) (by decide +kernel)
theorem i_535 : (Cond.code ({ cls := "FlowDesk", name := "set", desc := "(II)V" } : MethodName) prog_1_method_8_code (4 : Nat) (none : Option FieldType)) ∈ fk_ALL := fk_mt (List.mem_of_getElem? (i := 535) (by decide +kernel)) (by decide +kernel)
theorem i_537 : (Cond.methodLink "FlowDeskLaw" (90 : Nat) ({ cls := "FlowDeskLaw", name := "instants", desc := "(LFlowDesk;I)I" } : MethodName)) ∈ fk_ALL := fk_mt (List.mem_of_getElem? (i := 537) (by decide +kernel)) (by decide +kernel)
theorem i_538 : (Cond.static ({ cls := "FlowDeskLaw", name := "instants", desc := "(LFlowDesk;I)I" } : MethodName)) ∈ fk_ALL := fk_mt (List.mem_of_getElem? (i := 538) (by decide +kernel)) (by decide +kernel)
theorem i_539 : (Cond.codeWith ({ cls := "FlowDeskLaw", name := "instants", desc := "(LFlowDesk;I)I" } : MethodName) method_9_code (3 : Nat) (some .int) [((0 : Nat), (5 : Nat), (8 : Nat), (13 : Nat)), ((0 : Nat), (5 : Nat), (11 : Nat), (15 : Nat))]) ∈ fk_ALL := fk_mt (List.mem_of_getElem? (i := 539) (by decide +kernel)) (by decide +kernel)
theorem i_540 : (Cond.methodLink "FlowDeskLaw" (38 : Nat) ({ cls := "FlowDesk", name := "instants", desc := "(I)V" } : MethodName)) ∈ fk_ALL := fk_mt (List.mem_of_getElem? (i := 540) (by decide +kernel)) (by decide +kernel)
theorem i_541 : (Cond.instanceMethod ({ cls := "FlowDesk", name := "instants", desc := "(I)V" } : MethodName)) ∈ fk_ALL := fk_mt (List.mem_of_getElem? (i := 541) (by decide +kernel)) (by decide +kernel)
theorem i_542 : (Cond.selects "FlowDesk" ({ cls := "FlowDesk", name := "instants", desc := "(I)V" } : MethodName) ({ cls := "FlowDesk", name := "instants", desc := "(I)V" } : MethodName)) ∈ fk_ALL := fk_mt (List.mem_of_getElem? (i := 542) (by decide +kernel)) (by decide +kernel)
theorem i_543 : (Cond.code ({ cls := "FlowDesk", name := "instants", desc := "(I)V" } : MethodName) prog_1_method_9_code (3 : Nat) (none : Option FieldType)) ∈ fk_ALL := fk_mt (List.mem_of_getElem? (i := 543) (by decide +kernel)) (by decide +kernel)
theorem i_547 : (Cond.instanceMethod ({ cls := "FlowDesk$Clockwork", name := "step", desc := "()V" } : MethodName)) ∈ fk_ALL := fk_mt (List.mem_of_getElem? (i := 547) (by decide +kernel)) (by decide +kernel)
theorem i_548 : (Cond.code ({ cls := "FlowDesk$Clockwork", name := "step", desc := "()V" } : MethodName) prog_3_method_4_code (2 : Nat) (none : Option FieldType)) ∈ fk_ALL := fk_mt (List.mem_of_getElem? (i := 548) (by decide +kernel)) (by decide +kernel)
theorem i_549 : (Cond.methodLink "FlowDesk$Clockwork" (62 : Nat) ({ cls := "FlowDesk$Clockwork", name := "workOut", desc := "(LFlowDesk$Flow;)V" } : MethodName)) ∈ fk_ALL := fk_mt (List.mem_of_getElem? (i := 549) (by decide +kernel)) (by decide +kernel)
theorem i_551 : (Cond.instanceMethod ({ cls := "FlowDesk$Clockwork", name := "workOut", desc := "(LFlowDesk$Flow;)V" } : MethodName)) ∈ fk_ALL := fk_mt (List.mem_of_getElem? (i := 551) (by decide +kernel)) (by decide +kernel)
theorem i_552 : (Cond.code ({ cls := "FlowDesk$Clockwork", name := "workOut", desc := "(LFlowDesk$Flow;)V" } : MethodName) prog_3_method_5_code (2 : Nat) (none : Option FieldType)) ∈ fk_ALL := fk_mt (List.mem_of_getElem? (i := 552) (by decide +kernel)) (by decide +kernel)
theorem i_553 : (Cond.methodLink "FlowDesk$Clockwork" (70 : Nat) ({ cls := "FlowDesk$Clockwork", name := "hasInstant", desc := "(I)Z" } : MethodName)) ∈ fk_ALL := fk_mt (List.mem_of_getElem? (i := 553) (by decide +kernel)) (by decide +kernel)
theorem i_555 : (Cond.instanceMethod ({ cls := "FlowDesk$Clockwork", name := "hasInstant", desc := "(I)Z" } : MethodName)) ∈ fk_ALL := fk_mt (List.mem_of_getElem? (i := 555) (by decide +kernel)) (by decide +kernel)
theorem i_556 : (Cond.code ({ cls := "FlowDesk$Clockwork", name := "hasInstant", desc := "(I)Z" } : MethodName) prog_3_method_6_code (3 : Nat) (some .boolean)) ∈ fk_ALL := fk_mt (List.mem_of_getElem? (i := 556) (by decide +kernel)) (by decide +kernel)
theorem i_558 : (Cond.methodLink "FlowDesk$Clockwork" (84 : Nat) ({ cls := "FlowDesk$Clockwork", name := "resultOf", desc := "(LFlowDesk$Expression;I)I" } : MethodName)) ∈ fk_ALL := fk_mt (List.mem_of_getElem? (i := 558) (by decide +kernel)) (by decide +kernel)
theorem i_560 : (Cond.instanceMethod ({ cls := "FlowDesk$Clockwork", name := "resultOf", desc := "(LFlowDesk$Expression;I)I" } : MethodName)) ∈ fk_ALL := fk_mt (List.mem_of_getElem? (i := 560) (by decide +kernel)) (by decide +kernel)
theorem i_561 : (Cond.code ({ cls := "FlowDesk$Clockwork", name := "resultOf", desc := "(LFlowDesk$Expression;I)I" } : MethodName) prog_3_method_8_code (3 : Nat) (some .int)) ∈ fk_ALL := fk_mt (List.mem_of_getElem? (i := 561) (by decide +kernel)) (by decide +kernel)
theorem i_563 : (Cond.methodLink "FlowDesk$Clockwork" (113 : Nat) ({ cls := "FlowDesk$Clockwork", name := "chosenPart", desc := "(LFlowDesk$Expression;I)I" } : MethodName)) ∈ fk_ALL := fk_mt (List.mem_of_getElem? (i := 563) (by decide +kernel)) (by decide +kernel)
theorem i_565 : (Cond.instanceMethod ({ cls := "FlowDesk$Clockwork", name := "chosenPart", desc := "(LFlowDesk$Expression;I)I" } : MethodName)) ∈ fk_ALL := fk_mt (List.mem_of_getElem? (i := 565) (by decide +kernel)) (by decide +kernel)
theorem i_566 : (Cond.code ({ cls := "FlowDesk$Clockwork", name := "chosenPart", desc := "(LFlowDesk$Expression;I)I" } : MethodName) prog_3_method_9_code (6 : Nat) (some .int)) ∈ fk_ALL := fk_mt (List.mem_of_getElem? (i := 566) (by decide +kernel)) (by decide +kernel)
theorem i_570 : (Cond.instanceMethod ({ cls := "FlowDesk$Expression", name := "secondPart", desc := "(I)I" } : MethodName)) ∈ fk_ALL := fk_mt (List.mem_of_getElem? (i := 570) (by decide +kernel)) (by decide +kernel)
theorem i_571 : (Cond.code ({ cls := "FlowDesk$Expression", name := "secondPart", desc := "(I)I" } : MethodName) prog_4_method_7_code (2 : Nat) (some .int)) ∈ fk_ALL := fk_mt (List.mem_of_getElem? (i := 571) (by decide +kernel)) (by decide +kernel)
theorem i_572 : (Cond.methodLink "FlowDesk$Expression" (48 : Nat) ({ cls := "FlowDesk$Expression", name := "firstPart", desc := "(I)I" } : MethodName)) ∈ fk_ALL := fk_mt (List.mem_of_getElem? (i := 572) (by decide +kernel)) (by decide +kernel)
theorem i_575 : (Cond.instanceMethod ({ cls := "FlowDesk$Expression", name := "thirdPart", desc := "(I)I" } : MethodName)) ∈ fk_ALL := fk_mt (List.mem_of_getElem? (i := 575) (by decide +kernel)) (by decide +kernel)
theorem i_576 : (Cond.code ({ cls := "FlowDesk$Expression", name := "thirdPart", desc := "(I)I" } : MethodName) prog_4_method_8_code (2 : Nat) (some .int)) ∈ fk_ALL := fk_mt (List.mem_of_getElem? (i := 576) (by decide +kernel)) (by decide +kernel)
theorem i_577 : (Cond.methodLink "FlowDesk$Expression" (52 : Nat) ({ cls := "FlowDesk$Expression", name := "secondPart", desc := "(I)I" } : MethodName)) ∈ fk_ALL := fk_mt (List.mem_of_getElem? (i := 577) (by decide +kernel)) (by decide +kernel)
theorem i_578 : (Cond.methodLink "FlowDesk$Clockwork" (119 : Nat) ({ cls := "FlowDesk$Clockwork", name := "combine", desc := "(III)I" } : MethodName)) ∈ fk_ALL := fk_mt (List.mem_of_getElem? (i := 578) (by decide +kernel)) (by decide +kernel)
theorem i_579 : (Cond.static ({ cls := "FlowDesk$Clockwork", name := "combine", desc := "(III)I" } : MethodName)) ∈ fk_ALL := fk_mt (List.mem_of_getElem? (i := 579) (by decide +kernel)) (by decide +kernel)
theorem i_580 : (Cond.code ({ cls := "FlowDesk$Clockwork", name := "combine", desc := "(III)I" } : MethodName) prog_3_method_10_code (3 : Nat) (some .int)) ∈ fk_ALL := fk_mt (List.mem_of_getElem? (i := 580) (by decide +kernel)) (by decide +kernel)
theorem i_582 : (Cond.static ({ cls := "FlowDesk", name := "truth", desc := "(Z)I" } : MethodName)) ∈ fk_ALL := fk_mt (List.mem_of_getElem? (i := 582) (by decide +kernel)) (by decide +kernel)
theorem i_583 : (Cond.code ({ cls := "FlowDesk", name := "truth", desc := "(Z)I" } : MethodName) prog_1_method_20_code (1 : Nat) (some .int)) ∈ fk_ALL := fk_mt (List.mem_of_getElem? (i := 583) (by decide +kernel)) (by decide +kernel)
theorem i_584 : (Cond.methodLink "FlowDesk$Clockwork" (66 : Nat) ({ cls := "FlowDesk$Clockwork", name := "remember", desc := "(LFlowDesk$Expression;)V" } : MethodName)) ∈ fk_ALL := fk_mt (List.mem_of_getElem? (i := 584) (by decide +kernel)) (by decide +kernel)
theorem i_586 : (Cond.instanceMethod ({ cls := "FlowDesk$Clockwork", name := "remember", desc := "(LFlowDesk$Expression;)V" } : MethodName)) ∈ fk_ALL := fk_mt (List.mem_of_getElem? (i := 586) (by decide +kernel)) (by decide +kernel)
theorem i_587 : (Cond.code ({ cls := "FlowDesk$Clockwork", name := "remember", desc := "(LFlowDesk$Expression;)V" } : MethodName) prog_3_method_7_code (4 : Nat) (none : Option FieldType)) ∈ fk_ALL := fk_mt (List.mem_of_getElem? (i := 587) (by decide +kernel)) (by decide +kernel)
theorem i_589 : (Cond.methodLink "FlowDeskLaw" (97 : Nat) ({ cls := "FlowDeskLaw", name := "present", desc := "(LFlowDesk;I[J)I" } : MethodName)) ∈ fk_ALL := fk_mt (List.mem_of_getElem? (i := 589) (by decide +kernel)) (by decide +kernel)
theorem i_590 : (Cond.static ({ cls := "FlowDeskLaw", name := "present", desc := "(LFlowDesk;I[J)I" } : MethodName)) ∈ fk_ALL := fk_mt (List.mem_of_getElem? (i := 590) (by decide +kernel)) (by decide +kernel)
theorem i_591 : (Cond.codeWith ({ cls := "FlowDeskLaw", name := "present", desc := "(LFlowDesk;I[J)I" } : MethodName) method_10_code (4 : Nat) (some .int) [((0 : Nat), (16 : Nat), (19 : Nat), (13 : Nat))]) ∈ fk_ALL := fk_mt (List.mem_of_getElem? (i := 591) (by decide +kernel)) (by decide +kernel)
theorem i_592 : (Cond.methodLink "FlowDeskLaw" (41 : Nat) ({ cls := "FlowDesk", name := "present", desc := "(I)Z" } : MethodName)) ∈ fk_ALL := fk_mt (List.mem_of_getElem? (i := 592) (by decide +kernel)) (by decide +kernel)
theorem i_593 : (Cond.instanceMethod ({ cls := "FlowDesk", name := "present", desc := "(I)Z" } : MethodName)) ∈ fk_ALL := fk_mt (List.mem_of_getElem? (i := 593) (by decide +kernel)) (by decide +kernel)
theorem i_594 : (Cond.selects "FlowDesk" ({ cls := "FlowDesk", name := "present", desc := "(I)Z" } : MethodName) ({ cls := "FlowDesk", name := "present", desc := "(I)Z" } : MethodName)) ∈ fk_ALL := fk_mt (List.mem_of_getElem? (i := 594) (by decide +kernel)) (by decide +kernel)
theorem i_595 : (Cond.code ({ cls := "FlowDesk", name := "present", desc := "(I)Z" } : MethodName) prog_1_method_11_code (2 : Nat) (some .boolean)) ∈ fk_ALL := fk_mt (List.mem_of_getElem? (i := 595) (by decide +kernel)) (by decide +kernel)
theorem i_597 : (Cond.methodLink "FlowDeskLaw" (100 : Nat) ({ cls := "FlowDeskLaw", name := "value", desc := "(LFlowDesk;I[J)I" } : MethodName)) ∈ fk_ALL := fk_mt (List.mem_of_getElem? (i := 597) (by decide +kernel)) (by decide +kernel)
theorem i_598 : (Cond.static ({ cls := "FlowDeskLaw", name := "value", desc := "(LFlowDesk;I[J)I" } : MethodName)) ∈ fk_ALL := fk_mt (List.mem_of_getElem? (i := 598) (by decide +kernel)) (by decide +kernel)
theorem i_599 : (Cond.codeWith ({ cls := "FlowDeskLaw", name := "value", desc := "(LFlowDesk;I[J)I" } : MethodName) method_11_code (4 : Nat) (some .int) [((0 : Nat), (9 : Nat), (12 : Nat), (13 : Nat)), ((0 : Nat), (9 : Nat), (15 : Nat), (32 : Nat))]) ∈ fk_ALL := fk_mt (List.mem_of_getElem? (i := 599) (by decide +kernel)) (by decide +kernel)
theorem i_600 : (Cond.methodLink "FlowDeskLaw" (45 : Nat) ({ cls := "FlowDesk", name := "value", desc := "(I)I" } : MethodName)) ∈ fk_ALL := fk_mt (List.mem_of_getElem? (i := 600) (by decide +kernel)) (by decide +kernel)
theorem i_601 : (Cond.instanceMethod ({ cls := "FlowDesk", name := "value", desc := "(I)I" } : MethodName)) ∈ fk_ALL := fk_mt (List.mem_of_getElem? (i := 601) (by decide +kernel)) (by decide +kernel)
theorem i_602 : (Cond.selects "FlowDesk" ({ cls := "FlowDesk", name := "value", desc := "(I)I" } : MethodName) ({ cls := "FlowDesk", name := "value", desc := "(I)I" } : MethodName)) ∈ fk_ALL := fk_mt (List.mem_of_getElem? (i := 602) (by decide +kernel)) (by decide +kernel)
theorem i_603 : (Cond.code ({ cls := "FlowDesk", name := "value", desc := "(I)I" } : MethodName) prog_1_method_12_code (2 : Nat) (some .int)) ∈ fk_ALL := fk_mt (List.mem_of_getElem? (i := 603) (by decide +kernel)) (by decide +kernel)
theorem i_606 : (Cond.instanceMethod ({ cls := "FlowDesk$Clockwork", name := "countOf", desc := "(I)I" } : MethodName)) ∈ fk_ALL := fk_mt (List.mem_of_getElem? (i := 606) (by decide +kernel)) (by decide +kernel)
theorem i_607 : (Cond.code ({ cls := "FlowDesk$Clockwork", name := "countOf", desc := "(I)I" } : MethodName) prog_3_method_3_code (2 : Nat) (some .int)) ∈ fk_ALL := fk_mt (List.mem_of_getElem? (i := 607) (by decide +kernel)) (by decide +kernel)
theorem i_609 : (Cond.methodLink "FlowDeskLaw" (103 : Nat) ({ cls := "FlowDeskLaw", name := "seen", desc := "(LFlowDesk;I[J)I" } : MethodName)) ∈ fk_ALL := fk_mt (List.mem_of_getElem? (i := 609) (by decide +kernel)) (by decide +kernel)
theorem i_610 : (Cond.static ({ cls := "FlowDeskLaw", name := "seen", desc := "(LFlowDesk;I[J)I" } : MethodName)) ∈ fk_ALL := fk_mt (List.mem_of_getElem? (i := 610) (by decide +kernel)) (by decide +kernel)
theorem i_611 : (Cond.codeWith ({ cls := "FlowDeskLaw", name := "seen", desc := "(LFlowDesk;I[J)I" } : MethodName) method_12_code (4 : Nat) (some .int) [((0 : Nat), (9 : Nat), (12 : Nat), (13 : Nat))]) ∈ fk_ALL := fk_mt (List.mem_of_getElem? (i := 611) (by decide +kernel)) (by decide +kernel)
theorem i_612 : (Cond.methodLink "FlowDeskLaw" (48 : Nat) ({ cls := "FlowDesk", name := "seen", desc := "(I)I" } : MethodName)) ∈ fk_ALL := fk_mt (List.mem_of_getElem? (i := 612) (by decide +kernel)) (by decide +kernel)
theorem i_613 : (Cond.instanceMethod ({ cls := "FlowDesk", name := "seen", desc := "(I)I" } : MethodName)) ∈ fk_ALL := fk_mt (List.mem_of_getElem? (i := 613) (by decide +kernel)) (by decide +kernel)
theorem i_614 : (Cond.selects "FlowDesk" ({ cls := "FlowDesk", name := "seen", desc := "(I)I" } : MethodName) ({ cls := "FlowDesk", name := "seen", desc := "(I)I" } : MethodName)) ∈ fk_ALL := fk_mt (List.mem_of_getElem? (i := 614) (by decide +kernel)) (by decide +kernel)
theorem i_615 : (Cond.code ({ cls := "FlowDesk", name := "seen", desc := "(I)I" } : MethodName) prog_1_method_13_code (2 : Nat) (some .int)) ∈ fk_ALL := fk_mt (List.mem_of_getElem? (i := 615) (by decide +kernel)) (by decide +kernel)
theorem i_616 : (Cond.classLink "FlowDeskLaw" (52 : Nat) "FlowDeskModel") ∈ fk_ALL := fk_mt (List.mem_of_getElem? (i := 616) (by decide +kernel)) (by decide +kernel)
theorem i_617 : (Cond.instantiable "FlowDeskModel" (31 : Nat)) ∈ fk_ALL := fk_mt (List.mem_of_getElem? (i := 617) (by decide +kernel)) (by decide +kernel)
theorem i_618 : (Cond.methodLink "FlowDeskLaw" (54 : Nat) ({ cls := "FlowDeskModel", name := "<init>", desc := "()V" } : MethodName)) ∈ fk_ALL := fk_mt (List.mem_of_getElem? (i := 618) (by decide +kernel)) (by decide +kernel)
theorem i_619 : (Cond.instanceMethod ({ cls := "FlowDeskModel", name := "<init>", desc := "()V" } : MethodName)) ∈ fk_ALL := fk_mt (List.mem_of_getElem? (i := 619) (by decide +kernel)) (by decide +kernel)
theorem i_620 : (Cond.code ({ cls := "FlowDeskModel", name := "<init>", desc := "()V" } : MethodName) prog_9_method_1_code (1 : Nat) (none : Option FieldType)) ∈ fk_ALL := fk_mt (List.mem_of_getElem? (i := 620) (by decide +kernel)) (by decide +kernel)
theorem i_621 : (Cond.methodLink "FlowDeskModel" (1 : Nat) ({ cls := "java/lang/Object", name := "<init>", desc := "()V" } : MethodName)) ∈ fk_ALL := fk_mt (List.mem_of_getElem? (i := 621) (by decide +kernel)) (by decide +kernel)
theorem i_622 : (Cond.fieldLink "FlowDeskModel" (78 : Nat) "FlowDeskModel" "thrown" "I") ∈ fk_ALL := fk_mt (List.mem_of_getElem? (i := 622) (by decide +kernel)) (by decide +kernel)
theorem i_623 : (Cond.fieldLink "FlowDeskModel" (94 : Nat) "FlowDeskModel" "flows" "I") ∈ fk_ALL := fk_mt (List.mem_of_getElem? (i := 623) (by decide +kernel)) (by decide +kernel)
theorem i_624 : (Cond.fieldLink "FlowDeskModel" (7 : Nat) "FlowDeskModel" "bool" "[Z") ∈ fk_ALL := fk_mt (List.mem_of_getElem? (i := 624) (by decide +kernel)) (by decide +kernel)
theorem i_625 : (Cond.fieldLink "FlowDeskModel" (13 : Nat) "FlowDeskModel" "input" "[Z") ∈ fk_ALL := fk_mt (List.mem_of_getElem? (i := 625) (by decide +kernel)) (by decide +kernel)
theorem i_626 : (Cond.fieldLink "FlowDeskModel" (16 : Nat) "FlowDeskModel" "clock" "[I") ∈ fk_ALL := fk_mt (List.mem_of_getElem? (i := 626) (by decide +kernel)) (by decide +kernel)
theorem i_627 : (Cond.fieldLink "FlowDeskModel" (20 : Nat) "FlowDeskModel" "wanted" "[I") ∈ fk_ALL := fk_mt (List.mem_of_getElem? (i := 627) (by decide +kernel)) (by decide +kernel)
theorem i_628 : (Cond.fieldLink "FlowDeskModel" (23 : Nat) "FlowDeskModel" "value" "[I") ∈ fk_ALL := fk_mt (List.mem_of_getElem? (i := 628) (by decide +kernel)) (by decide +kernel)
theorem i_629 : (Cond.fieldLink "FlowDeskModel" (26 : Nat) "FlowDeskModel" "seen" "[I") ∈ fk_ALL := fk_mt (List.mem_of_getElem? (i := 629) (by decide +kernel)) (by decide +kernel)
theorem i_630 : (Cond.fieldLink "FlowDeskModel" (29 : Nat) "FlowDeskModel" "present" "[Z") ∈ fk_ALL := fk_mt (List.mem_of_getElem? (i := 630) (by decide +kernel)) (by decide +kernel)
theorem i_631 : (Cond.fieldLink "FlowDeskModel" (32 : Nat) "FlowDeskModel" "waits" "[I") ∈ fk_ALL := fk_mt (List.mem_of_getElem? (i := 631) (by decide +kernel)) (by decide +kernel)
theorem i_632 : (Cond.fieldLink "FlowDeskModel" (35 : Nat) "FlowDeskModel" "size" "[I") ∈ fk_ALL := fk_mt (List.mem_of_getElem? (i := 632) (by decide +kernel)) (by decide +kernel)
theorem i_633 : (Cond.fieldLink "FlowDeskModel" (38 : Nat) "FlowDeskModel" "parts" "[I") ∈ fk_ALL := fk_mt (List.mem_of_getElem? (i := 633) (by decide +kernel)) (by decide +kernel)
theorem i_634 : (Cond.fieldLink "FlowDeskModel" (41 : Nat) "FlowDeskModel" "bytes" "[I") ∈ fk_ALL := fk_mt (List.mem_of_getElem? (i := 634) (by decide +kernel)) (by decide +kernel)
theorem i_635 : (Cond.fieldLink "FlowDeskModel" (44 : Nat) "FlowDeskModel" "begin" "[I") ∈ fk_ALL := fk_mt (List.mem_of_getElem? (i := 635) (by decide +kernel)) (by decide +kernel)
theorem i_636 : (Cond.fieldLink "FlowDeskModel" (47 : Nat) "FlowDeskModel" "on" "[I") ∈ fk_ALL := fk_mt (List.mem_of_getElem? (i := 636) (by decide +kernel)) (by decide +kernel)
theorem i_637 : (Cond.fieldLink "FlowDeskModel" (50 : Nat) "FlowDeskModel" "kept" "[I") ∈ fk_ALL := fk_mt (List.mem_of_getElem? (i := 637) (by decide +kernel)) (by decide +kernel)
theorem i_638 : (Cond.fieldLink "FlowDeskModel" (53 : Nat) "FlowDeskModel" "next" "[I") ∈ fk_ALL := fk_mt (List.mem_of_getElem? (i := 638) (by decide +kernel)) (by decide +kernel)
theorem i_639 : (Cond.fieldLink "FlowDeskModel" (56 : Nat) "FlowDeskModel" "started" "[Z") ∈ fk_ALL := fk_mt (List.mem_of_getElem? (i := 639) (by decide +kernel)) (by decide +kernel)
theorem i_640 : (Cond.fieldLink "FlowDeskModel" (59 : Nat) "FlowDeskModel" "draft" "[I") ∈ fk_ALL := fk_mt (List.mem_of_getElem? (i := 640) (by decide +kernel)) (by decide +kernel)
theorem i_641 : (Cond.fieldLink "FlowDeskModel" (104 : Nat) "FlowDeskModel" "drafted" "I") ∈ fk_ALL := fk_mt (List.mem_of_getElem? (i := 641) (by decide +kernel)) (by decide +kernel)
theorem i_642 : (Cond.fieldLink "FlowDeskModel" (62 : Nat) "FlowDeskModel" "starts" "[I") ∈ fk_ALL := fk_mt (List.mem_of_getElem? (i := 642) (by decide +kernel)) (by decide +kernel)
theorem i_643 : (Cond.fieldLink "FlowDeskModel" (109 : Nat) "FlowDeskModel" "found" "I") ∈ fk_ALL := fk_mt (List.mem_of_getElem? (i := 643) (by decide +kernel)) (by decide +kernel)
theorem i_644 : (Cond.fieldLink "FlowDeskModel" (84 : Nat) "FlowDeskModel" "time" "I") ∈ fk_ALL := fk_mt (List.mem_of_getElem? (i := 644) (by decide +kernel)) (by decide +kernel)
theorem i_645 : (Cond.fieldLink "FlowDeskModel" (87 : Nat) "FlowDeskModel" "good" "Z") ∈ fk_ALL := fk_mt (List.mem_of_getElem? (i := 645) (by decide +kernel)) (by decide +kernel)
theorem i_646 : (Cond.fieldLink "FlowDeskModel" (65 : Nat) "FlowDeskModel" "faultFlow" "I") ∈ fk_ALL := fk_mt (List.mem_of_getElem? (i := 646) (by decide +kernel)) (by decide +kernel)
theorem i_647 : (Cond.fieldLink "FlowDeskModel" (69 : Nat) "FlowDeskModel" "faultByte" "I") ∈ fk_ALL := fk_mt (List.mem_of_getElem? (i := 647) (by decide +kernel)) (by decide +kernel)
theorem i_648 : (Cond.fieldLink "FlowDeskModel" (72 : Nat) "FlowDeskModel" "order" "[I") ∈ fk_ALL := fk_mt (List.mem_of_getElem? (i := 648) (by decide +kernel)) (by decide +kernel)
theorem i_649 : (Cond.fieldLink "FlowDeskModel" (163 : Nat) "FlowDeskModel" "ordered" "I") ∈ fk_ALL := fk_mt (List.mem_of_getElem? (i := 649) (by decide +kernel)) (by decide +kernel)
theorem i_650 : (Cond.fieldLink "FlowDeskModel" (75 : Nat) "FlowDeskModel" "stack" "[I") ∈ fk_ALL := fk_mt (List.mem_of_getElem? (i := 650) (by decide +kernel)) (by decide +kernel)
theorem i_651 : (Cond.fieldLink "FlowDeskModel" (81 : Nat) "FlowDeskModel" "top" "I") ∈ fk_ALL := fk_mt (List.mem_of_getElem? (i := 651) (by decide +kernel)) (by decide +kernel)
theorem i_652 : (Cond.fieldLink "FlowDeskModel" (132 : Nat) "FlowDeskModel" "place" "I") ∈ fk_ALL := fk_mt (List.mem_of_getElem? (i := 652) (by decide +kernel)) (by decide +kernel)
theorem i_653 : (Cond.lays "FlowDeskModel" "FlowDeskModel" "thrown" "I") ∈ fk_ALL := fk_mt (List.mem_of_getElem? (i := 653) (by decide +kernel)) (by decide +kernel)
theorem i_655 : (Cond.lays "FlowDeskModel" "FlowDeskModel" "flows" "I") ∈ fk_ALL := fk_mt (List.mem_of_getElem? (i := 655) (by decide +kernel)) (by decide +kernel)
theorem i_657 : (Cond.laysFinal "FlowDeskModel" "FlowDeskModel" "bool" "[Z") ∈ fk_ALL := fk_mt (List.mem_of_getElem? (i := 657) (by decide +kernel)) (by decide +kernel)
theorem i_659 : (Cond.laysFinal "FlowDeskModel" "FlowDeskModel" "input" "[Z") ∈ fk_ALL := fk_mt (List.mem_of_getElem? (i := 659) (by decide +kernel)) (by decide +kernel)
theorem i_661 : (Cond.laysFinal "FlowDeskModel" "FlowDeskModel" "clock" "[I") ∈ fk_ALL := fk_mt (List.mem_of_getElem? (i := 661) (by decide +kernel)) (by decide +kernel)
theorem i_663 : (Cond.laysFinal "FlowDeskModel" "FlowDeskModel" "wanted" "[I") ∈ fk_ALL := fk_mt (List.mem_of_getElem? (i := 663) (by decide +kernel)) (by decide +kernel)
theorem i_665 : (Cond.laysFinal "FlowDeskModel" "FlowDeskModel" "value" "[I") ∈ fk_ALL := fk_mt (List.mem_of_getElem? (i := 665) (by decide +kernel)) (by decide +kernel)
theorem i_667 : (Cond.laysFinal "FlowDeskModel" "FlowDeskModel" "seen" "[I") ∈ fk_ALL := fk_mt (List.mem_of_getElem? (i := 667) (by decide +kernel)) (by decide +kernel)
theorem i_669 : (Cond.laysFinal "FlowDeskModel" "FlowDeskModel" "present" "[Z") ∈ fk_ALL := fk_mt (List.mem_of_getElem? (i := 669) (by decide +kernel)) (by decide +kernel)
theorem i_671 : (Cond.laysFinal "FlowDeskModel" "FlowDeskModel" "waits" "[I") ∈ fk_ALL := fk_mt (List.mem_of_getElem? (i := 671) (by decide +kernel)) (by decide +kernel)
theorem i_673 : (Cond.laysFinal "FlowDeskModel" "FlowDeskModel" "size" "[I") ∈ fk_ALL := fk_mt (List.mem_of_getElem? (i := 673) (by decide +kernel)) (by decide +kernel)
theorem i_675 : (Cond.laysFinal "FlowDeskModel" "FlowDeskModel" "parts" "[I") ∈ fk_ALL := fk_mt (List.mem_of_getElem? (i := 675) (by decide +kernel)) (by decide +kernel)
theorem i_677 : (Cond.laysFinal "FlowDeskModel" "FlowDeskModel" "bytes" "[I") ∈ fk_ALL := fk_mt (List.mem_of_getElem? (i := 677) (by decide +kernel)) (by decide +kernel)
theorem i_679 : (Cond.laysFinal "FlowDeskModel" "FlowDeskModel" "begin" "[I") ∈ fk_ALL := fk_mt (List.mem_of_getElem? (i := 679) (by decide +kernel)) (by decide +kernel)
theorem i_681 : (Cond.laysFinal "FlowDeskModel" "FlowDeskModel" "on" "[I") ∈ fk_ALL := fk_mt (List.mem_of_getElem? (i := 681) (by decide +kernel)) (by decide +kernel)
theorem i_683 : (Cond.laysFinal "FlowDeskModel" "FlowDeskModel" "kept" "[I") ∈ fk_ALL := fk_mt (List.mem_of_getElem? (i := 683) (by decide +kernel)) (by decide +kernel)
theorem i_685 : (Cond.laysFinal "FlowDeskModel" "FlowDeskModel" "next" "[I") ∈ fk_ALL := fk_mt (List.mem_of_getElem? (i := 685) (by decide +kernel)) (by decide +kernel)
theorem i_687 : (Cond.laysFinal "FlowDeskModel" "FlowDeskModel" "started" "[Z") ∈ fk_ALL := fk_mt (List.mem_of_getElem? (i := 687) (by decide +kernel)) (by decide +kernel)
theorem i_689 : (Cond.laysFinal "FlowDeskModel" "FlowDeskModel" "draft" "[I") ∈ fk_ALL := fk_mt (List.mem_of_getElem? (i := 689) (by decide +kernel)) (by decide +kernel)
theorem i_691 : (Cond.lays "FlowDeskModel" "FlowDeskModel" "drafted" "I") ∈ fk_ALL := fk_mt (List.mem_of_getElem? (i := 691) (by decide +kernel)) (by decide +kernel)
theorem i_693 : (Cond.laysFinal "FlowDeskModel" "FlowDeskModel" "starts" "[I") ∈ fk_ALL := fk_mt (List.mem_of_getElem? (i := 693) (by decide +kernel)) (by decide +kernel)
theorem i_695 : (Cond.lays "FlowDeskModel" "FlowDeskModel" "found" "I") ∈ fk_ALL := fk_mt (List.mem_of_getElem? (i := 695) (by decide +kernel)) (by decide +kernel)
theorem i_697 : (Cond.lays "FlowDeskModel" "FlowDeskModel" "time" "I") ∈ fk_ALL := fk_mt (List.mem_of_getElem? (i := 697) (by decide +kernel)) (by decide +kernel)
theorem i_699 : (Cond.lays "FlowDeskModel" "FlowDeskModel" "good" "Z") ∈ fk_ALL := fk_mt (List.mem_of_getElem? (i := 699) (by decide +kernel)) (by decide +kernel)
theorem i_701 : (Cond.lays "FlowDeskModel" "FlowDeskModel" "faultFlow" "I") ∈ fk_ALL := fk_mt (List.mem_of_getElem? (i := 701) (by decide +kernel)) (by decide +kernel)
theorem i_703 : (Cond.lays "FlowDeskModel" "FlowDeskModel" "faultByte" "I") ∈ fk_ALL := fk_mt (List.mem_of_getElem? (i := 703) (by decide +kernel)) (by decide +kernel)
theorem i_705 : (Cond.laysFinal "FlowDeskModel" "FlowDeskModel" "order" "[I") ∈ fk_ALL := fk_mt (List.mem_of_getElem? (i := 705) (by decide +kernel)) (by decide +kernel)
theorem i_707 : (Cond.lays "FlowDeskModel" "FlowDeskModel" "ordered" "I") ∈ fk_ALL := fk_mt (List.mem_of_getElem? (i := 707) (by decide +kernel)) (by decide +kernel)
theorem i_709 : (Cond.laysFinal "FlowDeskModel" "FlowDeskModel" "stack" "[I") ∈ fk_ALL := fk_mt (List.mem_of_getElem? (i := 709) (by decide +kernel)) (by decide +kernel)
theorem i_711 : (Cond.lays "FlowDeskModel" "FlowDeskModel" "top" "I") ∈ fk_ALL := fk_mt (List.mem_of_getElem? (i := 711) (by decide +kernel)) (by decide +kernel)
theorem i_713 : (Cond.lays "FlowDeskModel" "FlowDeskModel" "place" "I") ∈ fk_ALL := fk_mt (List.mem_of_getElem? (i := 713) (by decide +kernel)) (by decide +kernel)
theorem i_716 : (Cond.methodLink "FlowDeskLaw" (61 : Nat) ({ cls := "FlowDeskModel", name := "thrown", desc := "()I" } : MethodName)) ∈ fk_ALL := fk_mt (List.mem_of_getElem? (i := 716) (by decide +kernel)) (by decide +kernel)
theorem i_717 : (Cond.instanceMethod ({ cls := "FlowDeskModel", name := "thrown", desc := "()I" } : MethodName)) ∈ fk_ALL := fk_mt (List.mem_of_getElem? (i := 717) (by decide +kernel)) (by decide +kernel)
theorem i_718 : (Cond.selects "FlowDeskModel" ({ cls := "FlowDeskModel", name := "thrown", desc := "()I" } : MethodName) ({ cls := "FlowDeskModel", name := "thrown", desc := "()I" } : MethodName)) ∈ fk_ALL := fk_mt (List.mem_of_getElem? (i := 718) (by decide +kernel)) (by decide +kernel)
theorem i_719 : (Cond.code ({ cls := "FlowDeskModel", name := "thrown", desc := "()I" } : MethodName) prog_9_method_2_code (1 : Nat) (some .int)) ∈ fk_ALL := fk_mt (List.mem_of_getElem? (i := 719) (by decide +kernel)) (by decide +kernel)
theorem i_720 : (Cond.methodLink "FlowDeskLaw" (60 : Nat) ({ cls := "FlowDeskModel", name := "flow", desc := "(ZIZ)I" } : MethodName)) ∈ fk_ALL := fk_mt (List.mem_of_getElem? (i := 720) (by decide +kernel)) (by decide +kernel)
theorem i_721 : (Cond.instanceMethod ({ cls := "FlowDeskModel", name := "flow", desc := "(ZIZ)I" } : MethodName)) ∈ fk_ALL := fk_mt (List.mem_of_getElem? (i := 721) (by decide +kernel)) (by decide +kernel)
theorem i_722 : (Cond.selects "FlowDeskModel" ({ cls := "FlowDeskModel", name := "flow", desc := "(ZIZ)I" } : MethodName) ({ cls := "FlowDeskModel", name := "flow", desc := "(ZIZ)I" } : MethodName)) ∈ fk_ALL := fk_mt (List.mem_of_getElem? (i := 722) (by decide +kernel)) (by decide +kernel)
theorem i_723 : (Cond.code ({ cls := "FlowDeskModel", name := "flow", desc := "(ZIZ)I" } : MethodName) prog_9_method_10_code (6 : Nat) (some .int)) ∈ fk_ALL := fk_mt (List.mem_of_getElem? (i := 723) (by decide +kernel)) (by decide +kernel)
theorem i_724 : (Cond.methodLink "FlowDeskModel" (97 : Nat) ({ cls := "FlowDeskModel", name := "throwing", desc := "(ZZ)Z" } : MethodName)) ∈ fk_ALL := fk_mt (List.mem_of_getElem? (i := 724) (by decide +kernel)) (by decide +kernel)
theorem i_726 : (Cond.instanceMethod ({ cls := "FlowDeskModel", name := "throwing", desc := "(ZZ)Z" } : MethodName)) ∈ fk_ALL := fk_mt (List.mem_of_getElem? (i := 726) (by decide +kernel)) (by decide +kernel)
theorem i_727 : (Cond.code ({ cls := "FlowDeskModel", name := "throwing", desc := "(ZZ)Z" } : MethodName) prog_9_method_3_code (3 : Nat) (some .boolean)) ∈ fk_ALL := fk_mt (List.mem_of_getElem? (i := 727) (by decide +kernel)) (by decide +kernel)
theorem i_728 : (Cond.methodLink "FlowDeskModel" (101 : Nat) ({ cls := "FlowDeskModel", name := "again", desc := "()V" } : MethodName)) ∈ fk_ALL := fk_mt (List.mem_of_getElem? (i := 728) (by decide +kernel)) (by decide +kernel)
theorem i_730 : (Cond.instanceMethod ({ cls := "FlowDeskModel", name := "again", desc := "()V" } : MethodName)) ∈ fk_ALL := fk_mt (List.mem_of_getElem? (i := 730) (by decide +kernel)) (by decide +kernel)
theorem i_731 : (Cond.code ({ cls := "FlowDeskModel", name := "again", desc := "()V" } : MethodName) prog_9_method_9_code (1 : Nat) (none : Option FieldType)) ∈ fk_ALL := fk_mt (List.mem_of_getElem? (i := 731) (by decide +kernel)) (by decide +kernel)
theorem i_732 : (Cond.methodLink "FlowDeskModel" (91 : Nat) ({ cls := "FlowDeskModel", name := "restart", desc := "()V" } : MethodName)) ∈ fk_ALL := fk_mt (List.mem_of_getElem? (i := 732) (by decide +kernel)) (by decide +kernel)
theorem i_734 : (Cond.instanceMethod ({ cls := "FlowDeskModel", name := "restart", desc := "()V" } : MethodName)) ∈ fk_ALL := fk_mt (List.mem_of_getElem? (i := 734) (by decide +kernel)) (by decide +kernel)
theorem i_735 : (Cond.code ({ cls := "FlowDeskModel", name := "restart", desc := "()V" } : MethodName) prog_9_method_8_code (2 : Nat) (none : Option FieldType)) ∈ fk_ALL := fk_mt (List.mem_of_getElem? (i := 735) (by decide +kernel)) (by decide +kernel)
theorem i_736 : (Cond.methodLink "FlowDeskLaw" (70 : Nat) ({ cls := "FlowDeskModel", name := "type", desc := "(JI)V" } : MethodName)) ∈ fk_ALL := fk_mt (List.mem_of_getElem? (i := 736) (by decide +kernel)) (by decide +kernel)
theorem i_737 : (Cond.instanceMethod ({ cls := "FlowDeskModel", name := "type", desc := "(JI)V" } : MethodName)) ∈ fk_ALL := fk_mt (List.mem_of_getElem? (i := 737) (by decide +kernel)) (by decide +kernel)
theorem i_738 : (Cond.selects "FlowDeskModel" ({ cls := "FlowDeskModel", name := "type", desc := "(JI)V" } : MethodName) ({ cls := "FlowDeskModel", name := "type", desc := "(JI)V" } : MethodName)) ∈ fk_ALL := fk_mt (List.mem_of_getElem? (i := 738) (by decide +kernel)) (by decide +kernel)
theorem i_739 : (Cond.code ({ cls := "FlowDeskModel", name := "type", desc := "(JI)V" } : MethodName) prog_9_method_11_code (6 : Nat) (none : Option FieldType)) ∈ fk_ALL := fk_mt (List.mem_of_getElem? (i := 739) (by decide +kernel)) (by decide +kernel)
theorem i_741 : (Cond.methodLink "FlowDeskLaw" (74 : Nat) ({ cls := "FlowDeskModel", name := "equation", desc := "(I)V" } : MethodName)) ∈ fk_ALL := fk_mt (List.mem_of_getElem? (i := 741) (by decide +kernel)) (by decide +kernel)
theorem i_742 : (Cond.instanceMethod ({ cls := "FlowDeskModel", name := "equation", desc := "(I)V" } : MethodName)) ∈ fk_ALL := fk_mt (List.mem_of_getElem? (i := 742) (by decide +kernel)) (by decide +kernel)
theorem i_743 : (Cond.selects "FlowDeskModel" ({ cls := "FlowDeskModel", name := "equation", desc := "(I)V" } : MethodName) ({ cls := "FlowDeskModel", name := "equation", desc := "(I)V" } : MethodName)) ∈ fk_ALL := fk_mt (List.mem_of_getElem? (i := 743) (by decide +kernel)) (by decide +kernel)
theorem i_744 : (Cond.code ({ cls := "FlowDeskModel", name := "equation", desc := "(I)V" } : MethodName) prog_9_method_13_code (5 : Nat) (none : Option FieldType)) ∈ fk_ALL := fk_mt (List.mem_of_getElem? (i := 744) (by decide +kernel)) (by decide +kernel)
theorem i_745 : (Cond.methodLink "FlowDeskModel" (124 : Nat) ({ cls := "FlowDeskModel", name := "isWhole", desc := "()Z" } : MethodName)) ∈ fk_ALL := fk_mt (List.mem_of_getElem? (i := 745) (by decide +kernel)) (by decide +kernel)
theorem i_747 : (Cond.instanceMethod ({ cls := "FlowDeskModel", name := "isWhole", desc := "()Z" } : MethodName)) ∈ fk_ALL := fk_mt (List.mem_of_getElem? (i := 747) (by decide +kernel)) (by decide +kernel)
theorem i_748 : (Cond.code ({ cls := "FlowDeskModel", name := "isWhole", desc := "()Z" } : MethodName) prog_9_method_12_code (6 : Nat) (some .boolean)) ∈ fk_ALL := fk_mt (List.mem_of_getElem? (i := 748) (by decide +kernel)) (by decide +kernel)
theorem i_749 : (Cond.methodLink "FlowDeskModel" (112 : Nat) ({ cls := "FlowDeskModel", name := "push", desc := "(I)V" } : MethodName)) ∈ fk_ALL := fk_mt (List.mem_of_getElem? (i := 749) (by decide +kernel)) (by decide +kernel)
theorem i_751 : (Cond.instanceMethod ({ cls := "FlowDeskModel", name := "push", desc := "(I)V" } : MethodName)) ∈ fk_ALL := fk_mt (List.mem_of_getElem? (i := 751) (by decide +kernel)) (by decide +kernel)
theorem i_752 : (Cond.code ({ cls := "FlowDeskModel", name := "push", desc := "(I)V" } : MethodName) prog_9_method_5_code (2 : Nat) (none : Option FieldType)) ∈ fk_ALL := fk_mt (List.mem_of_getElem? (i := 752) (by decide +kernel)) (by decide +kernel)
theorem i_753 : (Cond.methodLink "FlowDeskModel" (116 : Nat) ({ cls := "FlowDeskModel", name := "pop", desc := "()I" } : MethodName)) ∈ fk_ALL := fk_mt (List.mem_of_getElem? (i := 753) (by decide +kernel)) (by decide +kernel)
theorem i_755 : (Cond.instanceMethod ({ cls := "FlowDeskModel", name := "pop", desc := "()I" } : MethodName)) ∈ fk_ALL := fk_mt (List.mem_of_getElem? (i := 755) (by decide +kernel)) (by decide +kernel)
theorem i_756 : (Cond.code ({ cls := "FlowDeskModel", name := "pop", desc := "()I" } : MethodName) prog_9_method_6_code (1 : Nat) (some .int)) ∈ fk_ALL := fk_mt (List.mem_of_getElem? (i := 756) (by decide +kernel)) (by decide +kernel)
theorem i_757 : (Cond.methodLink "FlowDeskModel" (120 : Nat) ({ cls := "FlowDeskModel", name := "many", desc := "(I)I" } : MethodName)) ∈ fk_ALL := fk_mt (List.mem_of_getElem? (i := 757) (by decide +kernel)) (by decide +kernel)
theorem i_758 : (Cond.static ({ cls := "FlowDeskModel", name := "many", desc := "(I)I" } : MethodName)) ∈ fk_ALL := fk_mt (List.mem_of_getElem? (i := 758) (by decide +kernel)) (by decide +kernel)
theorem i_759 : (Cond.code ({ cls := "FlowDeskModel", name := "many", desc := "(I)I" } : MethodName) prog_9_method_7_code (1 : Nat) (some .int)) ∈ fk_ALL := fk_mt (List.mem_of_getElem? (i := 759) (by decide +kernel)) (by decide +kernel)
theorem i_760 : (Cond.methodLink "FlowDeskModel" (128 : Nat) ({ cls := "FlowDeskModel", name := "out", desc := "(II)Z" } : MethodName)) ∈ fk_ALL := fk_mt (List.mem_of_getElem? (i := 760) (by decide +kernel)) (by decide +kernel)
theorem i_761 : (Cond.static ({ cls := "FlowDeskModel", name := "out", desc := "(II)Z" } : MethodName)) ∈ fk_ALL := fk_mt (List.mem_of_getElem? (i := 761) (by decide +kernel)) (by decide +kernel)
theorem i_762 : (Cond.code ({ cls := "FlowDeskModel", name := "out", desc := "(II)Z" } : MethodName) prog_9_method_4_code (2 : Nat) (some .boolean)) ∈ fk_ALL := fk_mt (List.mem_of_getElem? (i := 762) (by decide +kernel)) (by decide +kernel)
theorem i_763 : (Cond.methodLink "FlowDeskLaw" (78 : Nat) ({ cls := "FlowDeskModel", name := "check", desc := "()I" } : MethodName)) ∈ fk_ALL := fk_mt (List.mem_of_getElem? (i := 763) (by decide +kernel)) (by decide +kernel)
theorem i_764 : (Cond.instanceMethod ({ cls := "FlowDeskModel", name := "check", desc := "()I" } : MethodName)) ∈ fk_ALL := fk_mt (List.mem_of_getElem? (i := 764) (by decide +kernel)) (by decide +kernel)
theorem i_765 : (Cond.selects "FlowDeskModel" ({ cls := "FlowDeskModel", name := "check", desc := "()I" } : MethodName) ({ cls := "FlowDeskModel", name := "check", desc := "()I" } : MethodName)) ∈ fk_ALL := fk_mt (List.mem_of_getElem? (i := 765) (by decide +kernel)) (by decide +kernel)
theorem i_766 : (Cond.code ({ cls := "FlowDeskModel", name := "check", desc := "()I" } : MethodName) prog_9_method_22_code (3 : Nat) (some .int)) ∈ fk_ALL := fk_mt (List.mem_of_getElem? (i := 766) (by decide +kernel)) (by decide +kernel)
theorem i_767 : (Cond.methodLink "FlowDeskModel" (154 : Nat) ({ cls := "FlowDeskModel", name := "findWaits", desc := "()V" } : MethodName)) ∈ fk_ALL := fk_mt (List.mem_of_getElem? (i := 767) (by decide +kernel)) (by decide +kernel)
theorem i_769 : (Cond.instanceMethod ({ cls := "FlowDeskModel", name := "findWaits", desc := "()V" } : MethodName)) ∈ fk_ALL := fk_mt (List.mem_of_getElem? (i := 769) (by decide +kernel)) (by decide +kernel)
theorem i_770 : (Cond.code ({ cls := "FlowDeskModel", name := "findWaits", desc := "()V" } : MethodName) prog_9_method_20_code (4 : Nat) (none : Option FieldType)) ∈ fk_ALL := fk_mt (List.mem_of_getElem? (i := 770) (by decide +kernel)) (by decide +kernel)
theorem i_771 : (Cond.methodLink "FlowDeskModel" (142 : Nat) ({ cls := "FlowDeskModel", name := "named", desc := "(I)I" } : MethodName)) ∈ fk_ALL := fk_mt (List.mem_of_getElem? (i := 771) (by decide +kernel)) (by decide +kernel)
theorem i_773 : (Cond.instanceMethod ({ cls := "FlowDeskModel", name := "named", desc := "(I)I" } : MethodName)) ∈ fk_ALL := fk_mt (List.mem_of_getElem? (i := 773) (by decide +kernel)) (by decide +kernel)
theorem i_774 : (Cond.code ({ cls := "FlowDeskModel", name := "named", desc := "(I)I" } : MethodName) prog_9_method_19_code (8 : Nat) (some .int)) ∈ fk_ALL := fk_mt (List.mem_of_getElem? (i := 774) (by decide +kernel)) (by decide +kernel)
theorem i_775 : (Cond.methodLink "FlowDeskModel" (138 : Nat) ({ cls := "FlowDeskModel", name := "want", desc := "(III)V" } : MethodName)) ∈ fk_ALL := fk_mt (List.mem_of_getElem? (i := 775) (by decide +kernel)) (by decide +kernel)
theorem i_777 : (Cond.instanceMethod ({ cls := "FlowDeskModel", name := "want", desc := "(III)V" } : MethodName)) ∈ fk_ALL := fk_mt (List.mem_of_getElem? (i := 777) (by decide +kernel)) (by decide +kernel)
theorem i_778 : (Cond.code ({ cls := "FlowDeskModel", name := "want", desc := "(III)V" } : MethodName) prog_9_method_15_code (5 : Nat) (none : Option FieldType)) ∈ fk_ALL := fk_mt (List.mem_of_getElem? (i := 778) (by decide +kernel)) (by decide +kernel)
theorem i_779 : (Cond.methodLink "FlowDeskModel" (157 : Nat) ({ cls := "FlowDeskModel", name := "fails", desc := "(II)Z" } : MethodName)) ∈ fk_ALL := fk_mt (List.mem_of_getElem? (i := 779) (by decide +kernel)) (by decide +kernel)
theorem i_781 : (Cond.instanceMethod ({ cls := "FlowDeskModel", name := "fails", desc := "(II)Z" } : MethodName)) ∈ fk_ALL := fk_mt (List.mem_of_getElem? (i := 781) (by decide +kernel)) (by decide +kernel)
theorem i_782 : (Cond.code ({ cls := "FlowDeskModel", name := "fails", desc := "(II)Z" } : MethodName) prog_9_method_21_code (3 : Nat) (some .boolean)) ∈ fk_ALL := fk_mt (List.mem_of_getElem? (i := 782) (by decide +kernel)) (by decide +kernel)
theorem i_783 : (Cond.methodLink "FlowDeskModel" (145 : Nat) ({ cls := "FlowDeskModel", name := "types", desc := "(I)V" } : MethodName)) ∈ fk_ALL := fk_mt (List.mem_of_getElem? (i := 783) (by decide +kernel)) (by decide +kernel)
theorem i_785 : (Cond.instanceMethod ({ cls := "FlowDeskModel", name := "types", desc := "(I)V" } : MethodName)) ∈ fk_ALL := fk_mt (List.mem_of_getElem? (i := 785) (by decide +kernel)) (by decide +kernel)
theorem i_786 : (Cond.code ({ cls := "FlowDeskModel", name := "types", desc := "(I)V" } : MethodName) prog_9_method_16_code (9 : Nat) (none : Option FieldType)) ∈ fk_ALL := fk_mt (List.mem_of_getElem? (i := 786) (by decide +kernel)) (by decide +kernel)
theorem i_787 : (Cond.methodLink "FlowDeskModel" (135 : Nat) ({ cls := "FlowDeskModel", name := "note", desc := "(I)V" } : MethodName)) ∈ fk_ALL := fk_mt (List.mem_of_getElem? (i := 787) (by decide +kernel)) (by decide +kernel)
theorem i_789 : (Cond.instanceMethod ({ cls := "FlowDeskModel", name := "note", desc := "(I)V" } : MethodName)) ∈ fk_ALL := fk_mt (List.mem_of_getElem? (i := 789) (by decide +kernel)) (by decide +kernel)
theorem i_790 : (Cond.code ({ cls := "FlowDeskModel", name := "note", desc := "(I)V" } : MethodName) prog_9_method_14_code (2 : Nat) (none : Option FieldType)) ∈ fk_ALL := fk_mt (List.mem_of_getElem? (i := 790) (by decide +kernel)) (by decide +kernel)
theorem i_791 : (Cond.methodLink "FlowDeskModel" (148 : Nat) ({ cls := "FlowDeskModel", name := "clocks", desc := "(I)V" } : MethodName)) ∈ fk_ALL := fk_mt (List.mem_of_getElem? (i := 791) (by decide +kernel)) (by decide +kernel)
theorem i_793 : (Cond.instanceMethod ({ cls := "FlowDeskModel", name := "clocks", desc := "(I)V" } : MethodName)) ∈ fk_ALL := fk_mt (List.mem_of_getElem? (i := 793) (by decide +kernel)) (by decide +kernel)
theorem i_794 : (Cond.code ({ cls := "FlowDeskModel", name := "clocks", desc := "(I)V" } : MethodName) prog_9_method_17_code (8 : Nat) (none : Option FieldType)) ∈ fk_ALL := fk_mt (List.mem_of_getElem? (i := 794) (by decide +kernel)) (by decide +kernel)
theorem i_795 : (Cond.methodLink "FlowDeskModel" (151 : Nat) ({ cls := "FlowDeskModel", name := "beginnings", desc := "(I)V" } : MethodName)) ∈ fk_ALL := fk_mt (List.mem_of_getElem? (i := 795) (by decide +kernel)) (by decide +kernel)
theorem i_797 : (Cond.instanceMethod ({ cls := "FlowDeskModel", name := "beginnings", desc := "(I)V" } : MethodName)) ∈ fk_ALL := fk_mt (List.mem_of_getElem? (i := 797) (by decide +kernel)) (by decide +kernel)
theorem i_798 : (Cond.code ({ cls := "FlowDeskModel", name := "beginnings", desc := "(I)V" } : MethodName) prog_9_method_18_code (9 : Nat) (none : Option FieldType)) ∈ fk_ALL := fk_mt (List.mem_of_getElem? (i := 798) (by decide +kernel)) (by decide +kernel)
theorem i_799 : (Cond.methodLink "FlowDeskModel" (160 : Nat) ({ cls := "FlowDeskModel", name := "arrange", desc := "()V" } : MethodName)) ∈ fk_ALL := fk_mt (List.mem_of_getElem? (i := 799) (by decide +kernel)) (by decide +kernel)
theorem i_801 : (Cond.instanceMethod ({ cls := "FlowDeskModel", name := "arrange", desc := "()V" } : MethodName)) ∈ fk_ALL := fk_mt (List.mem_of_getElem? (i := 801) (by decide +kernel)) (by decide +kernel)
theorem i_802 : (Cond.code ({ cls := "FlowDeskModel", name := "arrange", desc := "()V" } : MethodName) prog_9_method_23_code (3 : Nat) (none : Option FieldType)) ∈ fk_ALL := fk_mt (List.mem_of_getElem? (i := 802) (by decide +kernel)) (by decide +kernel)
theorem i_803 : (Cond.methodLink "FlowDeskLaw" (82 : Nat) ({ cls := "FlowDeskModel", name := "fault", desc := "(I)I" } : MethodName)) ∈ fk_ALL := fk_mt (List.mem_of_getElem? (i := 803) (by decide +kernel)) (by decide +kernel)
theorem i_804 : (Cond.instanceMethod ({ cls := "FlowDeskModel", name := "fault", desc := "(I)I" } : MethodName)) ∈ fk_ALL := fk_mt (List.mem_of_getElem? (i := 804) (by decide +kernel)) (by decide +kernel)
theorem i_805 : (Cond.selects "FlowDeskModel" ({ cls := "FlowDeskModel", name := "fault", desc := "(I)I" } : MethodName) ({ cls := "FlowDeskModel", name := "fault", desc := "(I)I" } : MethodName)) ∈ fk_ALL := fk_mt (List.mem_of_getElem? (i := 805) (by decide +kernel)) (by decide +kernel)
theorem i_806 : (Cond.code ({ cls := "FlowDeskModel", name := "fault", desc := "(I)I" } : MethodName) prog_9_method_24_code (2 : Nat) (some .int)) ∈ fk_ALL := fk_mt (List.mem_of_getElem? (i := 806) (by decide +kernel)) (by decide +kernel)
theorem i_807 : (Cond.methodLink "FlowDeskLaw" (85 : Nat) ({ cls := "FlowDeskModel", name := "order", desc := "(I)I" } : MethodName)) ∈ fk_ALL := fk_mt (List.mem_of_getElem? (i := 807) (by decide +kernel)) (by decide +kernel)
theorem i_808 : (Cond.instanceMethod ({ cls := "FlowDeskModel", name := "order", desc := "(I)I" } : MethodName)) ∈ fk_ALL := fk_mt (List.mem_of_getElem? (i := 808) (by decide +kernel)) (by decide +kernel)
theorem i_809 : (Cond.selects "FlowDeskModel" ({ cls := "FlowDeskModel", name := "order", desc := "(I)I" } : MethodName) ({ cls := "FlowDeskModel", name := "order", desc := "(I)I" } : MethodName)) ∈ fk_ALL := fk_mt (List.mem_of_getElem? (i := 809) (by decide +kernel)) (by decide +kernel)
theorem i_810 : (Cond.code ({ cls := "FlowDeskModel", name := "order", desc := "(I)I" } : MethodName) prog_9_method_25_code (2 : Nat) (some .int)) ∈ fk_ALL := fk_mt (List.mem_of_getElem? (i := 810) (by decide +kernel)) (by decide +kernel)
theorem i_811 : (Cond.methodLink "FlowDeskLaw" (89 : Nat) ({ cls := "FlowDeskModel", name := "set", desc := "(II)V" } : MethodName)) ∈ fk_ALL := fk_mt (List.mem_of_getElem? (i := 811) (by decide +kernel)) (by decide +kernel)
theorem i_812 : (Cond.instanceMethod ({ cls := "FlowDeskModel", name := "set", desc := "(II)V" } : MethodName)) ∈ fk_ALL := fk_mt (List.mem_of_getElem? (i := 812) (by decide +kernel)) (by decide +kernel)
theorem i_813 : (Cond.selects "FlowDeskModel" ({ cls := "FlowDeskModel", name := "set", desc := "(II)V" } : MethodName) ({ cls := "FlowDeskModel", name := "set", desc := "(II)V" } : MethodName)) ∈ fk_ALL := fk_mt (List.mem_of_getElem? (i := 813) (by decide +kernel)) (by decide +kernel)
theorem i_814 : (Cond.code ({ cls := "FlowDeskModel", name := "set", desc := "(II)V" } : MethodName) prog_9_method_26_code (3 : Nat) (none : Option FieldType)) ∈ fk_ALL := fk_mt (List.mem_of_getElem? (i := 814) (by decide +kernel)) (by decide +kernel)
theorem i_815 : (Cond.methodLink "FlowDeskLaw" (92 : Nat) ({ cls := "FlowDeskModel", name := "instants", desc := "(I)V" } : MethodName)) ∈ fk_ALL := fk_mt (List.mem_of_getElem? (i := 815) (by decide +kernel)) (by decide +kernel)
theorem i_816 : (Cond.instanceMethod ({ cls := "FlowDeskModel", name := "instants", desc := "(I)V" } : MethodName)) ∈ fk_ALL := fk_mt (List.mem_of_getElem? (i := 816) (by decide +kernel)) (by decide +kernel)
theorem i_817 : (Cond.selects "FlowDeskModel" ({ cls := "FlowDeskModel", name := "instants", desc := "(I)V" } : MethodName) ({ cls := "FlowDeskModel", name := "instants", desc := "(I)V" } : MethodName)) ∈ fk_ALL := fk_mt (List.mem_of_getElem? (i := 817) (by decide +kernel)) (by decide +kernel)
theorem i_818 : (Cond.code ({ cls := "FlowDeskModel", name := "instants", desc := "(I)V" } : MethodName) prog_9_method_32_code (3 : Nat) (none : Option FieldType)) ∈ fk_ALL := fk_mt (List.mem_of_getElem? (i := 818) (by decide +kernel)) (by decide +kernel)
theorem i_819 : (Cond.methodLink "FlowDeskModel" (180 : Nat) ({ cls := "FlowDeskModel", name := "instant", desc := "()V" } : MethodName)) ∈ fk_ALL := fk_mt (List.mem_of_getElem? (i := 819) (by decide +kernel)) (by decide +kernel)
theorem i_821 : (Cond.instanceMethod ({ cls := "FlowDeskModel", name := "instant", desc := "()V" } : MethodName)) ∈ fk_ALL := fk_mt (List.mem_of_getElem? (i := 821) (by decide +kernel)) (by decide +kernel)
theorem i_822 : (Cond.code ({ cls := "FlowDeskModel", name := "instant", desc := "()V" } : MethodName) prog_9_method_30_code (4 : Nat) (none : Option FieldType)) ∈ fk_ALL := fk_mt (List.mem_of_getElem? (i := 822) (by decide +kernel)) (by decide +kernel)
theorem i_823 : (Cond.methodLink "FlowDeskModel" (170 : Nat) ({ cls := "FlowDeskModel", name := "has", desc := "(I)Z" } : MethodName)) ∈ fk_ALL := fk_mt (List.mem_of_getElem? (i := 823) (by decide +kernel)) (by decide +kernel)
theorem i_825 : (Cond.instanceMethod ({ cls := "FlowDeskModel", name := "has", desc := "(I)Z" } : MethodName)) ∈ fk_ALL := fk_mt (List.mem_of_getElem? (i := 825) (by decide +kernel)) (by decide +kernel)
theorem i_826 : (Cond.code ({ cls := "FlowDeskModel", name := "has", desc := "(I)Z" } : MethodName) prog_9_method_27_code (3 : Nat) (some .boolean)) ∈ fk_ALL := fk_mt (List.mem_of_getElem? (i := 826) (by decide +kernel)) (by decide +kernel)
theorem i_827 : (Cond.methodLink "FlowDeskModel" (174 : Nat) ({ cls := "FlowDeskModel", name := "reckonAll", desc := "(I)I" } : MethodName)) ∈ fk_ALL := fk_mt (List.mem_of_getElem? (i := 827) (by decide +kernel)) (by decide +kernel)
theorem i_829 : (Cond.instanceMethod ({ cls := "FlowDeskModel", name := "reckonAll", desc := "(I)I" } : MethodName)) ∈ fk_ALL := fk_mt (List.mem_of_getElem? (i := 829) (by decide +kernel)) (by decide +kernel)
theorem i_830 : (Cond.code ({ cls := "FlowDeskModel", name := "reckonAll", desc := "(I)I" } : MethodName) prog_9_method_29_code (10 : Nat) (some .int)) ∈ fk_ALL := fk_mt (List.mem_of_getElem? (i := 830) (by decide +kernel)) (by decide +kernel)
theorem i_831 : (Cond.methodLink "FlowDeskModel" (166 : Nat) ({ cls := "FlowDeskModel", name := "reckon", desc := "(IIII)I" } : MethodName)) ∈ fk_ALL := fk_mt (List.mem_of_getElem? (i := 831) (by decide +kernel)) (by decide +kernel)
theorem i_832 : (Cond.static ({ cls := "FlowDeskModel", name := "reckon", desc := "(IIII)I" } : MethodName)) ∈ fk_ALL := fk_mt (List.mem_of_getElem? (i := 832) (by decide +kernel)) (by decide +kernel)
theorem i_833 : (Cond.code ({ cls := "FlowDeskModel", name := "reckon", desc := "(IIII)I" } : MethodName) prog_9_method_28_code (4 : Nat) (some .int)) ∈ fk_ALL := fk_mt (List.mem_of_getElem? (i := 833) (by decide +kernel)) (by decide +kernel)
theorem i_834 : (Cond.methodLink "FlowDeskModel" (177 : Nat) ({ cls := "FlowDeskModel", name := "keep", desc := "(I)V" } : MethodName)) ∈ fk_ALL := fk_mt (List.mem_of_getElem? (i := 834) (by decide +kernel)) (by decide +kernel)
theorem i_836 : (Cond.instanceMethod ({ cls := "FlowDeskModel", name := "keep", desc := "(I)V" } : MethodName)) ∈ fk_ALL := fk_mt (List.mem_of_getElem? (i := 836) (by decide +kernel)) (by decide +kernel)
theorem i_837 : (Cond.code ({ cls := "FlowDeskModel", name := "keep", desc := "(I)V" } : MethodName) prog_9_method_31_code (4 : Nat) (none : Option FieldType)) ∈ fk_ALL := fk_mt (List.mem_of_getElem? (i := 837) (by decide +kernel)) (by decide +kernel)
theorem i_838 : (Cond.methodLink "FlowDeskLaw" (96 : Nat) ({ cls := "FlowDeskModel", name := "time", desc := "()I" } : MethodName)) ∈ fk_ALL := fk_mt (List.mem_of_getElem? (i := 838) (by decide +kernel)) (by decide +kernel)
theorem i_839 : (Cond.instanceMethod ({ cls := "FlowDeskModel", name := "time", desc := "()I" } : MethodName)) ∈ fk_ALL := fk_mt (List.mem_of_getElem? (i := 839) (by decide +kernel)) (by decide +kernel)
theorem i_840 : (Cond.selects "FlowDeskModel" ({ cls := "FlowDeskModel", name := "time", desc := "()I" } : MethodName) ({ cls := "FlowDeskModel", name := "time", desc := "()I" } : MethodName)) ∈ fk_ALL := fk_mt (List.mem_of_getElem? (i := 840) (by decide +kernel)) (by decide +kernel)
theorem i_841 : (Cond.code ({ cls := "FlowDeskModel", name := "time", desc := "()I" } : MethodName) prog_9_method_33_code (1 : Nat) (some .int)) ∈ fk_ALL := fk_mt (List.mem_of_getElem? (i := 841) (by decide +kernel)) (by decide +kernel)
theorem i_842 : (Cond.methodLink "FlowDeskLaw" (99 : Nat) ({ cls := "FlowDeskModel", name := "present", desc := "(I)Z" } : MethodName)) ∈ fk_ALL := fk_mt (List.mem_of_getElem? (i := 842) (by decide +kernel)) (by decide +kernel)
theorem i_843 : (Cond.instanceMethod ({ cls := "FlowDeskModel", name := "present", desc := "(I)Z" } : MethodName)) ∈ fk_ALL := fk_mt (List.mem_of_getElem? (i := 843) (by decide +kernel)) (by decide +kernel)
theorem i_844 : (Cond.selects "FlowDeskModel" ({ cls := "FlowDeskModel", name := "present", desc := "(I)Z" } : MethodName) ({ cls := "FlowDeskModel", name := "present", desc := "(I)Z" } : MethodName)) ∈ fk_ALL := fk_mt (List.mem_of_getElem? (i := 844) (by decide +kernel)) (by decide +kernel)
theorem i_845 : (Cond.code ({ cls := "FlowDeskModel", name := "present", desc := "(I)Z" } : MethodName) prog_9_method_34_code (2 : Nat) (some .boolean)) ∈ fk_ALL := fk_mt (List.mem_of_getElem? (i := 845) (by decide +kernel)) (by decide +kernel)
theorem i_846 : (Cond.methodLink "FlowDeskLaw" (102 : Nat) ({ cls := "FlowDeskModel", name := "value", desc := "(I)I" } : MethodName)) ∈ fk_ALL := fk_mt (List.mem_of_getElem? (i := 846) (by decide +kernel)) (by decide +kernel)
theorem i_847 : (Cond.instanceMethod ({ cls := "FlowDeskModel", name := "value", desc := "(I)I" } : MethodName)) ∈ fk_ALL := fk_mt (List.mem_of_getElem? (i := 847) (by decide +kernel)) (by decide +kernel)
theorem i_848 : (Cond.selects "FlowDeskModel" ({ cls := "FlowDeskModel", name := "value", desc := "(I)I" } : MethodName) ({ cls := "FlowDeskModel", name := "value", desc := "(I)I" } : MethodName)) ∈ fk_ALL := fk_mt (List.mem_of_getElem? (i := 848) (by decide +kernel)) (by decide +kernel)
theorem i_849 : (Cond.code ({ cls := "FlowDeskModel", name := "value", desc := "(I)I" } : MethodName) prog_9_method_35_code (3 : Nat) (some .int)) ∈ fk_ALL := fk_mt (List.mem_of_getElem? (i := 849) (by decide +kernel)) (by decide +kernel)
theorem i_850 : (Cond.methodLink "FlowDeskLaw" (105 : Nat) ({ cls := "FlowDeskModel", name := "seen", desc := "(I)I" } : MethodName)) ∈ fk_ALL := fk_mt (List.mem_of_getElem? (i := 850) (by decide +kernel)) (by decide +kernel)
theorem i_851 : (Cond.instanceMethod ({ cls := "FlowDeskModel", name := "seen", desc := "(I)I" } : MethodName)) ∈ fk_ALL := fk_mt (List.mem_of_getElem? (i := 851) (by decide +kernel)) (by decide +kernel)
theorem i_852 : (Cond.selects "FlowDeskModel" ({ cls := "FlowDeskModel", name := "seen", desc := "(I)I" } : MethodName) ({ cls := "FlowDeskModel", name := "seen", desc := "(I)I" } : MethodName)) ∈ fk_ALL := fk_mt (List.mem_of_getElem? (i := 852) (by decide +kernel)) (by decide +kernel)
theorem i_853 : (Cond.code ({ cls := "FlowDeskModel", name := "seen", desc := "(I)I" } : MethodName) prog_9_method_36_code (2 : Nat) (some .int)) ∈ fk_ALL := fk_mt (List.mem_of_getElem? (i := 853) (by decide +kernel)) (by decide +kernel)
theorem i_854 : (Cond.methodLink "FlowDeskLaw" (109 : Nat) ({ cls := "FlowDeskModel", name := "flows", desc := "()I" } : MethodName)) ∈ fk_ALL := fk_mt (List.mem_of_getElem? (i := 854) (by decide +kernel)) (by decide +kernel)
theorem i_855 : (Cond.instanceMethod ({ cls := "FlowDeskModel", name := "flows", desc := "()I" } : MethodName)) ∈ fk_ALL := fk_mt (List.mem_of_getElem? (i := 855) (by decide +kernel)) (by decide +kernel)
theorem i_856 : (Cond.selects "FlowDeskModel" ({ cls := "FlowDeskModel", name := "flows", desc := "()I" } : MethodName) ({ cls := "FlowDeskModel", name := "flows", desc := "()I" } : MethodName)) ∈ fk_ALL := fk_mt (List.mem_of_getElem? (i := 856) (by decide +kernel)) (by decide +kernel)
theorem i_857 : (Cond.code ({ cls := "FlowDeskModel", name := "flows", desc := "()I" } : MethodName) prog_9_method_37_code (1 : Nat) (some .int)) ∈ fk_ALL := fk_mt (List.mem_of_getElem? (i := 857) (by decide +kernel)) (by decide +kernel)
theorem u_K : u_ws R_K T_K 7 = [(Cond.laysFinal "FlowDesk$Checker" "FlowDesk$Checker" "network" "LFlowDesk$Network;"), (Cond.laysFinal "FlowDesk$Checker" "FlowDesk$Checker" "waiting" "LFlowDesk$Waiting;"), (Cond.laysFinal "FlowDesk$Checker" "FlowDesk$Checker" "wantedTypes" "[I"), (Cond.laysFinal "FlowDesk$Checker" "FlowDesk$Checker" "maybeNothing" "[Z"), (Cond.lays "FlowDesk$Checker" "FlowDesk$Checker" "passed" "Z"), (Cond.lays "FlowDesk$Checker" "FlowDesk$Checker" "faultFlow" "I"), (Cond.lays "FlowDesk$Checker" "FlowDesk$Checker" "faultByte" "I")] := by decide +kernel
theorem hin_K : ∀ w ∈ u_ws R_K T_K 7, w ∈ fk_ALL := by
  rw [u_K]
  exact List.forall_mem_cons.mpr ⟨i_166, List.forall_mem_cons.mpr ⟨i_168, List.forall_mem_cons.mpr ⟨i_170, List.forall_mem_cons.mpr ⟨i_172, List.forall_mem_cons.mpr ⟨i_174, List.forall_mem_cons.mpr ⟨i_176, List.forall_mem_cons.mpr ⟨i_178, fun _ h => absurd h List.not_mem_nil⟩⟩⟩⟩⟩⟩⟩
theorem u_C : u_ws R_C T_C 3 = [(Cond.laysFinal "FlowDesk$Clockwork" "FlowDesk$Clockwork" "network" "LFlowDesk$Network;"), (Cond.laysFinal "FlowDesk$Clockwork" "FlowDesk$Clockwork" "waiting" "LFlowDesk$Waiting;"), (Cond.laysFinal "FlowDesk$Clockwork" "FlowDesk$Clockwork" "counts" "[I")] := by decide +kernel
theorem hin_C : ∀ w ∈ u_ws R_C T_C 3, w ∈ fk_ALL := by
  rw [u_C]
  exact List.forall_mem_cons.mpr ⟨i_192, List.forall_mem_cons.mpr ⟨i_194, List.forall_mem_cons.mpr ⟨i_196, fun _ h => absurd h List.not_mem_nil⟩⟩⟩
theorem u_E : u_ws R_E T_E 5 = [(Cond.laysFinal "FlowDesk$Expression" "FlowDesk$Expression" "bytes" "[I"), (Cond.laysFinal "FlowDesk$Expression" "FlowDesk$Expression" "ends" "[I"), (Cond.laysFinal "FlowDesk$Expression" "FlowDesk$Expression" "clocks" "[I"), (Cond.laysFinal "FlowDesk$Expression" "FlowDesk$Expression" "past" "[I"), (Cond.lays "FlowDesk$Expression" "FlowDesk$Expression" "length" "I")] := by decide +kernel
theorem hin_E : ∀ w ∈ u_ws R_E T_E 5, w ∈ fk_ALL := by
  rw [u_E]
  exact List.forall_mem_cons.mpr ⟨i_61, List.forall_mem_cons.mpr ⟨i_63, List.forall_mem_cons.mpr ⟨i_65, List.forall_mem_cons.mpr ⟨i_67, List.forall_mem_cons.mpr ⟨i_69, fun _ h => absurd h List.not_mem_nil⟩⟩⟩⟩⟩
theorem u_F : u_ws R_F T_F 7 = [(Cond.lays "FlowDesk$Flow" "FlowDesk$Flow" "expression" "LFlowDesk$Expression;"), (Cond.lays "FlowDesk$Flow" "FlowDesk$Flow" "bool" "Z"), (Cond.lays "FlowDesk$Flow" "FlowDesk$Flow" "input" "Z"), (Cond.lays "FlowDesk$Flow" "FlowDesk$Flow" "clock" "I"), (Cond.lays "FlowDesk$Flow" "FlowDesk$Flow" "host" "I"), (Cond.lays "FlowDesk$Flow" "FlowDesk$Flow" "isPresent" "Z"), (Cond.lays "FlowDesk$Flow" "FlowDesk$Flow" "latest" "I")] := by decide +kernel
theorem hin_F : ∀ w ∈ u_ws R_F T_F 7, w ∈ fk_ALL := by
  rw [u_F]
  exact List.forall_mem_cons.mpr ⟨i_95, List.forall_mem_cons.mpr ⟨i_97, List.forall_mem_cons.mpr ⟨i_99, List.forall_mem_cons.mpr ⟨i_101, List.forall_mem_cons.mpr ⟨i_103, List.forall_mem_cons.mpr ⟨i_105, List.forall_mem_cons.mpr ⟨i_107, fun _ h => absurd h List.not_mem_nil⟩⟩⟩⟩⟩⟩⟩
theorem u_N : u_ws R_N T_N 2 = [(Cond.laysFinal "FlowDesk$Network" "FlowDesk$Network" "rows" "[LFlowDesk$Flow;"), (Cond.lays "FlowDesk$Network" "FlowDesk$Network" "count" "I")] := by decide +kernel
theorem hin_N : ∀ w ∈ u_ws R_N T_N 2, w ∈ fk_ALL := by
  rw [u_N]
  exact List.forall_mem_cons.mpr ⟨i_120, List.forall_mem_cons.mpr ⟨i_122, fun _ h => absurd h List.not_mem_nil⟩⟩
theorem u_W : u_ws R_W T_W 5 = [(Cond.laysFinal "FlowDesk$Waiting" "FlowDesk$Waiting" "network" "LFlowDesk$Network;"), (Cond.laysFinal "FlowDesk$Waiting" "FlowDesk$Waiting" "masks" "[I"), (Cond.laysFinal "FlowDesk$Waiting" "FlowDesk$Waiting" "order" "[I"), (Cond.lays "FlowDesk$Waiting" "FlowDesk$Waiting" "ordered" "I"), (Cond.laysFinal "FlowDesk$Waiting" "FlowDesk$Waiting" "turns" "[I")] := by decide +kernel
theorem hin_W : ∀ w ∈ u_ws R_W T_W 5, w ∈ fk_ALL := by
  rw [u_W]
  exact List.forall_mem_cons.mpr ⟨i_139, List.forall_mem_cons.mpr ⟨i_141, List.forall_mem_cons.mpr ⟨i_143, List.forall_mem_cons.mpr ⟨i_145, List.forall_mem_cons.mpr ⟨i_147, fun _ h => absurd h List.not_mem_nil⟩⟩⟩⟩⟩
theorem u_D : u_ws R_D T_D 5 = [(Cond.laysFinal "FlowDesk" "FlowDesk" "network" "LFlowDesk$Network;"), (Cond.laysFinal "FlowDesk" "FlowDesk" "waiting" "LFlowDesk$Waiting;"), (Cond.laysFinal "FlowDesk" "FlowDesk" "checker" "LFlowDesk$Checker;"), (Cond.laysFinal "FlowDesk" "FlowDesk" "clockwork" "LFlowDesk$Clockwork;"), (Cond.lays "FlowDesk" "FlowDesk" "draft" "LFlowDesk$Expression;")] := by decide +kernel
theorem hin_D : ∀ w ∈ u_ws R_D T_D 5, w ∈ fk_ALL := by
  rw [u_D]
  exact List.forall_mem_cons.mpr ⟨i_206, List.forall_mem_cons.mpr ⟨i_208, List.forall_mem_cons.mpr ⟨i_210, List.forall_mem_cons.mpr ⟨i_212, List.forall_mem_cons.mpr ⟨i_214, fun _ h => absurd h List.not_mem_nil⟩⟩⟩⟩⟩
theorem u_M : u_ws R_M T_M 31 = [(Cond.lays "FlowDeskModel" "FlowDeskModel" "thrown" "I"), (Cond.lays "FlowDeskModel" "FlowDeskModel" "flows" "I"), (Cond.laysFinal "FlowDeskModel" "FlowDeskModel" "bool" "[Z"), (Cond.laysFinal "FlowDeskModel" "FlowDeskModel" "input" "[Z"), (Cond.laysFinal "FlowDeskModel" "FlowDeskModel" "clock" "[I"), (Cond.laysFinal "FlowDeskModel" "FlowDeskModel" "wanted" "[I"), (Cond.laysFinal "FlowDeskModel" "FlowDeskModel" "value" "[I"), (Cond.laysFinal "FlowDeskModel" "FlowDeskModel" "seen" "[I"), (Cond.laysFinal "FlowDeskModel" "FlowDeskModel" "present" "[Z"), (Cond.laysFinal "FlowDeskModel" "FlowDeskModel" "waits" "[I"), (Cond.laysFinal "FlowDeskModel" "FlowDeskModel" "size" "[I"), (Cond.laysFinal "FlowDeskModel" "FlowDeskModel" "parts" "[I"), (Cond.laysFinal "FlowDeskModel" "FlowDeskModel" "bytes" "[I"), (Cond.laysFinal "FlowDeskModel" "FlowDeskModel" "begin" "[I"), (Cond.laysFinal "FlowDeskModel" "FlowDeskModel" "on" "[I"), (Cond.laysFinal "FlowDeskModel" "FlowDeskModel" "kept" "[I"), (Cond.laysFinal "FlowDeskModel" "FlowDeskModel" "next" "[I"), (Cond.laysFinal "FlowDeskModel" "FlowDeskModel" "started" "[Z"), (Cond.laysFinal "FlowDeskModel" "FlowDeskModel" "draft" "[I"), (Cond.lays "FlowDeskModel" "FlowDeskModel" "drafted" "I"), (Cond.laysFinal "FlowDeskModel" "FlowDeskModel" "starts" "[I"), (Cond.lays "FlowDeskModel" "FlowDeskModel" "found" "I"), (Cond.lays "FlowDeskModel" "FlowDeskModel" "time" "I"), (Cond.lays "FlowDeskModel" "FlowDeskModel" "good" "Z"), (Cond.lays "FlowDeskModel" "FlowDeskModel" "faultFlow" "I"), (Cond.lays "FlowDeskModel" "FlowDeskModel" "faultByte" "I"), (Cond.laysFinal "FlowDeskModel" "FlowDeskModel" "order" "[I"), (Cond.lays "FlowDeskModel" "FlowDeskModel" "ordered" "I"), (Cond.laysFinal "FlowDeskModel" "FlowDeskModel" "stack" "[I"), (Cond.lays "FlowDeskModel" "FlowDeskModel" "top" "I"), (Cond.lays "FlowDeskModel" "FlowDeskModel" "place" "I")] := by decide +kernel
theorem hin_M : ∀ w ∈ u_ws R_M T_M 31, w ∈ fk_ALL := by
  rw [u_M]
  exact List.forall_mem_cons.mpr ⟨i_653, List.forall_mem_cons.mpr ⟨i_655, List.forall_mem_cons.mpr ⟨i_657, List.forall_mem_cons.mpr ⟨i_659, List.forall_mem_cons.mpr ⟨i_661, List.forall_mem_cons.mpr ⟨i_663, List.forall_mem_cons.mpr ⟨i_665, List.forall_mem_cons.mpr ⟨i_667, List.forall_mem_cons.mpr ⟨i_669, List.forall_mem_cons.mpr ⟨i_671, List.forall_mem_cons.mpr ⟨i_673, List.forall_mem_cons.mpr ⟨i_675, List.forall_mem_cons.mpr ⟨i_677, List.forall_mem_cons.mpr ⟨i_679, List.forall_mem_cons.mpr ⟨i_681, List.forall_mem_cons.mpr ⟨i_683, List.forall_mem_cons.mpr ⟨i_685, List.forall_mem_cons.mpr ⟨i_687, List.forall_mem_cons.mpr ⟨i_689, List.forall_mem_cons.mpr ⟨i_691, List.forall_mem_cons.mpr ⟨i_693, List.forall_mem_cons.mpr ⟨i_695, List.forall_mem_cons.mpr ⟨i_697, List.forall_mem_cons.mpr ⟨i_699, List.forall_mem_cons.mpr ⟨i_701, List.forall_mem_cons.mpr ⟨i_703, List.forall_mem_cons.mpr ⟨i_705, List.forall_mem_cons.mpr ⟨i_707, List.forall_mem_cons.mpr ⟨i_709, List.forall_mem_cons.mpr ⟨i_711, List.forall_mem_cons.mpr ⟨i_713, fun _ h => absurd h List.not_mem_nil⟩⟩⟩⟩⟩⟩⟩⟩⟩⟩⟩⟩⟩⟩⟩⟩⟩⟩⟩⟩⟩⟩⟩⟩⟩⟩⟩⟩⟩⟩⟩
theorem fk_hin (ci : Nat) (C : String) (T : u_T) (N : Nat) (hc : fk_cl[ci]? = some (C, T, N)) : ∀ w ∈ u_ws C T N, w ∈ fk_ALL := by
  match ci, hc with
  | 0, hc =>
    have h : (R_K, T_K, 7) = (C, T, N) := Option.some.inj hc
    injection h with h1 h2
    injection h2 with h3 h4
    subst h1; subst h3; subst h4
    exact hin_K
  | 1, hc =>
    have h : (R_C, T_C, 3) = (C, T, N) := Option.some.inj hc
    injection h with h1 h2
    injection h2 with h3 h4
    subst h1; subst h3; subst h4
    exact hin_C
  | 2, hc =>
    have h : (R_E, T_E, 5) = (C, T, N) := Option.some.inj hc
    injection h with h1 h2
    injection h2 with h3 h4
    subst h1; subst h3; subst h4
    exact hin_E
  | 3, hc =>
    have h : (R_F, T_F, 7) = (C, T, N) := Option.some.inj hc
    injection h with h1 h2
    injection h2 with h3 h4
    subst h1; subst h3; subst h4
    exact hin_F
  | 4, hc =>
    have h : (R_N, T_N, 2) = (C, T, N) := Option.some.inj hc
    injection h with h1 h2
    injection h2 with h3 h4
    subst h1; subst h3; subst h4
    exact hin_N
  | 5, hc =>
    have h : (R_W, T_W, 5) = (C, T, N) := Option.some.inj hc
    injection h with h1 h2
    injection h2 with h3 h4
    subst h1; subst h3; subst h4
    exact hin_W
  | 6, hc =>
    have h : (R_D, T_D, 5) = (C, T, N) := Option.some.inj hc
    injection h with h1 h2
    injection h2 with h3 h4
    subst h1; subst h3; subst h4
    exact hin_D
  | 7, hc =>
    have h : (R_M, T_M, 31) = (C, T, N) := Option.some.inj hc
    injection h with h1 h2
    injection h2 with h3 h4
    subst h1; subst h3; subst h4
    exact hin_M
  | k + 8, hc => cases hc
theorem fk_hty (ci : Nat) (C : String) (T : u_T) (N : Nat) (hc : fk_cl[ci]? = some (C, T, N)) : ∃ ty0 : Nat → FieldType, (∀ k, k < N → parseFieldDescriptor (T k).2.2.1 = some (ty0 k)) ∧ ∀ a, a < N → ∀ b, b < N → a ≠ b → (T a).2.1 ≠ (T b).2.1 := by
  match ci, hc with
  | 0, hc =>
    have h : (R_K, T_K, 7) = (C, T, N) := Option.some.inj hc
    injection h with h1 h2
    injection h2 with h3 h4
    subst h1; subst h3; subst h4
    exact ⟨t_K, p_K, n_K⟩
  | 1, hc =>
    have h : (R_C, T_C, 3) = (C, T, N) := Option.some.inj hc
    injection h with h1 h2
    injection h2 with h3 h4
    subst h1; subst h3; subst h4
    exact ⟨t_C, p_C, n_C⟩
  | 2, hc =>
    have h : (R_E, T_E, 5) = (C, T, N) := Option.some.inj hc
    injection h with h1 h2
    injection h2 with h3 h4
    subst h1; subst h3; subst h4
    exact ⟨t_E, p_E, n_E⟩
  | 3, hc =>
    have h : (R_F, T_F, 7) = (C, T, N) := Option.some.inj hc
    injection h with h1 h2
    injection h2 with h3 h4
    subst h1; subst h3; subst h4
    exact ⟨t_F, p_F, n_F⟩
  | 4, hc =>
    have h : (R_N, T_N, 2) = (C, T, N) := Option.some.inj hc
    injection h with h1 h2
    injection h2 with h3 h4
    subst h1; subst h3; subst h4
    exact ⟨t_N, p_N, n_N⟩
  | 5, hc =>
    have h : (R_W, T_W, 5) = (C, T, N) := Option.some.inj hc
    injection h with h1 h2
    injection h2 with h3 h4
    subst h1; subst h3; subst h4
    exact ⟨t_W, p_W, n_W⟩
  | 6, hc =>
    have h : (R_D, T_D, 5) = (C, T, N) := Option.some.inj hc
    injection h with h1 h2
    injection h2 with h3 h4
    subst h1; subst h3; subst h4
    exact ⟨t_D, p_D, n_D⟩
  | 7, hc =>
    have h : (R_M, T_M, 31) = (C, T, N) := Option.some.inj hc
    injection h with h1 h2
    injection h2 with h3 h4
    subst h1; subst h3; subst h4
    exact ⟨t_M, p_M, n_M⟩
  | k + 8, hc => cases hc
/-- links across the nest -/
def fk_NF : List (String × Nat × String × String × String × String) := [("FlowDesk$Waiting", 65, "FlowDesk$Expression", "bytes", "[I", "FlowDesk"), ("FlowDesk$Checker", 117, "FlowDesk$Expression", "bytes", "[I", "FlowDesk"), ("FlowDesk$Clockwork", 101, "FlowDesk$Expression", "bytes", "[I", "FlowDesk"), ("FlowDesk$Waiting", 68, "FlowDesk$Expression", "ends", "[I", "FlowDesk"), ("FlowDesk$Checker", 138, "FlowDesk$Expression", "ends", "[I", "FlowDesk"), ("FlowDesk$Clockwork", 104, "FlowDesk$Expression", "clocks", "[I", "FlowDesk"), ("FlowDesk$Checker", 141, "FlowDesk$Expression", "clocks", "[I", "FlowDesk"), ("FlowDesk$Clockwork", 49, "FlowDesk$Expression", "past", "[I", "FlowDesk"), ("FlowDesk$Flow", 16, "FlowDesk$Expression", "length", "I", "FlowDesk"), ("FlowDesk", 77, "FlowDesk$Expression", "length", "I", "FlowDesk"), ("FlowDesk$Waiting", 56, "FlowDesk$Expression", "length", "I", "FlowDesk"), ("FlowDesk$Checker", 101, "FlowDesk$Expression", "length", "I", "FlowDesk"), ("FlowDesk$Clockwork", 95, "FlowDesk$Expression", "length", "I", "FlowDesk"), ("FlowDesk$Clockwork", 45, "FlowDesk$Flow", "expression", "LFlowDesk$Expression;", "FlowDesk"), ("FlowDesk$Waiting", 52, "FlowDesk$Flow", "expression", "LFlowDesk$Expression;", "FlowDesk"), ("FlowDesk", 103, "FlowDesk$Flow", "expression", "LFlowDesk$Expression;", "FlowDesk"), ("FlowDesk$Checker", 79, "FlowDesk$Flow", "expression", "LFlowDesk$Expression;", "FlowDesk"), ("FlowDesk$Network", 30, "FlowDesk$Flow", "bool", "Z", "FlowDesk"), ("FlowDesk", 140, "FlowDesk$Flow", "bool", "Z", "FlowDesk"), ("FlowDesk", 92, "FlowDesk$Flow", "input", "Z", "FlowDesk"), ("FlowDesk$Network", 37, "FlowDesk$Flow", "input", "Z", "FlowDesk"), ("FlowDesk$Clockwork", 78, "FlowDesk$Flow", "input", "Z", "FlowDesk"), ("FlowDesk$Checker", 70, "FlowDesk$Flow", "input", "Z", "FlowDesk"), ("FlowDesk$Waiting", 84, "FlowDesk$Flow", "input", "Z", "FlowDesk"), ("FlowDesk$Waiting", 43, "FlowDesk$Flow", "clock", "I", "FlowDesk"), ("FlowDesk$Clockwork", 54, "FlowDesk$Flow", "clock", "I", "FlowDesk"), ("FlowDesk$Network", 34, "FlowDesk$Flow", "clock", "I", "FlowDesk"), ("FlowDesk$Checker", 91, "FlowDesk$Flow", "clock", "I", "FlowDesk"), ("FlowDesk$Clockwork", 81, "FlowDesk$Flow", "host", "I", "FlowDesk"), ("FlowDesk", 143, "FlowDesk$Flow", "host", "I", "FlowDesk"), ("FlowDesk$Clockwork", 39, "FlowDesk$Flow", "isPresent", "Z", "FlowDesk"), ("FlowDesk", 156, "FlowDesk$Flow", "isPresent", "Z", "FlowDesk"), ("FlowDesk$Clockwork", 88, "FlowDesk$Flow", "latest", "I", "FlowDesk"), ("FlowDesk", 165, "FlowDesk$Flow", "latest", "I", "FlowDesk"), ("FlowDesk$Waiting", 31, "FlowDesk$Network", "rows", "[LFlowDesk$Flow;", "FlowDesk"), ("FlowDesk$Clockwork", 35, "FlowDesk$Network", "rows", "[LFlowDesk$Flow;", "FlowDesk"), ("FlowDesk", 88, "FlowDesk$Network", "rows", "[LFlowDesk$Flow;", "FlowDesk"), ("FlowDesk$Checker", 62, "FlowDesk$Network", "rows", "[LFlowDesk$Flow;", "FlowDesk"), ("FlowDesk$Waiting", 25, "FlowDesk$Network", "count", "I", "FlowDesk"), ("FlowDesk$Clockwork", 29, "FlowDesk$Network", "count", "I", "FlowDesk"), ("FlowDesk", 59, "FlowDesk$Network", "count", "I", "FlowDesk"), ("FlowDesk$Checker", 53, "FlowDesk$Network", "count", "I", "FlowDesk"), ("FlowDesk", 134, "FlowDesk$Waiting", "order", "[I", "FlowDesk"), ("FlowDesk", 126, "FlowDesk$Waiting", "ordered", "I", "FlowDesk"), ("FlowDesk$Clockwork", 57, "FlowDesk$Waiting", "turns", "[I", "FlowDesk"), ("FlowDesk", 121, "FlowDesk$Checker", "passed", "Z", "FlowDesk"), ("FlowDesk", 115, "FlowDesk$Checker", "faultFlow", "I", "FlowDesk"), ("FlowDesk", 118, "FlowDesk$Checker", "faultByte", "I", "FlowDesk"), ("FlowDesk", 151, "FlowDesk$Clockwork", "counts", "[I", "FlowDesk"), ("FlowDesk$Checker", 126, "FlowDesk", "RESULT", "[I", "FlowDesk"), ("FlowDesk$Checker", 129, "FlowDesk", "PART_TYPE", "[I", "FlowDesk"), ("FlowDesk$Expression", 38, "FlowDesk", "HEAD", "[I", "FlowDesk"), ("FlowDesk$Checker", 135, "FlowDesk", "PARTS", "[I", "FlowDesk"), ("FlowDesk$Expression", 45, "FlowDesk", "PARTS", "[I", "FlowDesk")]
def fk_NM : List (String × Nat × MethodName × String) := [("FlowDesk", 11, ⟨"FlowDesk$Network", "<init>", "()V"⟩, "FlowDesk"), ("FlowDesk$Network", 17, ⟨"FlowDesk$Flow", "<init>", "()V"⟩, "FlowDesk"), ("FlowDesk$Flow", 9, ⟨"FlowDesk$Expression", "<init>", "()V"⟩, "FlowDesk"), ("FlowDesk", 18, ⟨"FlowDesk$Waiting", "<init>", "(LFlowDesk$Network;)V"⟩, "FlowDesk"), ("FlowDesk", 27, ⟨"FlowDesk$Checker", "<init>", "(LFlowDesk$Network;LFlowDesk$Waiting;)V"⟩, "FlowDesk"), ("FlowDesk", 36, ⟨"FlowDesk$Clockwork", "<init>", "(LFlowDesk$Network;LFlowDesk$Waiting;)V"⟩, "FlowDesk"), ("FlowDesk", 43, ⟨"FlowDesk$Expression", "<init>", "()V"⟩, "FlowDesk"), ("FlowDesk", 106, ⟨"FlowDesk$Clockwork", "restart", "()V"⟩, "FlowDesk"), ("FlowDesk", 109, ⟨"FlowDesk$Checker", "examine", "()I"⟩, "FlowDesk"), ("FlowDesk$Checker", 41, ⟨"FlowDesk$Waiting", "trace", "()V"⟩, "FlowDesk"), ("FlowDesk$Waiting", 48, ⟨"FlowDesk", "flowBehind", "(I)I"⟩, "FlowDesk"), ("FlowDesk$Waiting", 61, ⟨"FlowDesk$Expression", "beginsAt", "(I)Z"⟩, "FlowDesk"), ("FlowDesk$Waiting", 71, ⟨"FlowDesk", "namesFlow", "(I)Z"⟩, "FlowDesk"), ("FlowDesk$Waiting", 74, ⟨"FlowDesk$Expression", "named", "(I)I"⟩, "FlowDesk"), ("FlowDesk$Checker", 66, ⟨"FlowDesk$Waiting", "waitsFor", "(II)Z"⟩, "FlowDesk"), ("FlowDesk$Checker", 75, ⟨"FlowDesk$Flow", "hasEquation", "()Z"⟩, "FlowDesk"), ("FlowDesk$Checker", 83, ⟨"FlowDesk$Network", "typeOf", "(I)I"⟩, "FlowDesk"), ("FlowDesk$Checker", 106, ⟨"FlowDesk$Expression", "beginsAt", "(I)Z"⟩, "FlowDesk"), ("FlowDesk$Checker", 120, ⟨"FlowDesk$Expression", "named", "(I)I"⟩, "FlowDesk"), ("FlowDesk$Checker", 123, ⟨"FlowDesk", "isSampling", "(I)Z"⟩, "FlowDesk"), ("FlowDesk$Checker", 132, ⟨"FlowDesk$Expression", "firstPart", "(I)I"⟩, "FlowDesk"), ("FlowDesk$Checker", 150, ⟨"FlowDesk", "clockWhere", "(IZ)I"⟩, "FlowDesk"), ("FlowDesk$Checker", 50, ⟨"FlowDesk$Waiting", "arrange", "()V"⟩, "FlowDesk"), ("FlowDesk", 48, ⟨"FlowDesk$Network", "isClock", "(I)Z"⟩, "FlowDesk"), ("FlowDesk$Network", 22, ⟨"FlowDesk", "flowBehind", "(I)I"⟩, "FlowDesk"), ("FlowDesk", 68, ⟨"FlowDesk$Network", "append", "(ZIZ)I"⟩, "FlowDesk"), ("FlowDesk", 168, ⟨"FlowDesk$Checker", "forget", "()V"⟩, "FlowDesk"), ("FlowDesk", 82, ⟨"FlowDesk$Expression", "append", "(I)V"⟩, "FlowDesk"), ("FlowDesk", 85, ⟨"FlowDesk$Network", "has", "(I)Z"⟩, "FlowDesk"), ("FlowDesk", 98, ⟨"FlowDesk$Expression", "isWellFormed", "(I)Z"⟩, "FlowDesk"), ("FlowDesk$Expression", 41, ⟨"FlowDesk", "namesFlow", "(I)Z"⟩, "FlowDesk"), ("FlowDesk", 148, ⟨"FlowDesk$Clockwork", "step", "()V"⟩, "FlowDesk"), ("FlowDesk$Clockwork", 91, ⟨"FlowDesk", "flowBehind", "(I)I"⟩, "FlowDesk"), ("FlowDesk$Clockwork", 110, ⟨"FlowDesk$Expression", "named", "(I)I"⟩, "FlowDesk"), ("FlowDesk$Clockwork", 107, ⟨"FlowDesk$Expression", "firstPart", "(I)I"⟩, "FlowDesk"), ("FlowDesk$Clockwork", 116, ⟨"FlowDesk$Expression", "secondPart", "(I)I"⟩, "FlowDesk"), ("FlowDesk$Clockwork", 123, ⟨"FlowDesk$Expression", "thirdPart", "(I)I"⟩, "FlowDesk"), ("FlowDesk$Clockwork", 74, ⟨"FlowDesk", "truth", "(Z)I"⟩, "FlowDesk"), ("FlowDesk$Clockwork", 98, ⟨"FlowDesk$Expression", "beginsAt", "(I)Z"⟩, "FlowDesk"), ("FlowDesk", 159, ⟨"FlowDesk$Clockwork", "countOf", "(I)I"⟩, "FlowDesk")]
end
section
/-! The world: one memory for the class, the reference and the law's own array. M k j: what slot j of cell k holds; a cell's kind goes by its number. -/
abbrev fk_M : Type := Nat → Nat → Int32
/-- what stays: numbers of classes and slots; array classes (0 int, 1 boolean, 2 long, 3 Flow); the cells' addresses; where the own heap begins; the static tables' addresses -/
abbrev fk_G : Type := va_G × (Nat → ClassId) × (Nat → Nat) × Nat × (Nat → Nat)
abbrev fk_a (g : fk_G) : Nat → Nat := g.2.2.1
abbrev fk_A (g : fk_G) : Nat → Prop := fun q => g.2.2.2.1 ≤ q
abbrev fk_ty (g : fk_G) : List (ClassId × FieldType) := [(g.2.1 0, .int), (g.2.1 1, .boolean), (g.2.1 2, .long), (g.2.1 3, .object "FlowDesk$Flow")]
/-- kinds: 0 desk, 1 network, 2 its rows, 3 flow, 4 expression, 5 int[40], 6 waiting, 7 int[12], 8 checker, 9 boolean[40], 10 clockwork, 11 int[25], 12 the reference, 13 boolean[12], 14 int[480], 15 boolean[480], 16 int[64], 17 long[1] -/
def fk_kd (k : Nat) : Nat :=
  if k < 3 then k else if k < 75 then (if (k - 3) % 6 = 0 then 3 else if (k - 3) % 6 = 1 then 4 else 5)
  else if k = 75 then 6 else if k < 79 then 7 else if k = 79 then 8 else if k = 80 then 5 else if k = 81 then 9 else if k = 82 then 10 else if k = 83 then 11
  else if k = 84 then 4 else if k < 89 then 5 else if k = 89 then 12 else if k = 90 ∨ k = 91 ∨ k = 96 then 13 else if k < 100 then 7 else if k < 105 then 14
  else if k = 105 then 15 else if k < 108 then 5 else if k = 108 then 7 else if k = 109 then 16 else 17
def fk_ce (g : fk_G) (ov : Int64) (k : Nat) (r : Nat → Int32) : Nat → va_E
  | 0 => .inr (6, [.ref (fk_a g 1), .ref (fk_a g 75), .ref (fk_a g 79), .ref (fk_a g 82), .ref (fk_a g (r 4).toNatClampNeg)])
  | 1 => .inr (4, [.ref (fk_a g 2), .int (r 1)])
  | 2 => .inl (g.2.1 3, 12, .inr (.inr (.inr (.inr (fun i => some (fk_a g (3 + 6 * i)))))))
  | 3 => .inr (3, [.ref (fk_a g (r 0).toNatClampNeg), .int (r 1), .int (r 2), .int (r 3), .int (r 4), .int (r 5), .int (r 6)])
  | 4 => .inr (2, [.ref (fk_a g (k + 1)), .ref (fk_a g (k + 2)), .ref (fk_a g (k + 3)), .ref (fk_a g (k + 4)), .int (r 4)])
  | 5 => .inl (g.2.1 0, 40, .inl r)
  | 6 => .inr (5, [.ref (fk_a g 1), .ref (fk_a g 76), .ref (fk_a g 77), .int (r 3), .ref (fk_a g 78)])
  | 7 => .inl (g.2.1 0, 12, .inl r)
  | 8 => .inr (0, [.ref (fk_a g 1), .ref (fk_a g 75), .ref (fk_a g 80), .ref (fk_a g 81), .int (r 4), .int (r 5), .int (r 6)])
  | 9 => .inl (g.2.1 1, 40, .inl r)
  | 10 => .inr (1, [.ref (fk_a g 1), .ref (fk_a g 75), .ref (fk_a g 83)])
  | 11 => .inl (g.2.1 0, 25, .inl r)
  | 12 => .inr (7, [.int (r 0), .int (r 1), .ref (fk_a g 90), .ref (fk_a g 91), .ref (fk_a g 92), .ref (fk_a g 93), .ref (fk_a g 94), .ref (fk_a g 95), .ref (fk_a g 96), .ref (fk_a g 97), .ref (fk_a g 98), .ref (fk_a g 99), .ref (fk_a g 100), .ref (fk_a g 101), .ref (fk_a g 102), .ref (fk_a g 103), .ref (fk_a g 104), .ref (fk_a g 105), .ref (fk_a g 106), .int (r 19), .ref (fk_a g 107), .int (r 21), .int (r 22), .int (r 23), .int (r 24), .int (r 25), .ref (fk_a g 108), .int (r 27), .ref (fk_a g 109), .int (r 29), .int (r 30)])
  | 13 => .inl (g.2.1 1, 12, .inl r)
  | 14 => .inl (g.2.1 0, 480, .inl r)
  | 15 => .inl (g.2.1 1, 480, .inl r)
  | 16 => .inl (g.2.1 0, 64, .inl r)
  | _ => .inl (g.2.1 2, 1, .inr (.inl (fun _ => ov)))
abbrev fk_cell (g : fk_G) (ov : Int64) (k : Nat) (r : Nat → Int32) : va_E := fk_ce g ov k r (fk_kd k)
def fk_wl (g : fk_G) (ov : Int64) (M : fk_M) : va_W := (List.range 111).map (fun k => (fk_a g k, fk_cell g ov k (M k)))
theorem fk_wl_at {g : fk_G} {ov : Int64} {M : fk_M} {k : Nat} (hk : k < 111) : (fk_wl g ov M)[k]? = some (fk_a g k, fk_cell g ov k (M k)) := by
  unfold fk_wl
  rw [List.getElem?_map, List.getElem?_range hk]
  rfl
theorem fk_wl_set {g : fk_G} {ov : Int64} {M : fk_M} {k : Nat} (r : Nat → Int32) : (fk_wl g ov M).set k (fk_a g k, fk_cell g ov k r) = fk_wl g ov (va_up M k r) := by
  apply List.ext_getElem?
  intro j
  by_cases hj : j < 111
  · rw [fk_wl_at hj]
    by_cases h : j = k
    · subst h
      rw [List.getElem?_set_self (by simp [fk_wl]; exact hj), va_up_self]
    · rw [List.getElem?_set_ne (Ne.symm h), fk_wl_at hj, va_up_ne _ _ h]
  · rw [List.getElem?_eq_none (by simp [fk_wl]; omega), List.getElem?_eq_none (by simp [fk_wl]; omega)]
/-! Rows for one step of a walk over that memory. S: the method's fixed things; E: what the tables and statics say; G: the heap holds M, and nothing older has changed. -/
def fk_nf (x : String × Nat × String × String × String × String) (U : State) : Prop := va_Nw (.fieldLinkNest x.1 x.2.1 x.2.2.1 x.2.2.2.1 x.2.2.2.2.1 x.2.2.2.2.2) U
def fk_nm (x : String × Nat × MethodName × String) (U : State) : Prop := va_Nw (.methodLinkNest x.1 x.2.1 x.2.2.1 x.2.2.2) U
/-- the class's four static tables -/
def fk_tn : Nat → String
  | 0 => "HEAD"
  | 1 => "PARTS"
  | 2 => "RESULT"
  | _ => "PART_TYPE"
def fk_tv : Nat → List Int32
  | 0 => [2, 1, 1, 2, 1, 1, 1, 1, 1, 1, 1, 1, 1, 1, 1, 1, 2, 2, 2]
  | 1 => [0, 0, 0, 0, 1, 1, 2, 2, 2, 2, 2, 2, 2, 3, 1, 2, 1, 1, 2]
  | 2 => [0, 1, 1, 2, 1, 0, 0, 0, 0, 1, 1, 1, 1, 2, 2, 2, 2, 2, 2]
  | _ => [2, 2, 2, 2, 1, 0, 0, 0, 0, 0, 0, 1, 1, 2, 2, 2, 2, 2, 2]
def fk_E (g : fk_G) (U : State) (H : Heap) : Prop :=
  g.2.2.2.1 ≤ H.size ∧ va_K g.1 fk_cl (fk_ty g) U ∧ (∀ x ∈ fk_NF, fk_nf x U) ∧ (∀ x ∈ fk_NM, fk_nm x U) ∧
  ∀ i, i < 4 → va_Z "FlowDesk" (fk_tn i) "[I" (.ref (g.2.2.2.2 i)) (fk_A g) U H ∧ va_T .int (g.2.2.2.2 i) 19 (fun j => .int ((fk_tv i).getD j 0)) (fk_A g) U H
def fk_H (g : fk_G) (ov : Int64) (M : fk_M) (s : State) (H : Heap) (locs : List Loc) : Prop :=
  va_P g.1 fk_cl (fk_wl g ov M) H ∧ va_D (fk_A g) (fk_wl g ov M) ∧ va_S (fk_A g) s.heap H locs
/-- a method's world -/
def fk_Wd (g : fk_G) (ov : Int64) (M : fk_M) (U : State) : Prop := fk_E g U U.heap ∧ va_P g.1 fk_cl (fk_wl g ov M) U.heap ∧ va_D (fk_A g) (fk_wl g ov M)
theorem fk_E.to {g : fk_G} {s U : State} {H : Heap} {locs : List Loc} (h : fk_E g s s.heap) (hS : va_S (fk_A g) s.heap H locs) (hU : U.heap = H) (hW : s.WarmedH U.vm) : fk_E g U U.heap := by
  obtain ⟨h1, h2, h3, h4, h5⟩ := h
  subst hU
  refine ⟨Nat.le_trans h1 hS.1, va_K.moved hW.alike h2, fun x hx => va_Nw.warmF hW (h3 x hx), fun x hx => va_Nw.warmM hW (h4 x hx), fun i hi => ?_⟩
  exact ⟨va_Z.moved hW.alike ((h5 i hi).1.kept hS.2.1), va_T.moved hW.alike ((h5 i hi).2.kept hS.2.1)⟩
theorem fk_E.same {g : fk_G} {s U : State} (h : fk_E g s s.heap) (hH : U.heap = s.heap) (hV : s.vm = U.vm) : fk_E g U U.heap := by
  obtain ⟨h1, h2, h3, h4, h5⟩ := h
  have hA : s.vm.Alike U.vm := by rw [hV]; exact Vm.Alike.refl _
  rw [hH]
  exact ⟨h1, va_K.moved hA h2, fun x hx => va_Nw.same rfl hV (h3 x hx), fun x hx => va_Nw.same rfl hV (h4 x hx), fun i hi => ⟨va_Z.moved hA (h5 i hi).1, va_T.moved hA (h5 i hi).2⟩⟩
theorem fk_blind {g : fk_G} {ov : Int64} {M : fk_M} {av : List Value} : FrameBlind (va_Pc av (fk_Wd g ov M)) := fun a U f mk q => ⟨q.1, q.2.1.same (U := U.calling f mk a) rfl rfl, q.2.2⟩
theorem fk_pre {g : fk_G} {ov : Int64} {M : fk_M} {s U : State} {H : Heap} {locs : List Loc} (E : fk_E g s s.heap) (G : fk_H g ov M s H locs) (hU : U.heap = H) (hW : s.WarmedH U.vm) : fk_Wd g ov M U :=
  ⟨E.to G.2.2 hU hW, by rw [hU]; exact G.1, G.2.1⟩
theorem fk_begin {g : fk_G} {ov : Int64} {M : fk_M} {s : State} (h : fk_Wd g ov M s) : fk_H g ov M s s.heap [] := ⟨h.2.1, h.2.2, va_S.rf⟩
/-- contracts: a method that hands back an int, or nothing -/
abbrev fk_CI (l : Launch) (y : MethodName) (cc : ByteArray) (maxL : Nat) (ret : Option FieldType) (rm : Room) (g : fk_G) (ov : Int64) (M M' : fk_M) (av : List Value) (v : Int32) : Prop :=
  Met l y (.code y cc maxL ret :: fk_ALL) rm (va_Pc av (fk_Wd g ov M)) (va_Qi (fun r (_ : Unit) => r = v) (fun _ t => fk_Wd g ov M' t) (fk_A g)) 0 0 (fk_A g)
abbrev fk_CV (l : Launch) (y : MethodName) (cc : ByteArray) (maxL : Nat) (rm : Room) (g : fk_G) (ov : Int64) (M M' : fk_M) (av : List Value) : Prop :=
  Met l y (.code y cc maxL none :: fk_ALL) rm (va_Pc av (fk_Wd g ov M)) (va_Qv (fun (_ : Unit) => True) (fun _ t => fk_Wd g ov M' t) (fk_A g)) 0 0 (fk_A g)
/-- the room of a method over n levels of calls -/
abbrev fk_rm (n : Nat) : Room := { frames := n, cells := 0, slots := 0, locals := 64 * n }
section FKR
variable {p : Program} {l : Launch} {e : Env} {R : Room} {s : State} {m : MethodId} {args : Array Value} {below : List Frame} {meth : Method} {c : Code} {H : Heap} {locs : List Loc} {cells slots : Nat} {Q : State → Prop}
variable {cc : ByteArray} {nL : Nat} {own : String} {pc : Nat} {ls : Array Slot} {rest : List Value} {g : fk_G} {ov : Int64} {M : fk_M}
abbrev fk_S (p : Program) (m : MethodId) (c : Code) (cc : ByteArray) (nL : Nat) (s : State) (args : Array Value) (own : String) : Prop := CallFix p m c cc nL s args fk_ALL own
theorem fk_ofI {y : MethodName} {rm : Room} {M' : fk_M} {av : List Value} {v : Int32} {maxL : Nat} {ret : Option FieldType} (hy : plainName y.cls = true) (hlen : (lg_sl av).length ≤ maxL)
    (body : ∀ (p : Program) (e : Env) (s : State) (m : MethodId) (args : Array Value) (below : List Frame) (meth : Method) (c : Code) (ls : Array Slot), fk_S p m c cc maxL s args y.cls → meth.sig.returnType = ret → meth.locks = false → fk_E g s s.heap → fk_H g ov M s s.heap [] → lv_has ls maxL (lv_args 0 av) →
      W p l e rm s m args below meth c s.heap [] 0 0 (MQ below (va_Qi (fun r (_ : Unit) => r = v) (fun _ t => fk_Wd g ov M' t) (fk_A g)) args s 0 0 (fk_A g)) (F0 m 0 ls [])) : fk_CI l y cc maxL ret rm g ov M M' av v := by
  refine Met.ofW (cc := cc) (maxL := maxL) (ret := ret) hy rfl ?_
  intro p e s m args below meth c s₁ B hml hv
  obtain ⟨rfl, hv⟩ := hv
  have hts := atoms_spec (ws := .code y cc maxL ret :: fk_ALL) B.pre
  rw [lg_entry_eq]
  exact body p e s m _ below meth c _ ⟨B.exec, B.bytes, hml, findClass_of_methodNamed B.named, fun w h => hts w (List.mem_cons_of_mem _ h)⟩ B.returns B.notSynchronized hv.1 (fk_begin hv) (lv_entry av hlen)
theorem fk_ofV {y : MethodName} {rm : Room} {M' : fk_M} {av : List Value} {maxL : Nat} (hy : plainName y.cls = true) (hlen : (lg_sl av).length ≤ maxL)
    (body : ∀ (p : Program) (e : Env) (s : State) (m : MethodId) (args : Array Value) (below : List Frame) (meth : Method) (c : Code) (ls : Array Slot), fk_S p m c cc maxL s args y.cls → meth.sig.returnType = none → meth.locks = false → fk_E g s s.heap → fk_H g ov M s s.heap [] → lv_has ls maxL (lv_args 0 av) →
      W p l e rm s m args below meth c s.heap [] 0 0 (MQ below (va_Qv (fun (_ : Unit) => True) (fun _ t => fk_Wd g ov M' t) (fk_A g)) args s 0 0 (fk_A g)) (F0 m 0 ls [])) : fk_CV l y cc maxL rm g ov M M' av := by
  refine Met.ofW (cc := cc) (maxL := maxL) (ret := none) hy rfl ?_
  intro p e s m args below meth c s₁ B hml hv
  obtain ⟨rfl, hv⟩ := hv
  have hts := atoms_spec (ws := .code y cc maxL none :: fk_ALL) B.pre
  rw [lg_entry_eq]
  exact body p e s m _ below meth c _ ⟨B.exec, B.bytes, hml, findClass_of_methodNamed B.named, fun w h => hts w (List.mem_cons_of_mem _ h)⟩ B.returns B.notSynchronized hv.1 (fk_begin hv) (lv_entry av hlen)
/-- ends -/
theorem fk_iret {M' : fk_M} {v w : Int32} (S : fk_S p m c cc nL s args own) (hr : meth.sig.returnType = some .int) (hk : meth.locks = false) (E : fk_E g s s.heap) (G : fk_H g ov M s H locs) (hM : M = M') (hv : w = v) (hdg : decode cc pc = .ok (.ireturn, 1)) :
    W p l e R s m args below meth c H locs 0 0 (MQ below (va_Qi (fun r (_ : Unit) => r = v) (fun _ t => fk_Wd g ov M' t) (fk_A g)) args s 0 0 (fk_A g)) (F0 m pc ls [.int w]) := by
  subst hM
  exact W.iret (v := w) S.1 S.2.1 hr (fun t ht hW => ⟨⟨w, (), rfl, hv, fk_pre E G ht hW⟩, G.2.2.F ht⟩) G.2.2.2.2 hdg hk
theorem fk_zret {M' : fk_M} {v w : Int32} (S : fk_S p m c cc nL s args own) (hr : meth.sig.returnType = some .boolean) (hk : meth.locks = false) (E : fk_E g s s.heap) (G : fk_H g ov M s H locs) (hM : M = M') (hv : w = v) (hz : v = 0 ∨ v = 1) (hdg : decode cc pc = .ok (.ireturn, 1)) :
    W p l e R s m args below meth c H locs 0 0 (MQ below (va_Qi (fun r (_ : Unit) => r = v) (fun _ t => fk_Wd g ov M' t) (fk_A g)) args s 0 0 (fk_A g)) (F0 m pc ls [.int w]) := by
  subst hM
  subst hv
  exact W.zret (v := w) S.1 S.2.1 hr (by rcases hz with rfl | rfl <;> rfl) (fun t ht hW => ⟨⟨w, (), rfl, rfl, fk_pre E G ht hW⟩, G.2.2.F ht⟩) G.2.2.2.2 hdg hk
theorem fk_vret {M' : fk_M} (S : fk_S p m c cc nL s args own) (hr : meth.sig.returnType = none) (hk : meth.locks = false) (E : fk_E g s s.heap) (G : fk_H g ov M s H locs) (hM : M = M') (hdg : decode cc pc = .ok (.return_, 1)) :
    W p l e R s m args below meth c H locs 0 0 (MQ below (va_Qv (fun (_ : Unit) => True) (fun _ t => fk_Wd g ov M' t) (fk_A g)) args s 0 0 (fk_A g)) (F0 m pc ls []) := by
  subst hM
  exact W.vret S.1 S.2.1 hr (fun t ht hW => ⟨⟨(), rfl, trivial, fk_pre E G ht hW⟩, G.2.2.F ht⟩) G.2.2.2.2 hdg hk
/-- fields -/
theorem fk_gf (S : fk_S p m c cc nL s args own) (E : fk_E g s s.heap) (G : fk_H g ov M s H locs) (k : Nat) (hk : k < 111) {ci : Nat} {fs : List Value} (he : fk_cell g ov k (M k) = .inr (ci, fs)) {C : String} {T : u_T} {N index : Nat} (hc : fk_cl[ci]? = some (C, T, N)) (j : Nat) (hj : j < N) (hd : (T j).1 = C)
    (hlink : Cond.fieldLink own index C (T j).2.1 (T j).2.2.1 ∈ fk_ALL) {v : Value} (hv : fs[j]? = some v) (hdg : decode cc pc = .ok (.getfield index, 3)) (kk : W p l e R s m args below meth c H locs cells slots Q (F0 m (pc + 3) ls (v :: rest))) : W p l e R s m args below meth c H locs cells slots Q (F0 m pc ls (.ref (fk_a g k) :: rest)) :=
  va_get (D := g.1) S.1 S.2.1 S.2.2.2.2 (fk_hin ci C T N hc) S.2.2.2.1 E.2.1 G.1 k ((fk_wl_at hk).trans (by rw [he])) hc j hj (S.2.2.2.2 _ hlink) (fun x h => by rw [hd] at h; exact h) hv hdg kk
theorem fk_gn (S : fk_S p m c cc nL s args own) (E : fk_E g s s.heap) (G : fk_H g ov M s H locs) (k : Nat) (hk : k < 111) {ci : Nat} {fs : List Value} (he : fk_cell g ov k (M k) = .inr (ci, fs)) {C host : String} {T : u_T} {N index : Nat} (hc : fk_cl[ci]? = some (C, T, N)) (j : Nat) (hj : j < N) (hd : (T j).1 = C)
    (hlink : (own, index, C, (T j).2.1, (T j).2.2.1, host) ∈ fk_NF) {v : Value} (hv : fs[j]? = some v) (hdg : decode cc pc = .ok (.getfield index, 3)) (kk : W p l e R s m args below meth c H locs cells slots Q (F0 m (pc + 3) ls (v :: rest))) : W p l e R s m args below meth c H locs cells slots Q (F0 m pc ls (.ref (fk_a g k) :: rest)) :=
  va_getN (D := g.1) (host := host) S.1 S.2.1 S.2.2.2.2 (fk_hin ci C T N hc) S.2.2.2.1 E.2.1 G.1 k ((fk_wl_at hk).trans (by rw [he])) hc j hj (va_Nw.use rfl (E.2.2.1 _ hlink)) (fun x h => by rw [hd] at h; exact h) hv hdg kk
theorem fk_pf (S : fk_S p m c cc nL s args own) (E : fk_E g s s.heap) (G : fk_H g ov M s H locs) (k : Nat) (hk : k < 111) {ci : Nat} {fs : List Value} (he : fk_cell g ov k (M k) = .inr (ci, fs)) {C : String} {T : u_T} {N index : Nat} (hc : fk_cl[ci]? = some (C, T, N)) (j : Nat) (hj : j < N) (hd : (T j).1 = C)
    (hlink : Cond.fieldLink own index C (T j).2.1 (T j).2.2.1 ∈ fk_ALL) {v : Value} (r : Nat → Int32) (he2 : fk_cell g ov k r = .inr (ci, fs.set j v)) (hfin : (T j).2.2.2 = false) {ty : FieldType} (hp : parseFieldDescriptor (T j).2.2.1 = some ty) (hn : narrow ty v = v) (hfit : fits ty v = true) (hl : j < fs.length) (hdg : decode cc pc = .ok (.putfield index, 3))
    (kk : ∀ (H : Heap) (locs : List Loc), fk_H g ov (va_up M k r) s H locs → W p l e R s m args below meth c H locs cells slots Q (F0 m (pc + 3) ls rest)) : W p l e R s m args below meth c H locs cells slots Q (F0 m pc ls (v :: .ref (fk_a g k) :: rest)) := by
  obtain ⟨ty0, hty, hnm⟩ := fk_hty ci C T N hc
  refine va_put (D := g.1) (v := v) S.1 S.2.1 S.2.2.2.2 (fk_hin ci C T N hc) ty0 hty hnm S.2.2.2.1 E.2.1 G.1 G.2.1 G.2.2 k ((fk_wl_at hk).trans (by rw [he])) hc j hj (S.2.2.2.2 _ hlink) (fun x h => by rw [hd] at h; exact h) hfin hp hn hfit hl hdg (fun H1 locs1 q1 q2 q3 => kk H1 locs1 ?_)
  rw [← he2, fk_wl_set] at q1 q2
  exact ⟨q1, q2, q3⟩
theorem fk_pn (S : fk_S p m c cc nL s args own) (E : fk_E g s s.heap) (G : fk_H g ov M s H locs) (k : Nat) (hk : k < 111) {ci : Nat} {fs : List Value} (he : fk_cell g ov k (M k) = .inr (ci, fs)) {C host : String} {T : u_T} {N index : Nat} (hc : fk_cl[ci]? = some (C, T, N)) (j : Nat) (hj : j < N) (hd : (T j).1 = C)
    (hlink : (own, index, C, (T j).2.1, (T j).2.2.1, host) ∈ fk_NF) {v : Value} (r : Nat → Int32) (he2 : fk_cell g ov k r = .inr (ci, fs.set j v)) (hfin : (T j).2.2.2 = false) {ty : FieldType} (hp : parseFieldDescriptor (T j).2.2.1 = some ty) (hn : narrow ty v = v) (hfit : fits ty v = true) (hl : j < fs.length) (hdg : decode cc pc = .ok (.putfield index, 3))
    (kk : ∀ (H : Heap) (locs : List Loc), fk_H g ov (va_up M k r) s H locs → W p l e R s m args below meth c H locs cells slots Q (F0 m (pc + 3) ls rest)) : W p l e R s m args below meth c H locs cells slots Q (F0 m pc ls (v :: .ref (fk_a g k) :: rest)) := by
  obtain ⟨ty0, hty, hnm⟩ := fk_hty ci C T N hc
  refine va_putN (D := g.1) (host := host) (v := v) S.1 S.2.1 S.2.2.2.2 (fk_hin ci C T N hc) ty0 hty hnm S.2.2.2.1 E.2.1 G.1 G.2.1 G.2.2 k ((fk_wl_at hk).trans (by rw [he])) hc j hj (va_Nw.use rfl (E.2.2.1 _ hlink)) (fun x h => by rw [hd] at h; exact h) hfin hp hn hfit hl hdg (fun H1 locs1 q1 q2 q3 => kk H1 locs1 ?_)
  rw [← he2, fk_wl_set] at q1 q2
  exact ⟨q1, q2, q3⟩
/-- arrays -/
theorem fk_ia (S : fk_S p m c cc nL s args own) (E : fk_E g s s.heap) (G : fk_H g ov M s H locs) (k : Nat) (hk : k < 111) {n : Nat} (he : fk_cell g ov k (M k) = .inl (g.2.1 0, n, .inl (M k))) {i : Int32} (j : Nat) (hi : i = nI j) (hj : j < n) (hn : n < 2 ^ 31) {v : Int32} (hv : M k j = v) (hdg : decode cc pc = .ok (.iaload, 1))
    (kk : W p l e R s m args below meth c H locs cells slots Q (F0 m (pc + 1) ls (.int v :: rest))) : W p l e R s m args below meth c H locs cells slots Q (F0 m pc ls (.int i :: .ref (fk_a g k) :: rest)) := by
  subst hi; subst hv
  refine va_iald (D := g.1) S.1 S.2.1 E.2.1 G.1 k 0 ((fk_wl_at hk).trans (by rw [he])) rfl (vp_in_nI hj hn) hdg ?_
  rw [nI_clamp (Nat.lt_trans hj hn)]
  exact kk
theorem fk_za (S : fk_S p m c cc nL s args own) (E : fk_E g s s.heap) (G : fk_H g ov M s H locs) (k : Nat) (hk : k < 111) {n : Nat} (he : fk_cell g ov k (M k) = .inl (g.2.1 1, n, .inl (M k))) {i : Int32} (j : Nat) (hi : i = nI j) (hj : j < n) (hn : n < 2 ^ 31) {v : Int32} (hv : M k j = v) (hdg : decode cc pc = .ok (.baload, 1))
    (kk : W p l e R s m args below meth c H locs cells slots Q (F0 m (pc + 1) ls (.int v :: rest))) : W p l e R s m args below meth c H locs cells slots Q (F0 m pc ls (.int i :: .ref (fk_a g k) :: rest)) := by
  subst hi; subst hv
  refine va_zald (D := g.1) S.1 S.2.1 E.2.1 G.1 k 1 ((fk_wl_at hk).trans (by rw [he])) rfl (vp_in_nI hj hn) hdg ?_
  rw [nI_clamp (Nat.lt_trans hj hn)]
  exact kk
theorem fk_is (S : fk_S p m c cc nL s args own) (E : fk_E g s s.heap) (G : fk_H g ov M s H locs) (k : Nat) (hk : k < 111) {n : Nat} (he : ∀ r, fk_cell g ov k r = .inl (g.2.1 0, n, .inl r)) {i x : Int32} (j : Nat) (hi : i = nI j) (hj : j < n) (hn : n < 2 ^ 31) (hdg : decode cc pc = .ok (.iastore, 1))
    (kk : ∀ (H : Heap) (locs : List Loc), fk_H g ov (va_up M k (upd (M k) j x)) s H locs → W p l e R s m args below meth c H locs cells slots Q (F0 m (pc + 1) ls rest)) : W p l e R s m args below meth c H locs cells slots Q (F0 m pc ls (.int x :: .int i :: .ref (fk_a g k) :: rest)) := by
  subst hi
  refine va_iast (D := g.1) S.1 S.2.1 E.2.1 G.1 G.2.1 G.2.2 k 0 ((fk_wl_at hk).trans (by rw [he])) rfl (vp_in_nI hj hn) hdg (fun H1 locs1 q1 q2 q3 => kk H1 locs1 ?_)
  rw [nI_clamp (Nat.lt_trans hj hn), ← he, fk_wl_set] at q1 q2
  exact ⟨q1, q2, q3⟩
theorem fk_nar {x : Int32} (h : x = 0 ∨ x = 1) : vp_nar .boolean x = x := by rcases h with rfl | rfl <;> rfl
theorem fk_zs (S : fk_S p m c cc nL s args own) (E : fk_E g s s.heap) (G : fk_H g ov M s H locs) (k : Nat) (hk : k < 111) {n : Nat} (he : ∀ r, fk_cell g ov k r = .inl (g.2.1 1, n, .inl r)) {i x : Int32} (j : Nat) (hi : i = nI j) (hj : j < n) (hn : n < 2 ^ 31) (hz : x = 0 ∨ x = 1) (hdg : decode cc pc = .ok (.bastore, 1))
    (kk : ∀ (H : Heap) (locs : List Loc), fk_H g ov (va_up M k (upd (M k) j x)) s H locs → W p l e R s m args below meth c H locs cells slots Q (F0 m (pc + 1) ls rest)) : W p l e R s m args below meth c H locs cells slots Q (F0 m pc ls (.int x :: .int i :: .ref (fk_a g k) :: rest)) := by
  subst hi
  refine va_zast (D := g.1) S.1 S.2.1 E.2.1 G.1 G.2.1 G.2.2 k 1 ((fk_wl_at hk).trans (by rw [he])) rfl (vp_in_nI hj hn) hdg (fun H1 locs1 q1 q2 q3 => kk H1 locs1 ?_)
  rw [nI_clamp (Nat.lt_trans hj hn), fk_nar hz, ← he, fk_wl_set] at q1 q2
  exact ⟨q1, q2, q3⟩
theorem fk_rw (S : fk_S p m c cc nL s args own) (E : fk_E g s s.heap) (G : fk_H g ov M s H locs) {i : Int32} (j : Nat) (hi : i = nI j) (hj : j < 12) (hdg : decode cc pc = .ok (.aaload, 1))
    (kk : W p l e R s m args below meth c H locs cells slots Q (F0 m (pc + 1) ls (.ref (fk_a g (3 + 6 * j)) :: rest))) : W p l e R s m args below meth c H locs cells slots Q (F0 m pc ls (.int i :: .ref (fk_a g 2) :: rest)) := by
  subst hi
  refine va_aldq (D := g.1) (C := "FlowDesk$Flow") S.1 S.2.1 E.2.1 G.1 2 3 (fk_wl_at (by decide)) rfl (vp_in_nI hj (by decide)) hdg ?_
  rw [nI_clamp (by omega)]
  exact kk
/-- the static tables -/
theorem fk_gs (S : fk_S p m c cc nL s args own) (E : fk_E g s s.heap) (G : fk_H g ov M s H locs) (i : Nat) (hi : i < 4) {index : Nat} (hlink : Cond.fieldLink own index "FlowDesk" (fk_tn i) "[I" ∈ fk_ALL) (hdg : decode cc pc = .ok (.getstatic index, 3))
    (kk : W p l e R s m args below meth c H locs cells slots Q (F0 m (pc + 3) ls (.ref (g.2.2.2.2 i) :: rest))) : W p l e R s m args below meth c H locs cells slots Q (F0 m pc ls rest) :=
  va_gets S.1 S.2.1 (E.2.2.2.2 i hi).1 G.2.2 S.2.2.2.1 (S.2.2.2.2 _ hlink) (fun _ h => h) hdg kk
theorem fk_gsn (S : fk_S p m c cc nL s args own) (E : fk_E g s s.heap) (G : fk_H g ov M s H locs) (i : Nat) (hi : i < 4) {index : Nat} {host : String} (hlink : (own, index, "FlowDesk", fk_tn i, "[I", host) ∈ fk_NF) (hdg : decode cc pc = .ok (.getstatic index, 3))
    (kk : W p l e R s m args below meth c H locs cells slots Q (F0 m (pc + 3) ls (.ref (g.2.2.2.2 i) :: rest))) : W p l e R s m args below meth c H locs cells slots Q (F0 m pc ls rest) :=
  va_getsN (host := host) S.1 S.2.1 (E.2.2.2.2 i hi).1 G.2.2 S.2.2.2.1 (va_Nw.use rfl (E.2.2.1 _ hlink)) (fun _ h => h) hdg kk
theorem fk_ti (S : fk_S p m c cc nL s args own) (E : fk_E g s s.heap) (G : fk_H g ov M s H locs) (i : Nat) (hi : i < 4) {x : Int32} (j : Nat) (hx : x = nI j) (hj : j < 19) {v : Int32} (hv : (fk_tv i).getD j 0 = v) (hdg : decode cc pc = .ok (.iaload, 1))
    (kk : W p l e R s m args below meth c H locs cells slots Q (F0 m (pc + 1) ls (.int v :: rest))) : W p l e R s m args below meth c H locs cells slots Q (F0 m pc ls (.int x :: .ref (g.2.2.2.2 i) :: rest)) := by
  subst hx
  refine va_ti S.1 S.2.1 (E.2.2.2.2 i hi).2 G.2.2 (vp_in_nI hj (by decide)) (v := .int v) ?_ hdg kk
  rw [nI_clamp (by omega), hv]
end FKR
/-! Calls of methods that have a contract over that memory. -/
abbrev fk_MI (y : MethodName) (bytes : ByteArray) (maxL : Nat) (ret : Option FieldType) (n : Nat) : Prop := Cond.code y bytes maxL ret ∈ fk_ALL ∧ Cond.instanceMethod y ∈ fk_ALL ∧ Cond.selects y.cls y y ∈ fk_ALL ∧ Cond.initialized y.cls ∈ fk_ALL ∧ (y.cls ≠ "java/lang/invoke/MethodHandle" ∧ y.cls ≠ "java/lang/invoke/VarHandle" ∧ (parseMethodDescriptor y.desc).map (fun d => d.parameters.length) = some n)
abbrev fk_MS (y : MethodName) (bytes : ByteArray) (maxL : Nat) (ret : Option FieldType) (n : Nat) : Prop := Cond.code y bytes maxL ret ∈ fk_ALL ∧ Cond.static y ∈ fk_ALL ∧ Cond.initialized y.cls ∈ fk_ALL ∧ (y.cls ≠ "java/lang/invoke/MethodHandle" ∧ y.cls ≠ "java/lang/invoke/VarHandle" ∧ (parseMethodDescriptor y.desc).map (fun d => d.parameters.length) = some n)
theorem fk_gi {w : Cond} (h : w ∈ fk_ALL) : GoodIn fk_ALL (w :: fk_ALL) := by
  intro v hv
  rcases List.mem_cons.mp hv with rfl | hv
  · exact ⟨h, good_of_word (fk_good _ h)⟩
  · exact ⟨hv, good_of_word (fk_good _ hv)⟩
section FKC
variable {p : Program} {l : Launch} {e : Env} {R : Room} {s : State} {m : MethodId} {args : Array Value} {below : List Frame} {meth : Method} {c : Code} {H : Heap} {locs : List Loc} {cells slots : Nat} {Q : State → Prop}
variable {cc bytes : ByteArray} {nL maxL n index : Nat} {own host : String} {pc : Nat} {ls : Array Slot} {rest st As : List Value} {g : fk_G} {ov : Int64} {M M' : fk_M} {y : MethodName} {ret : Option FieldType} {rm : Room} {v : Int32}
theorem fk_back {t : State} {H1 : Heap} {locs1 : List Loc} (ht : t.heap = H1) (hB : fk_Wd g ov M' t) (hS : va_S (fk_A g) s.heap H1 locs1) : fk_H g ov M' s H1 locs1 := ⟨by rw [← ht]; exact hB.2.1, hB.2.2, hS⟩
/-- of a nest mate -/
theorem fk_cni (S : fk_S p m c cc nL s args own) (E : fk_E g s s.heap) (G : fk_H g ov M s H locs) (k : Nat) (hk : k < 111) {ci : Nat} {fs : List Value} (he : fk_cell g ov k (M k) = .inr (ci, fs)) {T : u_T} {N : Nat} (hc : fk_cl[ci]? = some (y.cls, T, N))
    (hM : fk_CI l y bytes maxL ret rm g ov M M' (.ref (fk_a g k) :: As) v) (hm : fk_MI y bytes maxL ret n) (hnest : (own, index, y, host) ∈ fk_NM) (hrm : rm.cells = 0 ∧ rm.slots = 0) (hR : rm.frames + 1 ≤ R.frames ∧ 8 + (maxL + 11) + rm.locals ≤ R.locals)
    (hn : As.length = n) (hst : st = As.reverse ++ .ref (fk_a g k) :: rest) (hsz : ls.size = nL) (hroom : (rest.map fun v => v.category).sum ≤ 8) (hdg : decode cc pc = .ok (.invokevirtual index, 3)) (hf : cells ≤ R.cells ∧ slots ≤ R.slots)
    (kk : ∀ (H : Heap) (locs : List Loc), fk_H g ov M' s H locs → W p l e R s m args below meth c H locs cells slots Q (F0 m (pc + 3) ls (.int v :: rest))) : W p l e R s m args below meth c H locs cells slots Q (F0 m pc ls st) := by
  refine va_calli (va_runVN (As := As) (rest := rest) (C := y.cls) (host := host) (mc := 0) (ms := 0) S hM ⟨va_cnB n S.2.2.2.2 (fk_gi hm.1) rfl hrm.1 hrm.2 (E.2.2.2.1 _ hnest) (S.2.2.2.2 _ hm.2.2.2.1) hm.2.2.2.2 hR, S.2.2.2.2 _ hm.2.1, S.2.2.2.2 _ hm.2.2.1⟩ ⟨fk_blind, va_recv E.2.1 G.1 hc ((fk_wl_at hk).trans (by rw [he])), fun U hU hW => ⟨rfl, fk_pre E G hU hW⟩⟩ rfl hn hsz hst (lv_room hroom) hdg hf) G.2.2 (fun _ _ h => h) (fun _ h => h) (fun r u t H1 locs1 ht hvm hp hB hz hk1 hS1 => ?_)
  subst hp
  exact kk H1 locs1 (fk_back ht hB hS1)
theorem fk_cnv (S : fk_S p m c cc nL s args own) (E : fk_E g s s.heap) (G : fk_H g ov M s H locs) (k : Nat) (hk : k < 111) {ci : Nat} {fs : List Value} (he : fk_cell g ov k (M k) = .inr (ci, fs)) {T : u_T} {N : Nat} (hc : fk_cl[ci]? = some (y.cls, T, N))
    (hM : fk_CV l y bytes maxL rm g ov M M' (.ref (fk_a g k) :: As)) (hm : fk_MI y bytes maxL none n) (hnest : (own, index, y, host) ∈ fk_NM) (hrm : rm.cells = 0 ∧ rm.slots = 0) (hR : rm.frames + 1 ≤ R.frames ∧ 8 + (maxL + 11) + rm.locals ≤ R.locals)
    (hn : As.length = n) (hst : st = As.reverse ++ .ref (fk_a g k) :: rest) (hsz : ls.size = nL) (hroom : (rest.map fun v => v.category).sum ≤ 8) (hdg : decode cc pc = .ok (.invokevirtual index, 3)) (hf : cells ≤ R.cells ∧ slots ≤ R.slots)
    (kk : ∀ (H : Heap) (locs : List Loc), fk_H g ov M' s H locs → W p l e R s m args below meth c H locs cells slots Q (F0 m (pc + 3) ls rest)) : W p l e R s m args below meth c H locs cells slots Q (F0 m pc ls st) := by
  refine va_callv (va_runVN (As := As) (rest := rest) (C := y.cls) (host := host) (mc := 0) (ms := 0) S hM ⟨va_cnB n S.2.2.2.2 (fk_gi hm.1) rfl hrm.1 hrm.2 (E.2.2.2.1 _ hnest) (S.2.2.2.2 _ hm.2.2.2.1) hm.2.2.2.2 hR, S.2.2.2.2 _ hm.2.1, S.2.2.2.2 _ hm.2.2.1⟩ ⟨fk_blind, va_recv E.2.1 G.1 hc ((fk_wl_at hk).trans (by rw [he])), fun U hU hW => ⟨rfl, fk_pre E G hU hW⟩⟩ rfl hn hsz hst (lv_room hroom) hdg hf) G.2.2 (fun _ _ h => h) (fun _ h => h) (fun u t H1 locs1 ht hvm hp hB hz hk1 hS1 => ?_)
  exact kk H1 locs1 (fk_back ht hB hS1)
/-- of the own class, or public -/
theorem fk_cvi (S : fk_S p m c cc nL s args own) (E : fk_E g s s.heap) (G : fk_H g ov M s H locs) (k : Nat) (hk : k < 111) {ci : Nat} {fs : List Value} (he : fk_cell g ov k (M k) = .inr (ci, fs)) {T : u_T} {N : Nat} (hc : fk_cl[ci]? = some (y.cls, T, N))
    (hM : fk_CI l y bytes maxL ret rm g ov M M' (.ref (fk_a g k) :: As) v) (hm : fk_MI y bytes maxL ret n) (hl : Cond.methodLink own index y ∈ fk_ALL) (hrm : rm.cells = 0 ∧ rm.slots = 0) (hR : rm.frames + 1 ≤ R.frames ∧ 8 + (maxL + 11) + rm.locals ≤ R.locals)
    (hn : As.length = n) (hst : st = As.reverse ++ .ref (fk_a g k) :: rest) (hsz : ls.size = nL) (hroom : (rest.map fun v => v.category).sum ≤ 8) (hdg : decode cc pc = .ok (.invokevirtual index, 3)) (hf : cells ≤ R.cells ∧ slots ≤ R.slots)
    (kk : ∀ (H : Heap) (locs : List Loc), fk_H g ov M' s H locs → W p l e R s m args below meth c H locs cells slots Q (F0 m (pc + 3) ls (.int v :: rest))) : W p l e R s m args below meth c H locs cells slots Q (F0 m pc ls st) := by
  refine va_calli (va_runV (As := As) (rest := rest) (C := y.cls) (mc := 0) (ms := 0) S hM ⟨callB_of n S.2.2.2.2 (fk_gi hm.1) rfl hrm.1 hrm.2 (S.2.2.2.2 _ hm.2.2.2.1) (S.2.2.2.2 _ hl) hm.2.2.2.2 hR, S.2.2.2.2 _ hm.2.1, S.2.2.2.2 _ hm.2.2.1⟩ ⟨fk_blind, va_recv E.2.1 G.1 hc ((fk_wl_at hk).trans (by rw [he])), fun U hU hW => ⟨rfl, fk_pre E G hU hW⟩⟩ rfl hn hsz hst (lv_room hroom) hdg hf) G.2.2 (fun _ _ h => h) (fun _ h => h) (fun r u t H1 locs1 ht hvm hp hB hz hk1 hS1 => ?_)
  subst hp
  exact kk H1 locs1 (fk_back ht hB hS1)
theorem fk_cvv (S : fk_S p m c cc nL s args own) (E : fk_E g s s.heap) (G : fk_H g ov M s H locs) (k : Nat) (hk : k < 111) {ci : Nat} {fs : List Value} (he : fk_cell g ov k (M k) = .inr (ci, fs)) {T : u_T} {N : Nat} (hc : fk_cl[ci]? = some (y.cls, T, N))
    (hM : fk_CV l y bytes maxL rm g ov M M' (.ref (fk_a g k) :: As)) (hm : fk_MI y bytes maxL none n) (hl : Cond.methodLink own index y ∈ fk_ALL) (hrm : rm.cells = 0 ∧ rm.slots = 0) (hR : rm.frames + 1 ≤ R.frames ∧ 8 + (maxL + 11) + rm.locals ≤ R.locals)
    (hn : As.length = n) (hst : st = As.reverse ++ .ref (fk_a g k) :: rest) (hsz : ls.size = nL) (hroom : (rest.map fun v => v.category).sum ≤ 8) (hdg : decode cc pc = .ok (.invokevirtual index, 3)) (hf : cells ≤ R.cells ∧ slots ≤ R.slots)
    (kk : ∀ (H : Heap) (locs : List Loc), fk_H g ov M' s H locs → W p l e R s m args below meth c H locs cells slots Q (F0 m (pc + 3) ls rest)) : W p l e R s m args below meth c H locs cells slots Q (F0 m pc ls st) := by
  refine va_callv (va_runV (As := As) (rest := rest) (C := y.cls) (mc := 0) (ms := 0) S hM ⟨callB_of n S.2.2.2.2 (fk_gi hm.1) rfl hrm.1 hrm.2 (S.2.2.2.2 _ hm.2.2.2.1) (S.2.2.2.2 _ hl) hm.2.2.2.2 hR, S.2.2.2.2 _ hm.2.1, S.2.2.2.2 _ hm.2.2.1⟩ ⟨fk_blind, va_recv E.2.1 G.1 hc ((fk_wl_at hk).trans (by rw [he])), fun U hU hW => ⟨rfl, fk_pre E G hU hW⟩⟩ rfl hn hsz hst (lv_room hroom) hdg hf) G.2.2 (fun _ _ h => h) (fun _ h => h) (fun u t H1 locs1 ht hvm hp hB hz hk1 hS1 => ?_)
  exact kk H1 locs1 (fk_back ht hB hS1)
/-- static: of the own class, or public -/
theorem fk_csi (S : fk_S p m c cc nL s args own) (E : fk_E g s s.heap) (G : fk_H g ov M s H locs)
    (hM : fk_CI l y bytes maxL ret rm g ov M M' As v) (hm : fk_MS y bytes maxL ret n) (hl : Cond.methodLink own index y ∈ fk_ALL) (hrm : rm.cells = 0 ∧ rm.slots = 0) (hR : rm.frames + 1 ≤ R.frames ∧ 8 + (maxL + 11) + rm.locals ≤ R.locals)
    (hn : As.length = n) (hst : st = As.reverse ++ rest) (hsz : ls.size = nL) (hroom : (rest.map fun v => v.category).sum ≤ 8) (hdg : decode cc pc = .ok (.invokestatic index, 3)) (hf : cells ≤ R.cells ∧ slots ≤ R.slots)
    (kk : ∀ (H : Heap) (locs : List Loc), fk_H g ov M' s H locs → W p l e R s m args below meth c H locs cells slots Q (F0 m (pc + 3) ls (.int v :: rest))) : W p l e R s m args below meth c H locs cells slots Q (F0 m pc ls st) := by
  refine va_calli (va_runS (As := As) (rest := rest) (mc := 0) (ms := 0) S hM ⟨callB_of n S.2.2.2.2 (fk_gi hm.1) rfl hrm.1 hrm.2 (S.2.2.2.2 _ hm.2.2.1) (S.2.2.2.2 _ hl) hm.2.2.2 hR, S.2.2.2.2 _ hm.2.1⟩ ⟨fk_blind, fun U hU hW => ⟨rfl, fk_pre E G hU hW⟩⟩ rfl hn hsz hst (lv_room hroom) hdg hf) G.2.2 (fun _ _ h => h) (fun _ h => h) (fun r u t H1 locs1 ht hvm hp hB hz hk1 hS1 => ?_)
  subst hp
  exact kk H1 locs1 (fk_back ht hB hS1)
theorem fk_csv (S : fk_S p m c cc nL s args own) (E : fk_E g s s.heap) (G : fk_H g ov M s H locs)
    (hM : fk_CV l y bytes maxL rm g ov M M' As) (hm : fk_MS y bytes maxL none n) (hl : Cond.methodLink own index y ∈ fk_ALL) (hrm : rm.cells = 0 ∧ rm.slots = 0) (hR : rm.frames + 1 ≤ R.frames ∧ 8 + (maxL + 11) + rm.locals ≤ R.locals)
    (hn : As.length = n) (hst : st = As.reverse ++ rest) (hsz : ls.size = nL) (hroom : (rest.map fun v => v.category).sum ≤ 8) (hdg : decode cc pc = .ok (.invokestatic index, 3)) (hf : cells ≤ R.cells ∧ slots ≤ R.slots)
    (kk : ∀ (H : Heap) (locs : List Loc), fk_H g ov M' s H locs → W p l e R s m args below meth c H locs cells slots Q (F0 m (pc + 3) ls rest)) : W p l e R s m args below meth c H locs cells slots Q (F0 m pc ls st) := by
  refine va_callv (va_runS (As := As) (rest := rest) (mc := 0) (ms := 0) S hM ⟨callB_of n S.2.2.2.2 (fk_gi hm.1) rfl hrm.1 hrm.2 (S.2.2.2.2 _ hm.2.2.1) (S.2.2.2.2 _ hl) hm.2.2.2 hR, S.2.2.2.2 _ hm.2.1⟩ ⟨fk_blind, fun U hU hW => ⟨rfl, fk_pre E G hU hW⟩⟩ rfl hn hsz hst (lv_room hroom) hdg hf) G.2.2 (fun _ _ h => h) (fun _ h => h) (fun u t H1 locs1 ht hvm hp hB hz hk1 hS1 => ?_)
  exact kk H1 locs1 (fk_back ht hB hS1)
/-- static, of a nest mate -/
theorem fk_cti (S : fk_S p m c cc nL s args own) (E : fk_E g s s.heap) (G : fk_H g ov M s H locs)
    (hM : fk_CI l y bytes maxL ret rm g ov M M' As v) (hm : fk_MS y bytes maxL ret n) (hnest : (own, index, y, host) ∈ fk_NM) (hrm : rm.cells = 0 ∧ rm.slots = 0) (hR : rm.frames + 1 ≤ R.frames ∧ 8 + (maxL + 11) + rm.locals ≤ R.locals)
    (hn : As.length = n) (hst : st = As.reverse ++ rest) (hsz : ls.size = nL) (hroom : (rest.map fun v => v.category).sum ≤ 8) (hdg : decode cc pc = .ok (.invokestatic index, 3)) (hf : cells ≤ R.cells ∧ slots ≤ R.slots)
    (kk : ∀ (H : Heap) (locs : List Loc), fk_H g ov M' s H locs → W p l e R s m args below meth c H locs cells slots Q (F0 m (pc + 3) ls (.int v :: rest))) : W p l e R s m args below meth c H locs cells slots Q (F0 m pc ls st) := by
  refine va_calli (va_runSN (As := As) (rest := rest) (host := host) (mc := 0) (ms := 0) S hM ⟨va_cnB n S.2.2.2.2 (fk_gi hm.1) rfl hrm.1 hrm.2 (E.2.2.2.1 _ hnest) (S.2.2.2.2 _ hm.2.2.1) hm.2.2.2 hR, S.2.2.2.2 _ hm.2.1, trivial⟩ ⟨fk_blind, fun U hU hW => ⟨rfl, fk_pre E G hU hW⟩⟩ rfl hn hsz hst (lv_room hroom) hdg hf) G.2.2 (fun _ _ h => h) (fun _ h => h) (fun r u t H1 locs1 ht hvm hp hB hz hk1 hS1 => ?_)
  subst hp
  exact kk H1 locs1 (fk_back ht hB hS1)
end FKC
/-! Numbers that count: compares and sums of them. -/
section FKN
variable {p : Program} {l : Launch} {e : Env} {R : Room} {s : State} {m : MethodId} {args : Array Value} {below : List Frame} {meth : Method} {c : Code} {H : Heap} {locs : List Loc} {cells slots : Nat} {Q : State → Prop}
variable {cc : ByteArray} {pc : Nat} {ls : Array Slot} {rest : List Value}
theorem fk_iadd (hexec : p.tables.exec = Jvm.exec) (hb : c.code = cc) {x y : Nat} (hdg : decode cc pc = .ok (.iadd, 1)) (k : W p l e R s m args below meth c H locs cells slots Q (F0 m (pc + 1) ls (.int (nI (x + y)) :: rest))) : W p l e R s m args below meth c H locs cells slots Q (F0 m pc ls (.int (nI y) :: .int (nI x) :: rest)) := by
  refine lv_iadd hexec hb hdg ?_
  rw [nI_add]
  exact k
theorem fk_isub (hexec : p.tables.exec = Jvm.exec) (hb : c.code = cc) {x y : Nat} (h : y ≤ x) (hdg : decode cc pc = .ok (.isub, 1)) (k : W p l e R s m args below meth c H locs cells slots Q (F0 m (pc + 1) ls (.int (nI (x - y)) :: rest))) : W p l e R s m args below meth c H locs cells slots Q (F0 m pc ls (.int (nI y) :: .int (nI x) :: rest)) := by
  refine lv_isub hexec hb hdg ?_
  rw [pk_sub h]
  exact k
theorem fk_imul (hexec : p.tables.exec = Jvm.exec) (hb : c.code = cc) {x y : Nat} (hdg : decode cc pc = .ok (.imul, 1)) (k : W p l e R s m args below meth c H locs cells slots Q (F0 m (pc + 1) ls (.int (nI (x * y)) :: rest))) : W p l e R s m args below meth c H locs cells slots Q (F0 m pc ls (.int (nI y) :: .int (nI x) :: rest)) := by
  refine lv_imul hexec hb hdg ?_
  rw [pk_mul]
  exact k
theorem fk_ceq (hexec : p.tables.exec = Jvm.exec) (hb : c.code = cc) {x y : Nat} (hx : x < 2 ^ 31) (hy : y < 2 ^ 31) {off : Int} {tgt : Nat} (hdg : decode cc pc = .ok (.if_icmp .eq off, 3)) (ht : (pc : Int) + off = (tgt : Int))
    (kt : x = y → W p l e R s m args below meth c H locs cells slots Q (F0 m tgt ls rest)) (kf : ¬ x = y → W p l e R s m args below meth c H locs cells slots Q (F0 m (pc + 3) ls rest)) : W p l e R s m args below meth c H locs cells slots Q (F0 m pc ls (.int (nI y) :: .int (nI x) :: rest)) :=
  lv_icmp_eq hexec hb hdg ht (fun h => kt (by simp only [nI_eq hx hy, nI_ltI hx hy, nI_ltI hy hx, nI_leI hx hy, nI_leI hy hx] at h; omega)) (fun h => kf (by simp only [nI_eq hx hy, nI_ltI hx hy, nI_ltI hy hx, nI_leI hx hy, nI_leI hy hx] at h; omega))
theorem fk_cne (hexec : p.tables.exec = Jvm.exec) (hb : c.code = cc) {x y : Nat} (hx : x < 2 ^ 31) (hy : y < 2 ^ 31) {off : Int} {tgt : Nat} (hdg : decode cc pc = .ok (.if_icmp .ne off, 3)) (ht : (pc : Int) + off = (tgt : Int))
    (kt : ¬ x = y → W p l e R s m args below meth c H locs cells slots Q (F0 m tgt ls rest)) (kf : x = y → W p l e R s m args below meth c H locs cells slots Q (F0 m (pc + 3) ls rest)) : W p l e R s m args below meth c H locs cells slots Q (F0 m pc ls (.int (nI y) :: .int (nI x) :: rest)) :=
  lv_icmp_ne hexec hb hdg ht (fun h => kt (by simp only [nI_eq hx hy, nI_ltI hx hy, nI_ltI hy hx, nI_leI hx hy, nI_leI hy hx] at h; omega)) (fun h => kf (by simp only [nI_eq hx hy, nI_ltI hx hy, nI_ltI hy hx, nI_leI hx hy, nI_leI hy hx] at h; omega))
theorem fk_clt (hexec : p.tables.exec = Jvm.exec) (hb : c.code = cc) {x y : Nat} (hx : x < 2 ^ 31) (hy : y < 2 ^ 31) {off : Int} {tgt : Nat} (hdg : decode cc pc = .ok (.if_icmp .lt off, 3)) (ht : (pc : Int) + off = (tgt : Int))
    (kt : x < y → W p l e R s m args below meth c H locs cells slots Q (F0 m tgt ls rest)) (kf : y ≤ x → W p l e R s m args below meth c H locs cells slots Q (F0 m (pc + 3) ls rest)) : W p l e R s m args below meth c H locs cells slots Q (F0 m pc ls (.int (nI y) :: .int (nI x) :: rest)) :=
  lv_icmp_lt hexec hb hdg ht (fun h => kt (by simp only [nI_eq hx hy, nI_ltI hx hy, nI_ltI hy hx, nI_leI hx hy, nI_leI hy hx] at h; omega)) (fun h => kf (by simp only [nI_eq hx hy, nI_ltI hx hy, nI_ltI hy hx, nI_leI hx hy, nI_leI hy hx] at h; omega))
theorem fk_cge (hexec : p.tables.exec = Jvm.exec) (hb : c.code = cc) {x y : Nat} (hx : x < 2 ^ 31) (hy : y < 2 ^ 31) {off : Int} {tgt : Nat} (hdg : decode cc pc = .ok (.if_icmp .ge off, 3)) (ht : (pc : Int) + off = (tgt : Int))
    (kt : y ≤ x → W p l e R s m args below meth c H locs cells slots Q (F0 m tgt ls rest)) (kf : x < y → W p l e R s m args below meth c H locs cells slots Q (F0 m (pc + 3) ls rest)) : W p l e R s m args below meth c H locs cells slots Q (F0 m pc ls (.int (nI y) :: .int (nI x) :: rest)) :=
  lv_icmp_ge hexec hb hdg ht (fun h => kt (by simp only [nI_eq hx hy, nI_ltI hx hy, nI_ltI hy hx, nI_leI hx hy, nI_leI hy hx] at h; omega)) (fun h => kf (by simp only [nI_eq hx hy, nI_ltI hx hy, nI_ltI hy hx, nI_leI hx hy, nI_leI hy hx] at h; omega))
theorem fk_cgt (hexec : p.tables.exec = Jvm.exec) (hb : c.code = cc) {x y : Nat} (hx : x < 2 ^ 31) (hy : y < 2 ^ 31) {off : Int} {tgt : Nat} (hdg : decode cc pc = .ok (.if_icmp .gt off, 3)) (ht : (pc : Int) + off = (tgt : Int))
    (kt : y < x → W p l e R s m args below meth c H locs cells slots Q (F0 m tgt ls rest)) (kf : x ≤ y → W p l e R s m args below meth c H locs cells slots Q (F0 m (pc + 3) ls rest)) : W p l e R s m args below meth c H locs cells slots Q (F0 m pc ls (.int (nI y) :: .int (nI x) :: rest)) :=
  lv_icmp_gt hexec hb hdg ht (fun h => kt (by simp only [nI_eq hx hy, nI_ltI hx hy, nI_ltI hy hx, nI_leI hx hy, nI_leI hy hx] at h; omega)) (fun h => kf (by simp only [nI_eq hx hy, nI_ltI hx hy, nI_ltI hy hx, nI_leI hx hy, nI_leI hy hx] at h; omega))
theorem fk_cle (hexec : p.tables.exec = Jvm.exec) (hb : c.code = cc) {x y : Nat} (hx : x < 2 ^ 31) (hy : y < 2 ^ 31) {off : Int} {tgt : Nat} (hdg : decode cc pc = .ok (.if_icmp .le off, 3)) (ht : (pc : Int) + off = (tgt : Int))
    (kt : x ≤ y → W p l e R s m args below meth c H locs cells slots Q (F0 m tgt ls rest)) (kf : y < x → W p l e R s m args below meth c H locs cells slots Q (F0 m (pc + 3) ls rest)) : W p l e R s m args below meth c H locs cells slots Q (F0 m pc ls (.int (nI y) :: .int (nI x) :: rest)) :=
  lv_icmp_le hexec hb hdg ht (fun h => kt (by simp only [nI_eq hx hy, nI_ltI hx hy, nI_ltI hy hx, nI_leI hx hy, nI_leI hy hx] at h; omega)) (fun h => kf (by simp only [nI_eq hx hy, nI_ltI hx hy, nI_ltI hy hx, nI_leI hx hy, nI_leI hy hx] at h; omega))
theorem fk_zeq (hexec : p.tables.exec = Jvm.exec) (hb : c.code = cc) {x : Nat} (hx : x < 2 ^ 31) {off : Int} {tgt : Nat} (hdg : decode cc pc = .ok (.ifCond .eq off, 3)) (ht : (pc : Int) + off = (tgt : Int))
    (kt : x = 0 → W p l e R s m args below meth c H locs cells slots Q (F0 m tgt ls rest)) (kf : 0 < x → W p l e R s m args below meth c H locs cells slots Q (F0 m (pc + 3) ls rest)) : W p l e R s m args below meth c H locs cells slots Q (F0 m pc ls (.int (nI x) :: rest)) :=
  have hy : (0 : Nat) < 2 ^ 31 := by decide
  lv_if_eq hexec hb hdg ht (fun h => kt (by rw [← nI_0] at h; simp only [nI_eq hx hy, nI_ltI hx hy, nI_ltI hy hx, nI_leI hx hy, nI_leI hy hx] at h; omega)) (fun h => kf (by rw [← nI_0] at h; simp only [nI_eq hx hy, nI_ltI hx hy, nI_ltI hy hx, nI_leI hx hy, nI_leI hy hx] at h; omega))
theorem fk_zne (hexec : p.tables.exec = Jvm.exec) (hb : c.code = cc) {x : Nat} (hx : x < 2 ^ 31) {off : Int} {tgt : Nat} (hdg : decode cc pc = .ok (.ifCond .ne off, 3)) (ht : (pc : Int) + off = (tgt : Int))
    (kt : 0 < x → W p l e R s m args below meth c H locs cells slots Q (F0 m tgt ls rest)) (kf : x = 0 → W p l e R s m args below meth c H locs cells slots Q (F0 m (pc + 3) ls rest)) : W p l e R s m args below meth c H locs cells slots Q (F0 m pc ls (.int (nI x) :: rest)) :=
  have hy : (0 : Nat) < 2 ^ 31 := by decide
  lv_if_ne hexec hb hdg ht (fun h => kt (by rw [← nI_0] at h; simp only [nI_eq hx hy, nI_ltI hx hy, nI_ltI hy hx, nI_leI hx hy, nI_leI hy hx] at h; omega)) (fun h => kf (by rw [← nI_0] at h; simp only [nI_eq hx hy, nI_ltI hx hy, nI_ltI hy hx, nI_leI hx hy, nI_leI hy hx] at h; omega))
theorem fk_zgt (hexec : p.tables.exec = Jvm.exec) (hb : c.code = cc) {x : Nat} (hx : x < 2 ^ 31) {off : Int} {tgt : Nat} (hdg : decode cc pc = .ok (.ifCond .gt off, 3)) (ht : (pc : Int) + off = (tgt : Int))
    (kt : 0 < x → W p l e R s m args below meth c H locs cells slots Q (F0 m tgt ls rest)) (kf : x = 0 → W p l e R s m args below meth c H locs cells slots Q (F0 m (pc + 3) ls rest)) : W p l e R s m args below meth c H locs cells slots Q (F0 m pc ls (.int (nI x) :: rest)) :=
  have hy : (0 : Nat) < 2 ^ 31 := by decide
  lv_if_gt hexec hb hdg ht (fun h => kt (by rw [← nI_0] at h; simp only [nI_eq hx hy, nI_ltI hx hy, nI_ltI hy hx, nI_leI hx hy, nI_leI hy hx] at h; omega)) (fun h => kf (by rw [← nI_0] at h; simp only [nI_eq hx hy, nI_ltI hx hy, nI_ltI hy hx, nI_leI hx hy, nI_leI hy hx] at h; omega))
theorem fk_zle (hexec : p.tables.exec = Jvm.exec) (hb : c.code = cc) {x : Nat} (hx : x < 2 ^ 31) {off : Int} {tgt : Nat} (hdg : decode cc pc = .ok (.ifCond .le off, 3)) (ht : (pc : Int) + off = (tgt : Int))
    (kt : x = 0 → W p l e R s m args below meth c H locs cells slots Q (F0 m tgt ls rest)) (kf : 0 < x → W p l e R s m args below meth c H locs cells slots Q (F0 m (pc + 3) ls rest)) : W p l e R s m args below meth c H locs cells slots Q (F0 m pc ls (.int (nI x) :: rest)) :=
  have hy : (0 : Nat) < 2 ^ 31 := by decide
  lv_if_le hexec hb hdg ht (fun h => kt (by rw [← nI_0] at h; simp only [nI_eq hx hy, nI_ltI hx hy, nI_ltI hy hx, nI_leI hx hy, nI_leI hy hx] at h; omega)) (fun h => kf (by rw [← nI_0] at h; simp only [nI_eq hx hy, nI_ltI hx hy, nI_ltI hy hx, nI_leI hx hy, nI_leI hy hx] at h; omega))
end FKN
end
section
/-! Expressions as rows of bytes: the parser of the class (a recursion whose fuel is the depth that is left), and the walk with a stack of the reference; they agree. -/
/-- the own bytes of a kind -/
def fk_hd (k : Nat) : Nat := if k = 0 ∨ k = 3 ∨ 15 < k then 2 else 1
/-- how many parts a kind has -/
def fk_ar (k : Nat) : Nat := if k < 4 then 0 else if k < 6 ∨ k = 14 ∨ k = 16 ∨ k = 17 then 1 else if k = 13 then 3 else 2
theorem fk_hd_pos (k : Nat) : 1 ≤ fk_hd k ∧ fk_hd k ≤ 2 := by
  unfold fk_hd; split <;> omega
theorem fk_ar_le (k : Nat) : fk_ar k ≤ 3 := by
  unfold fk_ar; split <;> (try split) <;> (try split) <;> omega
/-- the bytes at x begin an expression, its parts apart -/
abbrev fk_ok (b : Nat → Nat) (n cnt x : Nat) : Prop := x < n ∧ b x ≤ 18 ∧ x + fk_hd (b x) ≤ n ∧ ((b x = 3 ∨ 15 < b x) → b (x + 1) < cnt)
def fk_ps (f : Nat → Option Nat) : Nat → Nat → Option Nat
  | 0, x => some x
  | k + 1, x => match f x with
    | none => none
    | some e => fk_ps f k e
/-- the end of the expression at x, of at most r levels -/
def fk_pe (b : Nat → Nat) (n cnt : Nat) : Nat → Nat → Option Nat
  | 0, _ => none
  | r + 1, x => if fk_ok b n cnt x then fk_ps (fk_pe b n cnt r) (fk_ar (b x)) (x + fk_hd (b x)) else none
/-- expressions stand one behind the other from x on to the end, of so many levels each -/
def fk_Ch (b : Nat → Nat) (n cnt : Nat) : List Nat → Nat → Prop
  | [], x => x = n
  | r :: L, x => ∃ e, fk_pe b n cnt r x = some e ∧ fk_Ch b n cnt L e
theorem fk_ps_Ch {b : Nat → Nat} {n cnt r : Nat} {L : List Nat} : ∀ (k x e : Nat), fk_ps (fk_pe b n cnt r) k x = some e → fk_Ch b n cnt L e → fk_Ch b n cnt (List.replicate k r ++ L) x := by
  intro k
  induction k with
  | zero =>
    intro x e h hc
    simp only [fk_ps, Option.some.injEq] at h
    subst h
    exact hc
  | succ k ih =>
    intro x e h hc
    simp only [fk_ps] at h
    cases hf : fk_pe b n cnt r x with
    | none => rw [hf] at h; cases h
    | some y =>
      rw [hf] at h
      exact ⟨y, hf, ih y e h hc⟩
theorem fk_Ch_ps {b : Nat → Nat} {n cnt r : Nat} {L : List Nat} : ∀ (k x : Nat), fk_Ch b n cnt (List.replicate k r ++ L) x → ∃ e, fk_ps (fk_pe b n cnt r) k x = some e ∧ fk_Ch b n cnt L e := by
  intro k
  induction k with
  | zero => intro x h; exact ⟨x, rfl, h⟩
  | succ k ih =>
    intro x h
    obtain ⟨y, hf, h2⟩ := h
    obtain ⟨e, h3, h4⟩ := ih y h2
    exact ⟨e, by simp only [fk_ps, hf]; exact h3, h4⟩
theorem fk_Ch_step {b : Nat → Nat} {n cnt r x : Nat} {L : List Nat} : fk_Ch b n cnt ((r + 1) :: L) x ↔ fk_ok b n cnt x ∧ fk_Ch b n cnt (List.replicate (fk_ar (b x)) r ++ L) (x + fk_hd (b x)) := by
  constructor
  · rintro ⟨e, h1, h2⟩
    simp only [fk_pe] at h1
    by_cases hk : fk_ok b n cnt x
    · rw [if_pos hk] at h1
      exact ⟨hk, fk_ps_Ch _ _ _ h1 h2⟩
    · rw [if_neg hk] at h1
      cases h1
  · rintro ⟨hk, h⟩
    obtain ⟨e, h1, h2⟩ := fk_Ch_ps _ _ h
    exact ⟨e, by simp only [fk_pe]; rw [if_pos hk]; exact h1, h2⟩
theorem fk_Ch_zero {b : Nat → Nat} {n cnt x : Nat} {L : List Nat} : ¬ fk_Ch b n cnt (0 :: L) x := by
  rintro ⟨e, h, -⟩
  cases h
theorem fk_Ch_le {b : Nat → Nat} {n cnt x : Nat} {L : List Nat} (h : fk_Ch b n cnt L x) : x ≤ n := by
  cases L with
  | nil => exact Nat.le_of_eq h
  | cons r L =>
    cases r with
    | zero => exact absurd h fk_Ch_zero
    | succ r => exact Nat.le_of_lt (fk_Ch_step.mp h).1.1
/-- the stack of levels stays short -/
def fk_Dp : List Nat → Prop
  | [] => True
  | r :: L => L.length + 2 * r ≤ 22 ∧ fk_Dp L
theorem fk_Dp_rep {r : Nat} {L : List Nat} (hL : fk_Dp L) : ∀ k, k ≤ 3 → L.length + 2 * (r + 1) ≤ 22 → fk_Dp (List.replicate k r ++ L) := by
  intro k
  induction k with
  | zero => intro _ _; exact hL
  | succ k ih =>
    intro hk hr
    refine ⟨?_, ih (by omega) hr⟩
    show (List.replicate k r ++ L).length + 2 * r ≤ 22
    rw [List.length_append, List.length_replicate]
    omega
theorem fk_Dp_step {r k : Nat} {L : List Nat} (hk : k ≤ 3) (h : fk_Dp ((r + 1) :: L)) : fk_Dp (List.replicate k r ++ L) := fk_Dp_rep h.2 k hk h.1
theorem fk_Dp_len {L : List Nat} (h : fk_Dp L) : L.length ≤ 23 := by
  cases L with
  | nil => simp
  | cons r L => have := h.1; simp; omega
/-- more levels left: the same end -/
theorem fk_ps_mono {f g : Nat → Option Nat} (h : ∀ x e, f x = some e → g x = some e) : ∀ k x e, fk_ps f k x = some e → fk_ps g k x = some e := by
  intro k
  induction k with
  | zero => intro x e h1; exact h1
  | succ k ih =>
    intro x e h1
    simp only [fk_ps] at h1 ⊢
    cases hf : f x with
    | none => rw [hf] at h1; cases h1
    | some y =>
      rw [hf] at h1
      rw [h x y hf]
      exact ih y e h1
theorem fk_pe_succ {b : Nat → Nat} {n cnt : Nat} : ∀ r x e, fk_pe b n cnt r x = some e → fk_pe b n cnt (r + 1) x = some e := by
  intro r
  induction r with
  | zero => intro x e h; cases h
  | succ r ih =>
    intro x e h
    simp only [fk_pe] at h
    by_cases hk : fk_ok b n cnt x
    · rw [if_pos hk] at h
      show (if fk_ok b n cnt x then fk_ps (fk_pe b n cnt (r + 1)) (fk_ar (b x)) (x + fk_hd (b x)) else none) = some e
      rw [if_pos hk]
      exact fk_ps_mono ih _ _ _ h
    · rw [if_neg hk] at h
      cases h
theorem fk_pe_mono {b : Nat → Nat} {n cnt r r' x e : Nat} (hr : r ≤ r') (h : fk_pe b n cnt r x = some e) : fk_pe b n cnt r' x = some e := by
  induction hr with
  | refl => exact h
  | step _ ih => exact fk_pe_succ _ _ _ ih
/-- an end lies behind the beginning, and within -/
theorem fk_ps_lt {f : Nat → Option Nat} {n : Nat} (h : ∀ x e, f x = some e → x < e ∧ e ≤ n) : ∀ k x e, x ≤ n → fk_ps f k x = some e → x ≤ e ∧ e ≤ n := by
  intro k
  induction k with
  | zero => intro x e hx h1; simp only [fk_ps, Option.some.injEq] at h1; omega
  | succ k ih =>
    intro x e hx h1
    simp only [fk_ps] at h1
    cases hf : f x with
    | none => rw [hf] at h1; cases h1
    | some y =>
      rw [hf] at h1
      have h2 := h x y hf
      have h3 := ih y e h2.2 h1
      omega
theorem fk_pe_lt {b : Nat → Nat} {n cnt : Nat} : ∀ r x e, fk_pe b n cnt r x = some e → x < e ∧ e ≤ n := by
  intro r
  induction r with
  | zero => intro x e h; cases h
  | succ r ih =>
    intro x e h
    simp only [fk_pe] at h
    by_cases hk : fk_ok b n cnt x
    · rw [if_pos hk] at h
      have h1 := fk_ps_lt ih _ _ _ hk.2.2.1 h
      have h2 := fk_hd_pos (b x)
      omega
    · rw [if_neg hk] at h
      cases h
/-! The tree at a byte, with its ends noted in a row E: at each expression's first byte where it ends, 0 at the other bytes. -/
def fk_Ts (f : Nat → Nat → Prop) : Nat → Nat → Nat → Prop
  | 0, x, e => x = e
  | k + 1, x, e => ∃ y, f x y ∧ fk_Ts f k y e
def fk_T (b : Nat → Nat) (n cnt : Nat) (E : Nat → Int32) : Nat → Nat → Nat → Prop
  | 0, _, _ => False
  | r + 1, x, e => fk_ok b n cnt x ∧ E x = nI e ∧ (fk_hd (b x) = 2 → E (x + 1) = 0) ∧ fk_Ts (fk_T b n cnt E r) (fk_ar (b x)) (x + fk_hd (b x)) e
theorem fk_Ts_lt {f : Nat → Nat → Prop} {n : Nat} (h : ∀ x e, f x e → x < e ∧ e ≤ n) : ∀ k x e, x ≤ n → fk_Ts f k x e → x ≤ e ∧ e ≤ n := by
  intro k
  induction k with
  | zero => intro x e hx h1; simp only [fk_Ts] at h1; omega
  | succ k ih =>
    intro x e hx h1
    obtain ⟨y, h2, h3⟩ := h1
    have h4 := h x y h2
    have h5 := ih y e h4.2 h3
    omega
theorem fk_T_lt {b : Nat → Nat} {n cnt : Nat} {E : Nat → Int32} : ∀ r x e, fk_T b n cnt E r x e → x < e ∧ e ≤ n := by
  intro r
  induction r with
  | zero => intro x e h; exact h.elim
  | succ r ih =>
    intro x e h
    obtain ⟨hk, -, -, h1⟩ := h
    have h2 := fk_Ts_lt ih _ _ _ hk.2.2.1 h1
    have h3 := fk_hd_pos (b x)
    omega
theorem fk_Ts_cong {f f' : Nat → Nat → Prop} {n lo hi : Nat} (hlt : ∀ x e, f x e → x < e ∧ e ≤ n) (h : ∀ x e, lo ≤ x → e ≤ hi → f x e → f' x e) : ∀ k x e, lo ≤ x → e ≤ hi → x ≤ n → fk_Ts f k x e → fk_Ts f' k x e := by
  intro k
  induction k with
  | zero => intro x e _ _ _ h1; exact h1
  | succ k ih =>
    intro x e hx he hn h1
    obtain ⟨y, h2, h3⟩ := h1
    have h4 := hlt x y h2
    have h5 := fk_Ts_lt hlt k y e h4.2 h3
    exact ⟨y, h x y hx (by omega) h2, ih y e (by omega) he h4.2 h3⟩
theorem fk_T_cong {b : Nat → Nat} {n cnt : Nat} {E E' : Nat → Int32} : ∀ r x e, (∀ j, x ≤ j → j < e → E' j = E j) → fk_T b n cnt E r x e → fk_T b n cnt E' r x e := by
  intro r
  induction r with
  | zero => intro x e _ h; exact h
  | succ r ih =>
    intro x e hE h
    have hlt := fk_T_lt _ _ _ h
    obtain ⟨hk, h1, h2, h3⟩ := h
    have h4 := fk_hd_pos (b x)
    have h5 := fk_Ts_lt (fk_T_lt r) _ _ _ hk.2.2.1 h3
    refine ⟨hk, by rw [hE x (Nat.le_refl _) hlt.1]; exact h1, fun h => by rw [hE (x + 1) (by omega) (by omega)]; exact h2 h, ?_⟩
    exact fk_Ts_cong (lo := x + fk_hd (b x)) (hi := e) (fk_T_lt r) (fun y d hy hd h => ih y d (fun j j1 j2 => hE j (by omega) (by omega)) h) _ _ _ (Nat.le_refl _) (Nat.le_refl _) hk.2.2.1 h3
/-- what the class writes into the row of ends -/
def fk_wps (f : Nat → Option Nat) (w : Nat → (Nat → Int32) → Nat → Int32) : Nat → Nat → (Nat → Int32) → Nat → Int32
  | 0, _, E => E
  | k + 1, x, E => match f x with
    | none => w x E
    | some e => fk_wps f w k e (w x E)
def fk_we (b : Nat → Nat) (n cnt : Nat) : Nat → Nat → (Nat → Int32) → Nat → Int32
  | 0, _, E => E
  | r + 1, x, E => if fk_ok b n cnt x then
      match fk_pe b n cnt (r + 1) x with
      | none => fk_wps (fk_pe b n cnt r) (fk_we b n cnt r) (fk_ar (b x)) (x + fk_hd (b x)) E
      | some e => upd (fk_wps (fk_pe b n cnt r) (fk_we b n cnt r) (fk_ar (b x)) (x + fk_hd (b x)) E) x (nI e)
    else E
theorem fk_wps_T {b : Nat → Nat} {n cnt r : Nat} (ih : ∀ x e E, (∀ j, x ≤ j → E j = 0) → fk_pe b n cnt r x = some e → fk_T b n cnt (fk_we b n cnt r x E) r x e ∧ ∀ j, (j < x ∨ e ≤ j) → fk_we b n cnt r x E j = E j) :
    ∀ k x e E, (∀ j, x ≤ j → E j = 0) → x ≤ n → fk_ps (fk_pe b n cnt r) k x = some e → fk_Ts (fk_T b n cnt (fk_wps (fk_pe b n cnt r) (fk_we b n cnt r) k x E) r) k x e ∧ ∀ j, (j < x ∨ e ≤ j) → fk_wps (fk_pe b n cnt r) (fk_we b n cnt r) k x E j = E j := by
  intro k
  induction k with
  | zero =>
    intro x e E _ _ h
    simp only [fk_ps, Option.some.injEq] at h
    exact ⟨h, fun _ _ => rfl⟩
  | succ k ihk =>
    intro x e E hz hx h
    simp only [fk_ps] at h
    cases hf : fk_pe b n cnt r x with
    | none => rw [hf] at h; cases h
    | some y =>
      rw [hf] at h
      have hy := fk_pe_lt _ _ _ hf
      have he := fk_ps_lt (fk_pe_lt r) _ _ _ hy.2 h
      obtain ⟨t1, k1⟩ := ih x y E hz hf
      obtain ⟨t2, k2⟩ := ihk y e (fk_we b n cnt r x E) (fun j hj => by rw [k1 j (Or.inr hj)]; exact hz j (by omega)) hy.2 h
      have hw : fk_wps (fk_pe b n cnt r) (fk_we b n cnt r) (k + 1) x E = fk_wps (fk_pe b n cnt r) (fk_we b n cnt r) k y (fk_we b n cnt r x E) := by
        simp only [fk_wps, hf]
      rw [hw]
      refine ⟨⟨y, fk_T_cong _ _ _ (fun j j1 j2 => k2 j (Or.inl j2)) t1, t2⟩, fun j hj => ?_⟩
      rw [k2 j (by omega), k1 j (by omega)]
theorem fk_we_T {b : Nat → Nat} {n cnt : Nat} : ∀ r x e E, (∀ j, x ≤ j → E j = 0) → fk_pe b n cnt r x = some e → fk_T b n cnt (fk_we b n cnt r x E) r x e ∧ ∀ j, (j < x ∨ e ≤ j) → fk_we b n cnt r x E j = E j := by
  intro r
  induction r with
  | zero => intro x e E _ h; cases h
  | succ r ih =>
    intro x e E hz h
    have hlt := fk_pe_lt _ _ _ h
    have h0 := h
    simp only [fk_pe] at h
    by_cases hk : fk_ok b n cnt x
    · rw [if_pos hk] at h
      have hp := fk_hd_pos (b x)
      obtain ⟨t1, k1⟩ := fk_wps_T ih _ _ _ E (fun j hj => hz j (by omega)) hk.2.2.1 h
      have hc := fk_ps_lt (fk_pe_lt r) _ _ _ hk.2.2.1 h
      have hw : fk_we b n cnt (r + 1) x E = upd (fk_wps (fk_pe b n cnt r) (fk_we b n cnt r) (fk_ar (b x)) (x + fk_hd (b x)) E) x (nI e) := by
        show (if fk_ok b n cnt x then _ else _) = _
        rw [if_pos hk, h0]
      rw [hw]
      refine ⟨⟨hk, pk_us, fun h2 => ?_, ?_⟩, fun j hj => ?_⟩
      · rw [pk_un (by omega), k1 (x + 1) (by omega)]
        exact hz _ (by omega)
      · exact fk_Ts_cong (lo := x + fk_hd (b x)) (hi := e) (fk_T_lt r) (fun y d hy hd h => fk_T_cong _ _ _ (fun j j1 j2 => pk_un (by omega)) h) _ _ _ (Nat.le_refl _) (Nat.le_refl _) hk.2.2.1 t1
      · rw [pk_un (by omega), k1 j (by omega)]
    · rw [if_neg hk] at h
      cases h
/-- trees one behind the other, to the end -/
def fk_CT (b : Nat → Nat) (n cnt : Nat) (E : Nat → Int32) : List Nat → Nat → Prop
  | [], x => x = n
  | r :: L, x => ∃ e, fk_T b n cnt E r x e ∧ fk_CT b n cnt E L e
theorem fk_Ts_CT {b : Nat → Nat} {n cnt r : Nat} {E : Nat → Int32} {L : List Nat} : ∀ (k x e : Nat), fk_Ts (fk_T b n cnt E r) k x e → fk_CT b n cnt E L e → fk_CT b n cnt E (List.replicate k r ++ L) x := by
  intro k
  induction k with
  | zero => intro x e h hc; simp only [fk_Ts] at h; subst h; exact hc
  | succ k ih =>
    intro x e h hc
    obtain ⟨y, h1, h2⟩ := h
    exact ⟨y, h1, ih y e h2 hc⟩
theorem fk_CT_le {b : Nat → Nat} {n cnt x : Nat} {E : Nat → Int32} {L : List Nat} (h : fk_CT b n cnt E L x) : x ≤ n := by
  cases L with
  | nil => exact Nat.le_of_eq h
  | cons r L =>
    obtain ⟨e, h1, -⟩ := h
    have := fk_T_lt _ _ _ h1
    omega
theorem fk_CT_step {b : Nat → Nat} {n cnt x r : Nat} {E : Nat → Int32} {L : List Nat} (h : fk_CT b n cnt E (r :: L) x) : ∃ q e, r = q + 1 ∧ fk_ok b n cnt x ∧ E x = nI e ∧ x < e ∧ e ≤ n ∧ (fk_hd (b x) = 2 → E (x + 1) = 0) ∧ fk_CT b n cnt E L e ∧ fk_Ts (fk_T b n cnt E q) (fk_ar (b x)) (x + fk_hd (b x)) e ∧ fk_CT b n cnt E (List.replicate (fk_ar (b x)) q ++ L) (x + fk_hd (b x)) := by
  obtain ⟨e, h1, h2⟩ := h
  have hlt := fk_T_lt _ _ _ h1
  cases r with
  | zero => exact h1.elim
  | succ q =>
    obtain ⟨hk, a1, a2, a3⟩ := h1
    exact ⟨q, e, rfl, hk, a1, hlt.1, hlt.2, a2, h2, a3, fk_Ts_CT _ _ _ a3 h2⟩
/-! Which flows wait for which: the closure by rounds (Warshall), and that any other order of the same unions comes to it. -/
/-- paths whose inner places lie under k -/
def fk_wp (R : Nat → Nat → Prop) : Nat → Nat → Nat → Prop
  | 0, a, b => R a b
  | k + 1, a, b => fk_wp R k a b ∨ (fk_wp R k a k ∧ fk_wp R k k b)
theorem fk_wp_mono {R : Nat → Nat → Prop} {k a b : Nat} (h : fk_wp R k a b) : fk_wp R (k + 1) a b := Or.inl h
theorem fk_wp_le {R : Nat → Nat → Prop} {k k' a b : Nat} (hk : k ≤ k') (h : fk_wp R k a b) : fk_wp R k' a b := by
  induction hk with
  | refl => exact h
  | step _ ih => exact Or.inl ih
/-- through a place under k it goes on -/
theorem fk_wp_via {R : Nat → Nat → Prop} : ∀ k j, j < k → ∀ a b, fk_wp R k a j → fk_wp R k j b → fk_wp R k a b := by
  intro k
  induction k with
  | zero => intro j hj; omega
  | succ k ih =>
    intro j hj a b h1 h2
    by_cases hjk : j = k
    · subst hjk
      have g1 : fk_wp R j a j := h1.elim id (fun h => h.1)
      have g2 : fk_wp R j j b := h2.elim id (fun h => h.2)
      exact Or.inr ⟨g1, g2⟩
    · have hj2 : j < k := by omega
      rcases h1 with h1 | ⟨h1, h1'⟩
      · rcases h2 with h2 | ⟨h2, h2'⟩
        · exact Or.inl (ih j hj2 a b h1 h2)
        · exact Or.inr ⟨ih j hj2 a k h1 h2, h2'⟩
      · rcases h2 with h2 | ⟨h2, h2'⟩
        · exact Or.inr ⟨h1, ih j hj2 k b h1' h2⟩
        · exact Or.inr ⟨h1, h2'⟩
/-- the closure is the least -/
theorem fk_wp_least {R S : Nat → Nat → Prop} (h0 : ∀ a b, R a b → S a b) (ht : ∀ a j b, S a j → S j b → S a b) : ∀ k a b, fk_wp R k a b → S a b := by
  intro k
  induction k with
  | zero => intro a b h; exact h0 a b h
  | succ k ih =>
    intro a b h
    rcases h with h | ⟨h1, h2⟩
    · exact ih a b h
    · exact ht a k b (ih a k h1) (ih k b h2)
end
section
/-! Kinds of cells; small rows; decode rows and contracts of the static helpers. Written by wip/gen. -/
theorem kd_0 : fk_kd 0 = 0 := by decide +kernel
theorem kd_1 : fk_kd 1 = 1 := by decide +kernel
theorem kd_2 : fk_kd 2 = 2 := by decide +kernel
theorem kd_75 : fk_kd 75 = 6 := by decide +kernel
theorem kd_76 : fk_kd 76 = 7 := by decide +kernel
theorem kd_77 : fk_kd 77 = 7 := by decide +kernel
theorem kd_78 : fk_kd 78 = 7 := by decide +kernel
theorem kd_79 : fk_kd 79 = 8 := by decide +kernel
theorem kd_80 : fk_kd 80 = 5 := by decide +kernel
theorem kd_81 : fk_kd 81 = 9 := by decide +kernel
theorem kd_82 : fk_kd 82 = 10 := by decide +kernel
theorem kd_83 : fk_kd 83 = 11 := by decide +kernel
theorem kd_84 : fk_kd 84 = 4 := by decide +kernel
theorem kd_85 : fk_kd 85 = 5 := by decide +kernel
theorem kd_86 : fk_kd 86 = 5 := by decide +kernel
theorem kd_87 : fk_kd 87 = 5 := by decide +kernel
theorem kd_88 : fk_kd 88 = 5 := by decide +kernel
theorem kd_89 : fk_kd 89 = 12 := by decide +kernel
theorem kd_90 : fk_kd 90 = 13 := by decide +kernel
theorem kd_91 : fk_kd 91 = 13 := by decide +kernel
theorem kd_92 : fk_kd 92 = 7 := by decide +kernel
theorem kd_93 : fk_kd 93 = 7 := by decide +kernel
theorem kd_94 : fk_kd 94 = 7 := by decide +kernel
theorem kd_95 : fk_kd 95 = 7 := by decide +kernel
theorem kd_96 : fk_kd 96 = 13 := by decide +kernel
theorem kd_97 : fk_kd 97 = 7 := by decide +kernel
theorem kd_98 : fk_kd 98 = 7 := by decide +kernel
theorem kd_99 : fk_kd 99 = 7 := by decide +kernel
theorem kd_100 : fk_kd 100 = 14 := by decide +kernel
theorem kd_101 : fk_kd 101 = 14 := by decide +kernel
theorem kd_102 : fk_kd 102 = 14 := by decide +kernel
theorem kd_103 : fk_kd 103 = 14 := by decide +kernel
theorem kd_104 : fk_kd 104 = 14 := by decide +kernel
theorem kd_105 : fk_kd 105 = 15 := by decide +kernel
theorem kd_106 : fk_kd 106 = 5 := by decide +kernel
theorem kd_107 : fk_kd 107 = 5 := by decide +kernel
theorem kd_108 : fk_kd 108 = 7 := by decide +kernel
theorem kd_109 : fk_kd 109 = 16 := by decide +kernel
theorem kd_110 : fk_kd 110 = 17 := by decide +kernel
/-- x is the cell of an expression; its four rows lie behind it -/
def fk_X (x : Nat) : Prop := x = 84 ∨ ∃ i, i < 12 ∧ x = 4 + 6 * i
theorem fk_Xlt {x : Nat} (h : fk_X x) : x + 4 < 89 := by
  rcases h with rfl | ⟨i, hi, rfl⟩ <;> omega
theorem fk_Xb {x : Nat} (h : fk_X x) : x < 2 ^ 31 := by
  have := fk_Xlt h
  omega
theorem fk_kf {j : Nat} (h : j < 12) : fk_kd (3 + 6 * j) = 3 := by
  revert j
  decide +kernel
theorem fk_kxA : ∀ i, i < 12 → fk_kd (4 + 6 * i) = 4 ∧ fk_kd (4 + 6 * i + 1) = 5 ∧ fk_kd (4 + 6 * i + 2) = 5 ∧ fk_kd (4 + 6 * i + 3) = 5 ∧ fk_kd (4 + 6 * i + 4) = 5 := by decide +kernel
theorem fk_kxB : fk_kd 84 = 4 ∧ fk_kd (84 + 1) = 5 ∧ fk_kd (84 + 2) = 5 ∧ fk_kd (84 + 3) = 5 ∧ fk_kd (84 + 4) = 5 := by decide +kernel
theorem fk_kxC {x : Nat} (h : fk_X x) : fk_kd x = 4 ∧ fk_kd (x + 1) = 5 ∧ fk_kd (x + 2) = 5 ∧ fk_kd (x + 3) = 5 ∧ fk_kd (x + 4) = 5 := by
  rcases h with rfl | ⟨i, hi, rfl⟩
  · exact fk_kxB
  · exact fk_kxA i hi
theorem fk_kx0 {x : Nat} (h : fk_X x) : fk_kd x = 4 := (fk_kxC h).1
theorem fk_kx1 {x : Nat} (h : fk_X x) : fk_kd (x + 1) = 5 := (fk_kxC h).2.1
theorem fk_kx2 {x : Nat} (h : fk_X x) : fk_kd (x + 2) = 5 := (fk_kxC h).2.2.1
theorem fk_kx3 {x : Nat} (h : fk_X x) : fk_kd (x + 3) = 5 := (fk_kxC h).2.2.2.1
theorem fk_kx4 {x : Nat} (h : fk_X x) : fk_kd (x + 4) = 5 := (fk_kxC h).2.2.2.2
theorem fk_desk {g : fk_G} {ov : Int64} {M : fk_M} {d : Nat} (hd : M 0 4 = nI d) (h : d < 2 ^ 31) : fk_cell g ov 0 (M 0) = .inr (6, [.ref (fk_a g 1), .ref (fk_a g 75), .ref (fk_a g 79), .ref (fk_a g 82), .ref (fk_a g d)]) := by
  refine (congrArg (fk_ce g ov 0 (M 0)) kd_0).trans ?_
  show Sum.inr (6, [_, _, _, _, Value.ref (fk_a g (M 0 4).toNatClampNeg)]) = _
  rw [hd, nI_clamp h]
theorem fk_flow {g : fk_G} {ov : Int64} {M : fk_M} {j q : Nat} (hj : j < 12) (hq : M (3 + 6 * j) 0 = nI q) (h : q < 2 ^ 31) : fk_cell g ov (3 + 6 * j) (M (3 + 6 * j)) = .inr (3, [.ref (fk_a g q), .int (M (3 + 6 * j) 1), .int (M (3 + 6 * j) 2), .int (M (3 + 6 * j) 3), .int (M (3 + 6 * j) 4), .int (M (3 + 6 * j) 5), .int (M (3 + 6 * j) 6)]) := by
  refine (congrArg (fk_ce g ov (3 + 6 * j) (M (3 + 6 * j))) (fk_kf hj)).trans ?_
  show Sum.inr (3, [Value.ref (fk_a g (M (3 + 6 * j) 0).toNatClampNeg), _, _, _, _, _, _]) = _
  rw [hq, nI_clamp h]
theorem fk_b1 {b : Bool} (h : b = true) : nI 1 = nI b.toNat := by rw [h]; rfl
theorem fk_b0 {b : Bool} (h : b = false) : nI 0 = nI b.toNat := by rw [h]; rfl
theorem fk_bl (b : Bool) : b.toNat < 2 ^ 31 := by cases b <;> decide
theorem fk_bf {b : Bool} (h : b.toNat = 0) : b = false := by cases b <;> simp_all
theorem fk_bt {b : Bool} (h : 0 < b.toNat) : b = true := by cases b <;> simp_all
theorem fk_bz (b : Bool) : nI b.toNat = 0 ∨ nI b.toNat = 1 := by cases b <;> decide +kernel
theorem fk_dt {p : Prop} (inst : Decidable p) (h : p) : @decide p inst = true := decide_eq_true h
theorem fk_df {p : Prop} (inst : Decidable p) (h : ¬ p) : @decide p inst = false := decide_eq_false h
section FKL
variable {p : Program} {l : Launch} {e : Env} {R : Room} {s : State} {m : MethodId} {args : Array Value} {below : List Frame} {meth : Method} {c : Code} {H : Heap} {locs : List Loc} {cells slots : Nat} {Q : State → Prop}
variable {cc : ByteArray} {nL : Nat} {own : String} {pc : Nat} {ls : Array Slot} {rest : List Value} {g : fk_G} {ov : Int64} {M : fk_M}
theorem fk_al (S : fk_S p m c cc nL s args own) (E : fk_E g s s.heap) (G : fk_H g ov M s H locs) (k : Nat) (hk : k < 111) {n : Nat} (he : ∀ r, fk_cell g ov k r = .inl (g.2.1 0, n, .inl r)) (hdg : decode cc pc = .ok (.arraylength, 1))
    (kk : W p l e R s m args below meth c H locs cells slots Q (F0 m (pc + 1) ls (.int (nI n) :: rest))) : W p l e R s m args below meth c H locs cells slots Q (F0 m pc ls (.ref (fk_a g k) :: rest)) :=
  va_alen (D := g.1) (x := (n, Sum.inl (M k))) (v := nI n) S.1 S.2.1 E.2.1 G.1 k 0 ((fk_wl_at hk).trans (by rw [he])) rfl rfl hdg kk
theorem fk_idiv (hexec : p.tables.exec = Jvm.exec) (hb : c.code = cc) {x y : Nat} (hx : x < 2 ^ 31) (h0 : 0 < y) (hy : y < 2 ^ 31) (hdg : decode cc pc = .ok (.idiv, 1)) (k : W p l e R s m args below meth c H locs cells slots Q (F0 m (pc + 1) ls (.int (nI (x / y)) :: rest))) : W p l e R s m args below meth c H locs cells slots Q (F0 m pc ls (.int (nI y) :: .int (nI x) :: rest)) := by
  refine lv_idiv hexec hb hdg (nI_ne0 h0 hy) ?_
  rw [pk_div hx h0 hy]
  exact k
theorem fk_irem (hexec : p.tables.exec = Jvm.exec) (hb : c.code = cc) {x y : Nat} (hx : x < 2 ^ 31) (h0 : 0 < y) (hy : y < 2 ^ 31) (hdg : decode cc pc = .ok (.irem, 1)) (k : W p l e R s m args below meth c H locs cells slots Q (F0 m (pc + 1) ls (.int (nI (x % y)) :: rest))) : W p l e R s m args below meth c H locs cells slots Q (F0 m pc ls (.int (nI y) :: .int (nI x) :: rest)) := by
  refine lv_irem hexec hb hdg (nI_ne0 h0 hy) ?_
  rw [pk_rem hx h0 hy]
  exact k
end FKL
theorem d_D_isSampling_0 : decode b_D_isSampling 0 = .ok (.iload_n 0, 1) := by decide +kernel
theorem d_D_isSampling_1 : decode b_D_isSampling 1 = .ok (.bipush 16, 2) := by decide +kernel
theorem d_D_isSampling_3 : decode b_D_isSampling 3 = .ok (.if_icmp .eq 15, 3) := by decide +kernel
theorem d_D_isSampling_6 : decode b_D_isSampling 6 = .ok (.iload_n 0, 1) := by decide +kernel
theorem d_D_isSampling_7 : decode b_D_isSampling 7 = .ok (.bipush 17, 2) := by decide +kernel
theorem d_D_isSampling_9 : decode b_D_isSampling 9 = .ok (.if_icmp .eq 9, 3) := by decide +kernel
theorem d_D_isSampling_12 : decode b_D_isSampling 12 = .ok (.iload_n 0, 1) := by decide +kernel
theorem d_D_isSampling_13 : decode b_D_isSampling 13 = .ok (.bipush 18, 2) := by decide +kernel
theorem d_D_isSampling_15 : decode b_D_isSampling 15 = .ok (.if_icmp .ne 7, 3) := by decide +kernel
theorem d_D_isSampling_18 : decode b_D_isSampling 18 = .ok (.iconst 1, 1) := by decide +kernel
theorem d_D_isSampling_19 : decode b_D_isSampling 19 = .ok (.goto 4, 3) := by decide +kernel
theorem d_D_isSampling_22 : decode b_D_isSampling 22 = .ok (.iconst 0, 1) := by decide +kernel
theorem d_D_isSampling_23 : decode b_D_isSampling 23 = .ok (.ireturn, 1) := by decide +kernel
theorem m_D_isSampling : fk_MS y_D_isSampling b_D_isSampling 1 (some .boolean) 1 := ⟨i_256, i_255, i_1, by decide +kernel⟩
set_option maxHeartbeats 4000000 in
set_option maxRecDepth 100000 in
theorem c_D_isSampling (l : Launch) (g : fk_G) (ov : Int64) (M : fk_M) (k : Nat) (hk : k ≤ 18) : fk_CI l y_D_isSampling b_D_isSampling 1 (some .boolean) (fk_rm 0) g ov M M [.int (nI k)] (nI (decide (15 < k)).toNat) := by
  refine fk_ofI rfl (Nat.le_of_ble_eq_true rfl) ?_
  intro p e s m args below meth c ls S hr hlk E G hl
  have hl : lv_has ls 1 [(0, .int (nI k))] := hl
  refine lv_iload_n S.1 S.2.1 d_D_isSampling_0 rfl (lv_at hl 0 rfl) ?_
  refine lv_bipush (v := nI 16) S.1 S.2.1 d_D_isSampling_1 (by decide +kernel) ?_
  refine fk_ceq (tgt := 18) S.1 S.2.1 (by omega) (by omega) d_D_isSampling_3 rfl (fun hc1 => ?_) (fun hc1 => ?_)
  · refine lv_iconst (v := nI 1) S.1 S.2.1 d_D_isSampling_18 (by decide +kernel) ?_
    refine lv_goto (tgt := 23) S.1 S.2.1 d_D_isSampling_19 rfl ?_
    exact fk_zret S hr hlk E G rfl (fk_b1 (decide_eq_true (by omega))) (fk_bz _) d_D_isSampling_23
  · refine lv_iload_n S.1 S.2.1 d_D_isSampling_6 rfl (lv_at hl 0 rfl) ?_
    refine lv_bipush (v := nI 17) S.1 S.2.1 d_D_isSampling_7 (by decide +kernel) ?_
    refine fk_ceq (tgt := 18) S.1 S.2.1 (by omega) (by omega) d_D_isSampling_9 rfl (fun hc2 => ?_) (fun hc2 => ?_)
    · refine lv_iconst (v := nI 1) S.1 S.2.1 d_D_isSampling_18 (by decide +kernel) ?_
      refine lv_goto (tgt := 23) S.1 S.2.1 d_D_isSampling_19 rfl ?_
      exact fk_zret S hr hlk E G rfl (fk_b1 (decide_eq_true (by omega))) (fk_bz _) d_D_isSampling_23
    · refine lv_iload_n S.1 S.2.1 d_D_isSampling_12 rfl (lv_at hl 0 rfl) ?_
      refine lv_bipush (v := nI 18) S.1 S.2.1 d_D_isSampling_13 (by decide +kernel) ?_
      refine fk_cne (tgt := 22) S.1 S.2.1 (by omega) (by omega) d_D_isSampling_15 rfl (fun hc3 => ?_) (fun hc3 => ?_)
      · refine lv_iconst (v := nI 0) S.1 S.2.1 d_D_isSampling_22 (by decide +kernel) ?_
        exact fk_zret S hr hlk E G rfl (fk_b0 (decide_eq_false (by omega))) (fk_bz _) d_D_isSampling_23
      · refine lv_iconst (v := nI 1) S.1 S.2.1 d_D_isSampling_18 (by decide +kernel) ?_
        refine lv_goto (tgt := 23) S.1 S.2.1 d_D_isSampling_19 rfl ?_
        exact fk_zret S hr hlk E G rfl (fk_b1 (decide_eq_true (by omega))) (fk_bz _) d_D_isSampling_23
theorem d_D_namesFlow_0 : decode b_D_namesFlow 0 = .ok (.iload_n 0, 1) := by decide +kernel
theorem d_D_namesFlow_1 : decode b_D_namesFlow 1 = .ok (.iconst 3, 1) := by decide +kernel
theorem d_D_namesFlow_2 : decode b_D_namesFlow 2 = .ok (.if_icmp .eq 10, 3) := by decide +kernel
theorem d_D_namesFlow_5 : decode b_D_namesFlow 5 = .ok (.iload_n 0, 1) := by decide +kernel
theorem d_D_namesFlow_6 : decode b_D_namesFlow 6 = .ok (.invokestatic 171, 3) := by decide +kernel
theorem d_D_namesFlow_9 : decode b_D_namesFlow 9 = .ok (.ifCond .eq 7, 3) := by decide +kernel
theorem d_D_namesFlow_12 : decode b_D_namesFlow 12 = .ok (.iconst 1, 1) := by decide +kernel
theorem d_D_namesFlow_13 : decode b_D_namesFlow 13 = .ok (.goto 4, 3) := by decide +kernel
theorem d_D_namesFlow_16 : decode b_D_namesFlow 16 = .ok (.iconst 0, 1) := by decide +kernel
theorem d_D_namesFlow_17 : decode b_D_namesFlow 17 = .ok (.ireturn, 1) := by decide +kernel
theorem m_D_namesFlow : fk_MS y_D_namesFlow b_D_namesFlow 1 (some .boolean) 1 := ⟨i_253, i_252, i_1, by decide +kernel⟩
set_option maxHeartbeats 4000000 in
set_option maxRecDepth 100000 in
theorem c_D_namesFlow (l : Launch) (g : fk_G) (ov : Int64) (M : fk_M) (k : Nat) (hk : k ≤ 18) : fk_CI l y_D_namesFlow b_D_namesFlow 1 (some .boolean) (fk_rm 1) g ov M M [.int (nI k)] (nI (decide (k = 3 ∨ 15 < k)).toNat) := by
  refine fk_ofI rfl (Nat.le_of_ble_eq_true rfl) ?_
  intro p e s m args below meth c ls S hr hlk E G hl
  have hl : lv_has ls 1 [(0, .int (nI k))] := hl
  refine lv_iload_n S.1 S.2.1 d_D_namesFlow_0 rfl (lv_at hl 0 rfl) ?_
  refine lv_iconst (v := nI 3) S.1 S.2.1 d_D_namesFlow_1 (by decide +kernel) ?_
  refine fk_ceq (tgt := 12) S.1 S.2.1 (by omega) (by omega) d_D_namesFlow_2 rfl (fun hc1 => ?_) (fun hc1 => ?_)
  · refine lv_iconst (v := nI 1) S.1 S.2.1 d_D_namesFlow_12 (by decide +kernel) ?_
    refine lv_goto (tgt := 17) S.1 S.2.1 d_D_namesFlow_13 rfl ?_
    exact fk_zret S hr hlk E G rfl (fk_b1 (decide_eq_true (by omega))) (fk_bz _) d_D_namesFlow_17
  · refine lv_iload_n S.1 S.2.1 d_D_namesFlow_5 rfl (lv_at hl 0 rfl) ?_
    refine fk_csi S E G (rest := []) (c_D_isSampling l g ov M k hk) m_D_isSampling i_254 ⟨rfl, rfl⟩ ⟨by decide, by decide⟩ rfl rfl hl.1 (by decide) d_D_namesFlow_6 ⟨Nat.zero_le _, Nat.zero_le _⟩ (fun H locs G => ?_)
    refine fk_zeq (tgt := 16) S.1 S.2.1 (fk_bl _) d_D_namesFlow_9 rfl (fun hc2 => ?_) (fun hc2 => ?_)
    · have hc2 := of_decide_eq_false (fk_bf hc2)
      refine lv_iconst (v := nI 0) S.1 S.2.1 d_D_namesFlow_16 (by decide +kernel) ?_
      exact fk_zret S hr hlk E G rfl (fk_b0 (decide_eq_false (by omega))) (fk_bz _) d_D_namesFlow_17
    · have hc2 := of_decide_eq_true (fk_bt hc2)
      refine lv_iconst (v := nI 1) S.1 S.2.1 d_D_namesFlow_12 (by decide +kernel) ?_
      refine lv_goto (tgt := 17) S.1 S.2.1 d_D_namesFlow_13 rfl ?_
      exact fk_zret S hr hlk E G rfl (fk_b1 (decide_eq_true (by omega))) (fk_bz _) d_D_namesFlow_17
theorem d_D_clockWhere_0 : decode b_D_clockWhere 0 = .ok (.iconst 2, 1) := by decide +kernel
theorem d_D_clockWhere_1 : decode b_D_clockWhere 1 = .ok (.iload_n 0, 1) := by decide +kernel
theorem d_D_clockWhere_2 : decode b_D_clockWhere 2 = .ok (.imul, 1) := by decide +kernel
theorem d_D_clockWhere_3 : decode b_D_clockWhere 3 = .ok (.iload_n 1, 1) := by decide +kernel
theorem d_D_clockWhere_4 : decode b_D_clockWhere 4 = .ok (.ifCond .eq 7, 3) := by decide +kernel
theorem d_D_clockWhere_7 : decode b_D_clockWhere 7 = .ok (.iconst 1, 1) := by decide +kernel
theorem d_D_clockWhere_8 : decode b_D_clockWhere 8 = .ok (.goto 4, 3) := by decide +kernel
theorem d_D_clockWhere_11 : decode b_D_clockWhere 11 = .ok (.iconst 2, 1) := by decide +kernel
theorem d_D_clockWhere_12 : decode b_D_clockWhere 12 = .ok (.iadd, 1) := by decide +kernel
theorem d_D_clockWhere_13 : decode b_D_clockWhere 13 = .ok (.ireturn, 1) := by decide +kernel
theorem m_D_clockWhere : fk_MS y_D_clockWhere b_D_clockWhere 2 (some .int) 2 := ⟨i_319, i_318, i_1, by decide +kernel⟩
set_option maxHeartbeats 4000000 in
set_option maxRecDepth 100000 in
theorem c_D_clockWhere (l : Launch) (g : fk_G) (ov : Int64) (M : fk_M) (n t : Nat) (ht : t < 2 ^ 31) : fk_CI l y_D_clockWhere b_D_clockWhere 2 (some .int) (fk_rm 0) g ov M M [.int (nI n), .int (nI t)] (nI (2 * n + if t = 0 then 2 else 1)) := by
  refine fk_ofI rfl (Nat.le_of_ble_eq_true rfl) ?_
  intro p e s m args below meth c ls S hr hlk E G hl
  have hl : lv_has ls 2 [(0, .int (nI n)), (1, .int (nI t))] := hl
  refine lv_iconst (v := nI 2) S.1 S.2.1 d_D_clockWhere_0 (by decide +kernel) ?_
  refine lv_iload_n S.1 S.2.1 d_D_clockWhere_1 rfl (lv_at hl 0 rfl) ?_
  refine fk_imul S.1 S.2.1 d_D_clockWhere_2 ?_
  refine lv_iload_n S.1 S.2.1 d_D_clockWhere_3 rfl (lv_at hl 1 rfl) ?_
  refine fk_zeq (tgt := 11) S.1 S.2.1 ht d_D_clockWhere_4 rfl (fun hc1 => ?_) (fun hc1 => ?_)
  · refine lv_iconst (v := nI 2) S.1 S.2.1 d_D_clockWhere_11 (by decide +kernel) ?_
    refine fk_iadd S.1 S.2.1 d_D_clockWhere_12 ?_
    exact fk_iret S hr hlk E G rfl (by rw [if_pos hc1]) d_D_clockWhere_13
  · refine lv_iconst (v := nI 1) S.1 S.2.1 d_D_clockWhere_7 (by decide +kernel) ?_
    refine lv_goto (tgt := 12) S.1 S.2.1 d_D_clockWhere_8 rfl ?_
    refine fk_iadd S.1 S.2.1 d_D_clockWhere_12 ?_
    exact fk_iret S hr hlk E G rfl (by rw [if_neg (by omega)]) d_D_clockWhere_13
theorem d_D_flowBehind_0 : decode b_D_flowBehind 0 = .ok (.iload_n 0, 1) := by decide +kernel
theorem d_D_flowBehind_1 : decode b_D_flowBehind 1 = .ok (.iconst 1, 1) := by decide +kernel
theorem d_D_flowBehind_2 : decode b_D_flowBehind 2 = .ok (.isub, 1) := by decide +kernel
theorem d_D_flowBehind_3 : decode b_D_flowBehind 3 = .ok (.iconst 2, 1) := by decide +kernel
theorem d_D_flowBehind_4 : decode b_D_flowBehind 4 = .ok (.idiv, 1) := by decide +kernel
theorem d_D_flowBehind_5 : decode b_D_flowBehind 5 = .ok (.ireturn, 1) := by decide +kernel
theorem m_D_flowBehind : fk_MS y_D_flowBehind b_D_flowBehind 1 (some .int) 1 := ⟨i_246, i_245, i_1, by decide +kernel⟩
set_option maxHeartbeats 4000000 in
set_option maxRecDepth 100000 in
theorem c_D_flowBehind (l : Launch) (g : fk_G) (ov : Int64) (M : fk_M) (k : Nat) (h0 : 0 < k) (hk : k < 2 ^ 31) : fk_CI l y_D_flowBehind b_D_flowBehind 1 (some .int) (fk_rm 0) g ov M M [.int (nI k)] (nI ((k - 1) / 2)) := by
  refine fk_ofI rfl (Nat.le_of_ble_eq_true rfl) ?_
  intro p e s m args below meth c ls S hr hlk E G hl
  have hl : lv_has ls 1 [(0, .int (nI k))] := hl
  refine lv_iload_n S.1 S.2.1 d_D_flowBehind_0 rfl (lv_at hl 0 rfl) ?_
  refine lv_iconst (v := nI 1) S.1 S.2.1 d_D_flowBehind_1 (by decide +kernel) ?_
  refine fk_isub S.1 S.2.1 (by omega) d_D_flowBehind_2 ?_
  refine lv_iconst (v := nI 2) S.1 S.2.1 d_D_flowBehind_3 (by decide +kernel) ?_
  refine fk_idiv S.1 S.2.1 (by omega) (by decide) (by decide) d_D_flowBehind_4 ?_
  exact fk_iret S hr hlk E G rfl rfl d_D_flowBehind_5
theorem d_D_truth_0 : decode b_D_truth 0 = .ok (.iload_n 0, 1) := by decide +kernel
theorem d_D_truth_1 : decode b_D_truth 1 = .ok (.ifCond .eq 7, 3) := by decide +kernel
theorem d_D_truth_4 : decode b_D_truth 4 = .ok (.iconst 1, 1) := by decide +kernel
theorem d_D_truth_5 : decode b_D_truth 5 = .ok (.goto 4, 3) := by decide +kernel
theorem d_D_truth_8 : decode b_D_truth 8 = .ok (.iconst 0, 1) := by decide +kernel
theorem d_D_truth_9 : decode b_D_truth 9 = .ok (.ireturn, 1) := by decide +kernel
theorem m_D_truth : fk_MS y_D_truth b_D_truth 1 (some .int) 1 := ⟨i_583, i_582, i_1, by decide +kernel⟩
set_option maxHeartbeats 4000000 in
set_option maxRecDepth 100000 in
theorem c_D_truth (l : Launch) (g : fk_G) (ov : Int64) (M : fk_M) (t : Nat) (ht : t ≤ 1) : fk_CI l y_D_truth b_D_truth 1 (some .int) (fk_rm 0) g ov M M [.int (nI t)] (nI t) := by
  refine fk_ofI rfl (Nat.le_of_ble_eq_true rfl) ?_
  intro p e s m args below meth c ls S hr hlk E G hl
  have hl : lv_has ls 1 [(0, .int (nI t))] := hl
  refine lv_iload_n S.1 S.2.1 d_D_truth_0 rfl (lv_at hl 0 rfl) ?_
  refine fk_zeq (tgt := 8) S.1 S.2.1 (by omega) d_D_truth_1 rfl (fun hc1 => ?_) (fun hc1 => ?_)
  · refine lv_iconst (v := nI 0) S.1 S.2.1 d_D_truth_8 (by decide +kernel) ?_
    exact fk_iret S hr hlk E G rfl (by rw [hc1]) d_D_truth_9
  · refine lv_iconst (v := nI 1) S.1 S.2.1 d_D_truth_4 (by decide +kernel) ?_
    refine lv_goto (tgt := 9) S.1 S.2.1 d_D_truth_5 rfl ?_
    exact fk_iret S hr hlk E G rfl (by rw [show t = 1 by omega]) d_D_truth_9
theorem d_A_fill_0 : decode b_A_fill 0 = .ok (.iconst 0, 1) := by decide +kernel
theorem d_A_fill_1 : decode b_A_fill 1 = .ok (.istore_n 2, 1) := by decide +kernel
theorem d_A_fill_2 : decode b_A_fill 2 = .ok (.aload_n 0, 1) := by decide +kernel
theorem d_A_fill_3 : decode b_A_fill 3 = .ok (.arraylength, 1) := by decide +kernel
theorem d_A_fill_4 : decode b_A_fill 4 = .ok (.istore_n 3, 1) := by decide +kernel
theorem d_A_fill_5 : decode b_A_fill 5 = .ok (.iload_n 2, 1) := by decide +kernel
theorem d_A_fill_6 : decode b_A_fill 6 = .ok (.iload_n 3, 1) := by decide +kernel
theorem d_A_fill_7 : decode b_A_fill 7 = .ok (.if_icmp .ge 13, 3) := by decide +kernel
theorem d_A_fill_10 : decode b_A_fill 10 = .ok (.aload_n 0, 1) := by decide +kernel
theorem d_A_fill_11 : decode b_A_fill 11 = .ok (.iload_n 2, 1) := by decide +kernel
theorem d_A_fill_12 : decode b_A_fill 12 = .ok (.iload_n 1, 1) := by decide +kernel
theorem d_A_fill_13 : decode b_A_fill 13 = .ok (.iastore, 1) := by decide +kernel
theorem d_A_fill_14 : decode b_A_fill 14 = .ok (.iinc 2 1, 3) := by decide +kernel
theorem d_A_fill_17 : decode b_A_fill 17 = .ok (.goto (-12), 3) := by decide +kernel
theorem d_A_fill_20 : decode b_A_fill 20 = .ok (.return_, 1) := by decide +kernel
theorem m_A_fill : fk_MS y_A_fill b_A_fill 4 none 2 := ⟨i_227, i_226, i_14, by decide +kernel⟩
/-- the first n places hold v -/
def fk_fl (r : Nat → Int32) (n : Nat) (v : Int32) : Nat → Int32 := fun j => if j < n then v else r j
theorem fk_fl0 (r : Nat → Int32) (v : Int32) : fk_fl r 0 v = r := by
  funext j
  simp [fk_fl]
theorem fk_flS (r : Nat → Int32) (n : Nat) (v : Int32) : upd (fk_fl r n v) n v = fk_fl r (n + 1) v := by
  funext j
  unfold upd fk_fl
  by_cases h : j = n
  · subst h; simp
  · by_cases h2 : j < n
    · rw [if_neg h, if_pos h2, if_pos (by omega)]
    · rw [if_neg h, if_neg h2, if_neg (by omega)]
set_option maxHeartbeats 4000000 in
set_option maxRecDepth 100000 in
theorem c_A_fill (l : Launch) (g : fk_G) (ov : Int64) (M : fk_M) (k n : Nat) (hk : k < 111) (hn : n < 2 ^ 31) (v : Int32) (he : ∀ r, fk_cell g ov k r = .inl (g.2.1 0, n, .inl r)) : fk_CV l y_A_fill b_A_fill 4 (fk_rm 0) g ov M (va_up M k (fk_fl (M k) n v)) [.ref (fk_a g k), .int v] := by
  refine fk_ofV rfl (Nat.le_of_ble_eq_true rfl) ?_
  intro p e s m args below meth c ls S hr hlk E G hl
  have hl : lv_has ls 4 [(0, .ref (fk_a g k)), (1, .int v)] := hl
  refine lv_iconst (v := nI 0) S.1 S.2.1 d_A_fill_0 (by decide +kernel) ?_
  refine lv_istore_n (lv' := [(2, .int (nI 0)), (0, .ref (fk_a g k)), (1, .int v)]) S.1 S.2.1 d_A_fill_1 rfl hl (by decide) rfl (fun ls hl => ?_)
  refine lv_aload_n S.1 S.2.1 d_A_fill_2 rfl (lv_at hl 1 rfl) ?_
  refine fk_al S E G k hk he d_A_fill_3 ?_
  refine lv_istore_n (lv' := [(3, .int (nI n)), (2, .int (nI 0)), (0, .ref (fk_a g k)), (1, .int v)]) S.1 S.2.1 d_A_fill_4 rfl hl (by decide) rfl (fun ls hl => ?_)
  have loop : ∀ (d i : Nat) (H : Heap) (locs : List Loc) (ls : Array Slot), i + d = n → fk_H g ov (va_up M k (fk_fl (M k) i v)) s H locs → lv_has ls 4 [(3, .int (nI n)), (2, .int (nI i)), (0, .ref (fk_a g k)), (1, .int v)] → W p l e (fk_rm 0) s m args below meth c H locs 0 0 (MQ below (va_Qv (fun (_ : Unit) => True) (fun _ t => fk_Wd g ov (va_up M k (fk_fl (M k) n v)) t) (fk_A g)) args s 0 0 (fk_A g)) (F0 m 5 ls []) := by
    intro d
    induction d with
    | zero =>
      intro i H locs ls hi G hl
      refine lv_iload_n S.1 S.2.1 d_A_fill_5 rfl (lv_at hl 1 rfl) ?_
      refine lv_iload_n S.1 S.2.1 d_A_fill_6 rfl (lv_at hl 0 rfl) ?_
      refine fk_cge (tgt := 20) S.1 S.2.1 (by omega) (by omega) d_A_fill_7 rfl (fun hc1 => ?_) (fun hc1 => ?_)
      · have hi : i = n := by omega
        subst hi
        exact fk_vret S hr hlk E G rfl d_A_fill_20
      · exact absurd hi (by omega)
    | succ d ih =>
      intro i H locs ls hi G hl
      refine lv_iload_n S.1 S.2.1 d_A_fill_5 rfl (lv_at hl 1 rfl) ?_
      refine lv_iload_n S.1 S.2.1 d_A_fill_6 rfl (lv_at hl 0 rfl) ?_
      refine fk_cge (tgt := 20) S.1 S.2.1 (by omega) (by omega) d_A_fill_7 rfl (fun hc2 => ?_) (fun hc2 => ?_)
      · exact absurd hi (by omega)
      · refine lv_aload_n S.1 S.2.1 d_A_fill_10 rfl (lv_at hl 2 rfl) ?_
        refine lv_iload_n S.1 S.2.1 d_A_fill_11 rfl (lv_at hl 1 rfl) ?_
        refine lv_iload_n S.1 S.2.1 d_A_fill_12 rfl (lv_at hl 3 rfl) ?_
        refine fk_is S E G k hk he i rfl (by omega) hn d_A_fill_13 (fun H locs G => ?_)
        have hM : va_up (va_up M k (fk_fl (M k) i v)) k (upd (va_up M k (fk_fl (M k) i v) k) i v) = va_up M k (fk_fl (M k) (i + 1) v) := by rw [bx_uu, va_up_self, fk_flS]
        rw [hM] at G
        refine lv_iinc (k := 1) (v := nI (i + 1)) (lv' := [(2, .int (nI (i + 1))), (3, .int (nI n)), (0, .ref (fk_a g k)), (1, .int v)]) S.1 S.2.1 d_A_fill_14 hl rfl (nI_1 i) (by decide) rfl (fun ls hl => ?_)
        refine lv_goto (tgt := 5) S.1 S.2.1 d_A_fill_17 rfl ?_
        exact ih (i + 1) H locs ls (by omega) G (lv_sub hl [1, 0, 2, 3] rfl)
  refine loop n 0 s.heap [] ls (by omega) ?_ (lv_sub hl [0, 1, 2, 3] rfl)
  rw [fk_fl0, show va_up M k (M k) = M from ?_]
  · exact G
  · funext j
    unfold va_up
    by_cases h : j = k
    · rw [if_pos h, h]
    · rw [if_neg h]
end
section
/-! Contracts of Expression (readOne apart), Flow, Network. Written by wip/gen/s_expr.py. -/
theorem fk_nb {v : Int32} (h : v = 0 ∨ v = 1) : narrow .boolean (.int v) = .int v := by rcases h with rfl | rfl <;> rfl
theorem fk_fb {v : Int32} (h : v = 0 ∨ v = 1) : fits .boolean (.int v) = true := by rcases h with rfl | rfl <;> rfl
theorem fk_tv0 : ∀ k, k < 19 → (fk_tv 0).getD k 0 = nI (fk_hd k) := by decide +kernel
theorem fk_tv1 : ∀ k, k < 19 → (fk_tv 1).getD k 0 = nI (fk_ar k) := by decide +kernel
theorem fk_upid (M : fk_M) (k : Nat) : va_up M k (M k) = M := by
  funext j
  unfold va_up
  by_cases h : j = k
  · rw [if_pos h, h]
  · rw [if_neg h]
theorem d_E_append_0 : decode b_E_append 0 = .ok (.aload_n 0, 1) := by decide +kernel
theorem d_E_append_1 : decode b_E_append 1 = .ok (.getfield 9, 3) := by decide +kernel
theorem d_E_append_4 : decode b_E_append 4 = .ok (.aload_n 0, 1) := by decide +kernel
theorem d_E_append_5 : decode b_E_append 5 = .ok (.getfield 24, 3) := by decide +kernel
theorem d_E_append_8 : decode b_E_append 8 = .ok (.iload_n 1, 1) := by decide +kernel
theorem d_E_append_9 : decode b_E_append 9 = .ok (.iastore, 1) := by decide +kernel
theorem d_E_append_10 : decode b_E_append 10 = .ok (.aload_n 0, 1) := by decide +kernel
theorem d_E_append_11 : decode b_E_append 11 = .ok (.dup, 1) := by decide +kernel
theorem d_E_append_12 : decode b_E_append 12 = .ok (.getfield 24, 3) := by decide +kernel
theorem d_E_append_15 : decode b_E_append 15 = .ok (.iconst 1, 1) := by decide +kernel
theorem d_E_append_16 : decode b_E_append 16 = .ok (.iadd, 1) := by decide +kernel
theorem d_E_append_17 : decode b_E_append 17 = .ok (.putfield 24, 3) := by decide +kernel
theorem d_E_append_20 : decode b_E_append 20 = .ok (.return_, 1) := by decide +kernel
theorem m_E_append : fk_MI y_E_append b_E_append 2 none 1 := ⟨i_475, i_474, fk_mp (q := (y_E_append, 5)) (by decide +kernel), i_4, by decide +kernel⟩
set_option maxHeartbeats 4000000 in
set_option maxRecDepth 100000 in
theorem c_E_append (l : Launch) (g : fk_G) (ov : Int64) (M : fk_M) (x : Nat) (hX : fk_X x) (n : Nat) (hn : M x 4 = nI n) (h40 : n < 40) (v : Int32) : fk_CV l y_E_append b_E_append 2 (fk_rm 0) g ov M (va_up (va_up M (x + 1) (upd (M (x + 1)) n v)) x (upd (M x) 4 (nI (n + 1)))) [.ref (fk_a g x), .int v] := by
  refine fk_ofV rfl (Nat.le_of_ble_eq_true rfl) ?_
  intro p e s m args below meth c ls S hr hlk E G hl
  have hl : lv_has ls 2 [(0, .ref (fk_a g x)), (1, .int v)] := hl
  refine lv_aload_n S.1 S.2.1 d_E_append_0 rfl (lv_at hl 0 rfl) ?_
  refine fk_gf S E G x (by have := fk_Xlt hX; omega) (v := .ref (fk_a g (x + 1))) (congrArg (fk_ce g ov x (M x)) (fk_kx0 hX)) rfl 0 (by decide) rfl i_43 rfl d_E_append_1 ?_
  refine lv_aload_n S.1 S.2.1 d_E_append_4 rfl (lv_at hl 0 rfl) ?_
  refine fk_gf S E G x (by have := fk_Xlt hX; omega) (v := .int (M x 4)) (congrArg (fk_ce g ov x (M x)) (fk_kx0 hX)) rfl 4 (by decide) rfl i_56 rfl d_E_append_5 ?_
  rw [hn]
  refine lv_iload_n S.1 S.2.1 d_E_append_8 rfl (lv_at hl 1 rfl) ?_
  refine fk_is S E G (x + 1) (by have := fk_Xlt hX; omega) (fun r => congrArg (fk_ce g ov (x + 1) r) (fk_kx1 hX)) n rfl (by omega) (by decide) d_E_append_9 (fun H locs G => ?_)
  obtain ⟨M1, hM1⟩ : ∃ z : fk_M, z = va_up M (x + 1) (upd (M (x + 1)) n v) := ⟨_, rfl⟩
  rw [← hM1] at G
  have hx1 : M1 x = M x := by rw [hM1, va_up_ne _ _ (by omega)]
  refine lv_aload_n S.1 S.2.1 d_E_append_10 rfl (lv_at hl 0 rfl) ?_
  refine lv_dup S.1 S.2.1 d_E_append_11 rfl ?_
  refine fk_gf S E G x (by have := fk_Xlt hX; omega) (v := .int (M1 x 4)) (congrArg (fk_ce g ov x (M1 x)) (fk_kx0 hX)) rfl 4 (by decide) rfl i_56 rfl d_E_append_12 ?_
  rw [hx1, hn]
  refine lv_iconst (v := nI 1) S.1 S.2.1 d_E_append_15 (by decide +kernel) ?_
  refine fk_iadd S.1 S.2.1 d_E_append_16 ?_
  refine fk_pf S E G x (by have := fk_Xlt hX; omega) (congrArg (fk_ce g ov x (M1 x)) (fk_kx0 hX)) rfl 4 (by decide) rfl i_56 (upd (M1 x) 4 (nI (n + 1))) (congrArg (fk_ce g ov x (upd (M1 x) 4 (nI (n + 1)))) (fk_kx0 hX)) rfl (ty := (.int)) (by decide +kernel) rfl rfl (Nat.le_of_ble_eq_true rfl) d_E_append_17 (fun H locs G => ?_)
  obtain ⟨M2, hM2⟩ : ∃ z : fk_M, z = va_up M1 x (upd (M1 x) 4 (nI (n + 1))) := ⟨_, rfl⟩
  rw [← hM2] at G
  exact fk_vret S hr hlk E G (by rw [hM2, hx1, hM1]) d_E_append_20
theorem d_E_beginsAt_0 : decode b_E_beginsAt 0 = .ok (.aload_n 0, 1) := by decide +kernel
theorem d_E_beginsAt_1 : decode b_E_beginsAt 1 = .ok (.getfield 15, 3) := by decide +kernel
theorem d_E_beginsAt_4 : decode b_E_beginsAt 4 = .ok (.iload_n 1, 1) := by decide +kernel
theorem d_E_beginsAt_5 : decode b_E_beginsAt 5 = .ok (.iaload, 1) := by decide +kernel
theorem d_E_beginsAt_6 : decode b_E_beginsAt 6 = .ok (.ifCond .le 7, 3) := by decide +kernel
theorem d_E_beginsAt_9 : decode b_E_beginsAt 9 = .ok (.iconst 1, 1) := by decide +kernel
theorem d_E_beginsAt_10 : decode b_E_beginsAt 10 = .ok (.goto 4, 3) := by decide +kernel
theorem d_E_beginsAt_13 : decode b_E_beginsAt 13 = .ok (.iconst 0, 1) := by decide +kernel
theorem d_E_beginsAt_14 : decode b_E_beginsAt 14 = .ok (.ireturn, 1) := by decide +kernel
theorem m_E_beginsAt : fk_MI y_E_beginsAt b_E_beginsAt 2 (some .boolean) 1 := ⟨i_250, i_249, fk_mp (q := (y_E_beginsAt, 5)) (by decide +kernel), i_4, by decide +kernel⟩
set_option maxHeartbeats 4000000 in
set_option maxRecDepth 100000 in
theorem c_E_beginsAt (l : Launch) (g : fk_G) (ov : Int64) (M : fk_M) (x : Nat) (hX : fk_X x) (i : Nat) (hi : i < 40) : fk_CI l y_E_beginsAt b_E_beginsAt 2 (some .boolean) (fk_rm 0) g ov M M [.ref (fk_a g x), .int (nI i)] (nI (decide (0 < M (x + 2) i)).toNat) := by
  refine fk_ofI rfl (Nat.le_of_ble_eq_true rfl) ?_
  intro p e s m args below meth c ls S hr hlk E G hl
  have hl : lv_has ls 2 [(0, .ref (fk_a g x)), (1, .int (nI i))] := hl
  refine lv_aload_n S.1 S.2.1 d_E_beginsAt_0 rfl (lv_at hl 0 rfl) ?_
  refine fk_gf S E G x (by have := fk_Xlt hX; omega) (v := .ref (fk_a g (x + 2))) (congrArg (fk_ce g ov x (M x)) (fk_kx0 hX)) rfl 1 (by decide) rfl i_47 rfl d_E_beginsAt_1 ?_
  refine lv_iload_n S.1 S.2.1 d_E_beginsAt_4 rfl (lv_at hl 1 rfl) ?_
  refine fk_ia S E G (x + 2) (by have := fk_Xlt hX; omega) (congrArg (fk_ce g ov (x + 2) (M (x + 2))) (fk_kx2 hX)) i rfl (by omega) (by decide) (v := M (x + 2) i) rfl d_E_beginsAt_5 ?_
  refine lv_if_le (tgt := 13) S.1 S.2.1 d_E_beginsAt_6 rfl (fun hc1 => ?_) (fun hc1 => ?_)
  · refine lv_iconst (v := nI 0) S.1 S.2.1 d_E_beginsAt_13 (by decide +kernel) ?_
    exact fk_zret S hr hlk E G rfl (fk_b0 (decide_eq_false (Int32.not_lt.mpr hc1))) (fk_bz _) d_E_beginsAt_14
  · refine lv_iconst (v := nI 1) S.1 S.2.1 d_E_beginsAt_9 (by decide +kernel) ?_
    refine lv_goto (tgt := 14) S.1 S.2.1 d_E_beginsAt_10 rfl ?_
    exact fk_zret S hr hlk E G rfl (fk_b1 (decide_eq_true (Int32.not_le.mp hc1))) (fk_bz _) d_E_beginsAt_14
theorem d_E_firstPart_0 : decode b_E_firstPart 0 = .ok (.iload_n 1, 1) := by decide +kernel
theorem d_E_firstPart_1 : decode b_E_firstPart 1 = .ok (.getstatic 38, 3) := by decide +kernel
theorem d_E_firstPart_4 : decode b_E_firstPart 4 = .ok (.aload_n 0, 1) := by decide +kernel
theorem d_E_firstPart_5 : decode b_E_firstPart 5 = .ok (.getfield 9, 3) := by decide +kernel
theorem d_E_firstPart_8 : decode b_E_firstPart 8 = .ok (.iload_n 1, 1) := by decide +kernel
theorem d_E_firstPart_9 : decode b_E_firstPart 9 = .ok (.iaload, 1) := by decide +kernel
theorem d_E_firstPart_10 : decode b_E_firstPart 10 = .ok (.iaload, 1) := by decide +kernel
theorem d_E_firstPart_11 : decode b_E_firstPart 11 = .ok (.iadd, 1) := by decide +kernel
theorem d_E_firstPart_12 : decode b_E_firstPart 12 = .ok (.ireturn, 1) := by decide +kernel
theorem m_E_firstPart : fk_MI y_E_firstPart b_E_firstPart 2 (some .int) 1 := ⟨i_304, i_303, fk_mp (q := (y_E_firstPart, 5)) (by decide +kernel), i_4, by decide +kernel⟩
set_option maxHeartbeats 4000000 in
set_option maxRecDepth 100000 in
theorem c_E_firstPart (l : Launch) (g : fk_G) (ov : Int64) (M : fk_M) (x : Nat) (hX : fk_X x) (i k : Nat) (hi : i < 40) (hk : k < 19) (hb : M (x + 1) i = nI k) : fk_CI l y_E_firstPart b_E_firstPart 2 (some .int) (fk_rm 0) g ov M M [.ref (fk_a g x), .int (nI i)] (nI (i + fk_hd k)) := by
  refine fk_ofI rfl (Nat.le_of_ble_eq_true rfl) ?_
  intro p e s m args below meth c ls S hr hlk E G hl
  have hl : lv_has ls 2 [(0, .ref (fk_a g x)), (1, .int (nI i))] := hl
  refine lv_iload_n S.1 S.2.1 d_E_firstPart_0 rfl (lv_at hl 1 rfl) ?_
  refine fk_gsn S E G 0 (by decide) (List.mem_of_getElem? (i := 51) rfl) d_E_firstPart_1 ?_
  refine lv_aload_n S.1 S.2.1 d_E_firstPart_4 rfl (lv_at hl 0 rfl) ?_
  refine fk_gf S E G x (by have := fk_Xlt hX; omega) (v := .ref (fk_a g (x + 1))) (congrArg (fk_ce g ov x (M x)) (fk_kx0 hX)) rfl 0 (by decide) rfl i_43 rfl d_E_firstPart_5 ?_
  refine lv_iload_n S.1 S.2.1 d_E_firstPart_8 rfl (lv_at hl 1 rfl) ?_
  refine fk_ia S E G (x + 1) (by have := fk_Xlt hX; omega) (congrArg (fk_ce g ov (x + 1) (M (x + 1))) (fk_kx1 hX)) i rfl (by omega) (by decide) (v := nI k) hb d_E_firstPart_9 ?_
  refine fk_ti S E G 0 (by decide) k rfl hk (v := nI (fk_hd k)) (fk_tv0 k hk) d_E_firstPart_10 ?_
  refine fk_iadd S.1 S.2.1 d_E_firstPart_11 ?_
  exact fk_iret S hr hlk E G rfl rfl d_E_firstPart_12
theorem d_E_secondPart_0 : decode b_E_secondPart 0 = .ok (.aload_n 0, 1) := by decide +kernel
theorem d_E_secondPart_1 : decode b_E_secondPart 1 = .ok (.getfield 15, 3) := by decide +kernel
theorem d_E_secondPart_4 : decode b_E_secondPart 4 = .ok (.aload_n 0, 1) := by decide +kernel
theorem d_E_secondPart_5 : decode b_E_secondPart 5 = .ok (.iload_n 1, 1) := by decide +kernel
theorem d_E_secondPart_6 : decode b_E_secondPart 6 = .ok (.invokevirtual 48, 3) := by decide +kernel
theorem d_E_secondPart_9 : decode b_E_secondPart 9 = .ok (.iaload, 1) := by decide +kernel
theorem d_E_secondPart_10 : decode b_E_secondPart 10 = .ok (.ireturn, 1) := by decide +kernel
theorem m_E_secondPart : fk_MI y_E_secondPart b_E_secondPart 2 (some .int) 1 := ⟨i_571, i_570, fk_mp (q := (y_E_secondPart, 5)) (by decide +kernel), i_4, by decide +kernel⟩
set_option maxHeartbeats 4000000 in
set_option maxRecDepth 100000 in
theorem c_E_secondPart (l : Launch) (g : fk_G) (ov : Int64) (M : fk_M) (x : Nat) (hX : fk_X x) (i k : Nat) (hi : i < 40) (hk : k < 19) (hb : M (x + 1) i = nI k) (h1 : i + fk_hd k < 40) : fk_CI l y_E_secondPart b_E_secondPart 2 (some .int) (fk_rm 1) g ov M M [.ref (fk_a g x), .int (nI i)] (M (x + 2) (i + fk_hd k)) := by
  refine fk_ofI rfl (Nat.le_of_ble_eq_true rfl) ?_
  intro p e s m args below meth c ls S hr hlk E G hl
  have hl : lv_has ls 2 [(0, .ref (fk_a g x)), (1, .int (nI i))] := hl
  refine lv_aload_n S.1 S.2.1 d_E_secondPart_0 rfl (lv_at hl 0 rfl) ?_
  refine fk_gf S E G x (by have := fk_Xlt hX; omega) (v := .ref (fk_a g (x + 2))) (congrArg (fk_ce g ov x (M x)) (fk_kx0 hX)) rfl 1 (by decide) rfl i_47 rfl d_E_secondPart_1 ?_
  refine lv_aload_n S.1 S.2.1 d_E_secondPart_4 rfl (lv_at hl 0 rfl) ?_
  refine lv_iload_n S.1 S.2.1 d_E_secondPart_5 rfl (lv_at hl 1 rfl) ?_
  refine fk_cvi S E G x (by have := fk_Xlt hX; omega) (congrArg (fk_ce g ov x (M x)) (fk_kx0 hX)) rfl (rest := [.ref (fk_a g (x + 2))]) (c_E_firstPart l g ov M x hX i k hi hk hb) m_E_firstPart i_572 ⟨rfl, rfl⟩ ⟨by decide, by decide⟩ rfl rfl hl.1 (Nat.le_of_ble_eq_true rfl) d_E_secondPart_6 ⟨Nat.zero_le _, Nat.zero_le _⟩ (fun H locs G => ?_)
  refine fk_ia S E G (x + 2) (by have := fk_Xlt hX; omega) (congrArg (fk_ce g ov (x + 2) (M (x + 2))) (fk_kx2 hX)) (i + fk_hd k) rfl h1 (by decide) (v := M (x + 2) (i + fk_hd k)) rfl d_E_secondPart_9 ?_
  exact fk_iret S hr hlk E G rfl rfl d_E_secondPart_10
theorem d_E_thirdPart_0 : decode b_E_thirdPart 0 = .ok (.aload_n 0, 1) := by decide +kernel
theorem d_E_thirdPart_1 : decode b_E_thirdPart 1 = .ok (.getfield 15, 3) := by decide +kernel
theorem d_E_thirdPart_4 : decode b_E_thirdPart 4 = .ok (.aload_n 0, 1) := by decide +kernel
theorem d_E_thirdPart_5 : decode b_E_thirdPart 5 = .ok (.iload_n 1, 1) := by decide +kernel
theorem d_E_thirdPart_6 : decode b_E_thirdPart 6 = .ok (.invokevirtual 52, 3) := by decide +kernel
theorem d_E_thirdPart_9 : decode b_E_thirdPart 9 = .ok (.iaload, 1) := by decide +kernel
theorem d_E_thirdPart_10 : decode b_E_thirdPart 10 = .ok (.ireturn, 1) := by decide +kernel
theorem m_E_thirdPart : fk_MI y_E_thirdPart b_E_thirdPart 2 (some .int) 1 := ⟨i_576, i_575, fk_mp (q := (y_E_thirdPart, 5)) (by decide +kernel), i_4, by decide +kernel⟩
set_option maxHeartbeats 4000000 in
set_option maxRecDepth 100000 in
theorem c_E_thirdPart (l : Launch) (g : fk_G) (ov : Int64) (M : fk_M) (x : Nat) (hX : fk_X x) (i k : Nat) (hi : i < 40) (hk : k < 19) (hb : M (x + 1) i = nI k) (h1 : i + fk_hd k < 40) (q : Nat) (h2 : M (x + 2) (i + fk_hd k) = nI q) (hq : q < 40) : fk_CI l y_E_thirdPart b_E_thirdPart 2 (some .int) (fk_rm 2) g ov M M [.ref (fk_a g x), .int (nI i)] (M (x + 2) q) := by
  refine fk_ofI rfl (Nat.le_of_ble_eq_true rfl) ?_
  intro p e s m args below meth c ls S hr hlk E G hl
  have hl : lv_has ls 2 [(0, .ref (fk_a g x)), (1, .int (nI i))] := hl
  refine lv_aload_n S.1 S.2.1 d_E_thirdPart_0 rfl (lv_at hl 0 rfl) ?_
  refine fk_gf S E G x (by have := fk_Xlt hX; omega) (v := .ref (fk_a g (x + 2))) (congrArg (fk_ce g ov x (M x)) (fk_kx0 hX)) rfl 1 (by decide) rfl i_47 rfl d_E_thirdPart_1 ?_
  refine lv_aload_n S.1 S.2.1 d_E_thirdPart_4 rfl (lv_at hl 0 rfl) ?_
  refine lv_iload_n S.1 S.2.1 d_E_thirdPart_5 rfl (lv_at hl 1 rfl) ?_
  refine fk_cvi S E G x (by have := fk_Xlt hX; omega) (congrArg (fk_ce g ov x (M x)) (fk_kx0 hX)) rfl (rest := [.ref (fk_a g (x + 2))]) (h2 ▸ c_E_secondPart l g ov M x hX i k hi hk hb h1) m_E_secondPart i_577 ⟨rfl, rfl⟩ ⟨by decide, by decide⟩ rfl rfl hl.1 (Nat.le_of_ble_eq_true rfl) d_E_thirdPart_6 ⟨Nat.zero_le _, Nat.zero_le _⟩ (fun H locs G => ?_)
  refine fk_ia S E G (x + 2) (by have := fk_Xlt hX; omega) (congrArg (fk_ce g ov (x + 2) (M (x + 2))) (fk_kx2 hX)) q rfl hq (by decide) (v := M (x + 2) q) rfl d_E_thirdPart_9 ?_
  exact fk_iret S hr hlk E G rfl rfl d_E_thirdPart_10
theorem d_E_named_0 : decode b_E_named 0 = .ok (.aload_n 0, 1) := by decide +kernel
theorem d_E_named_1 : decode b_E_named 1 = .ok (.getfield 9, 3) := by decide +kernel
theorem d_E_named_4 : decode b_E_named 4 = .ok (.iload_n 1, 1) := by decide +kernel
theorem d_E_named_5 : decode b_E_named 5 = .ok (.iconst 1, 1) := by decide +kernel
theorem d_E_named_6 : decode b_E_named 6 = .ok (.iadd, 1) := by decide +kernel
theorem d_E_named_7 : decode b_E_named 7 = .ok (.iaload, 1) := by decide +kernel
theorem d_E_named_8 : decode b_E_named 8 = .ok (.ireturn, 1) := by decide +kernel
theorem m_E_named : fk_MI y_E_named b_E_named 2 (some .int) 1 := ⟨i_260, i_259, fk_mp (q := (y_E_named, 5)) (by decide +kernel), i_4, by decide +kernel⟩
set_option maxHeartbeats 4000000 in
set_option maxRecDepth 100000 in
theorem c_E_named (l : Launch) (g : fk_G) (ov : Int64) (M : fk_M) (x : Nat) (hX : fk_X x) (i : Nat) (hi : i + 1 < 40) : fk_CI l y_E_named b_E_named 2 (some .int) (fk_rm 0) g ov M M [.ref (fk_a g x), .int (nI i)] (M (x + 1) (i + 1)) := by
  refine fk_ofI rfl (Nat.le_of_ble_eq_true rfl) ?_
  intro p e s m args below meth c ls S hr hlk E G hl
  have hl : lv_has ls 2 [(0, .ref (fk_a g x)), (1, .int (nI i))] := hl
  refine lv_aload_n S.1 S.2.1 d_E_named_0 rfl (lv_at hl 0 rfl) ?_
  refine fk_gf S E G x (by have := fk_Xlt hX; omega) (v := .ref (fk_a g (x + 1))) (congrArg (fk_ce g ov x (M x)) (fk_kx0 hX)) rfl 0 (by decide) rfl i_43 rfl d_E_named_1 ?_
  refine lv_iload_n S.1 S.2.1 d_E_named_4 rfl (lv_at hl 1 rfl) ?_
  refine lv_iconst (v := nI 1) S.1 S.2.1 d_E_named_5 (by decide +kernel) ?_
  refine fk_iadd S.1 S.2.1 d_E_named_6 ?_
  refine fk_ia S E G (x + 1) (by have := fk_Xlt hX; omega) (congrArg (fk_ce g ov (x + 1) (M (x + 1))) (fk_kx1 hX)) (i + 1) rfl (by omega) (by decide) (v := M (x + 1) (i + 1)) rfl d_E_named_7 ?_
  exact fk_iret S hr hlk E G rfl rfl d_E_named_8
theorem d_F_hasEquation_0 : decode b_F_hasEquation 0 = .ok (.aload_n 0, 1) := by decide +kernel
theorem d_F_hasEquation_1 : decode b_F_hasEquation 1 = .ok (.getfield 10, 3) := by decide +kernel
theorem d_F_hasEquation_4 : decode b_F_hasEquation 4 = .ok (.getfield 16, 3) := by decide +kernel
theorem d_F_hasEquation_7 : decode b_F_hasEquation 7 = .ok (.ifCond .le 7, 3) := by decide +kernel
theorem d_F_hasEquation_10 : decode b_F_hasEquation 10 = .ok (.iconst 1, 1) := by decide +kernel
theorem d_F_hasEquation_11 : decode b_F_hasEquation 11 = .ok (.goto 4, 3) := by decide +kernel
theorem d_F_hasEquation_14 : decode b_F_hasEquation 14 = .ok (.iconst 0, 1) := by decide +kernel
theorem d_F_hasEquation_15 : decode b_F_hasEquation 15 = .ok (.ireturn, 1) := by decide +kernel
theorem m_F_hasEquation : fk_MI y_F_hasEquation b_F_hasEquation 1 (some .boolean) 0 := ⟨i_277, i_276, fk_mp (q := (y_F_hasEquation, 7)) (by decide +kernel), i_3, by decide +kernel⟩
set_option maxHeartbeats 4000000 in
set_option maxRecDepth 100000 in
theorem c_F_hasEquation (l : Launch) (g : fk_G) (ov : Int64) (M : fk_M) (j q : Nat) (hj : j < 12) (hq : M (3 + 6 * j) 0 = nI q) (hX : fk_X q) : fk_CI l y_F_hasEquation b_F_hasEquation 1 (some .boolean) (fk_rm 0) g ov M M [.ref (fk_a g (3 + 6 * j))] (nI (decide (0 < M q 4)).toNat) := by
  refine fk_ofI rfl (Nat.le_of_ble_eq_true rfl) ?_
  intro p e s m args below meth c ls S hr hlk E G hl
  have hl : lv_has ls 1 [(0, .ref (fk_a g (3 + 6 * j)))] := hl
  refine lv_aload_n S.1 S.2.1 d_F_hasEquation_0 rfl (lv_at hl 0 rfl) ?_
  refine fk_gf S E G (3 + 6 * j) (by omega) (v := .ref (fk_a g q)) (fk_flow hj hq (fk_Xb hX)) rfl 0 (by decide) rfl i_73 rfl d_F_hasEquation_1 ?_
  refine fk_gn S E G q (by have := fk_Xlt hX; omega) (v := .int (M q 4)) (congrArg (fk_ce g ov q (M q)) (fk_kx0 hX)) rfl 4 (by decide) rfl (List.mem_of_getElem? (i := 8) rfl) rfl d_F_hasEquation_4 ?_
  refine lv_if_le (tgt := 14) S.1 S.2.1 d_F_hasEquation_7 rfl (fun hc1 => ?_) (fun hc1 => ?_)
  · refine lv_iconst (v := nI 0) S.1 S.2.1 d_F_hasEquation_14 (by decide +kernel) ?_
    exact fk_zret S hr hlk E G rfl (fk_b0 (decide_eq_false (Int32.not_lt.mpr hc1))) (fk_bz _) d_F_hasEquation_15
  · refine lv_iconst (v := nI 1) S.1 S.2.1 d_F_hasEquation_10 (by decide +kernel) ?_
    refine lv_goto (tgt := 15) S.1 S.2.1 d_F_hasEquation_11 rfl ?_
    exact fk_zret S hr hlk E G rfl (fk_b1 (decide_eq_true (Int32.not_le.mp hc1))) (fk_bz _) d_F_hasEquation_15
/-- v is the number of one of n flows -/
def fk_hs (v : Int32) (n : Nat) : Bool := decide (¬ v < 0 ∧ ¬ nI n ≤ v)
theorem d_N_has_0 : decode b_N_has 0 = .ok (.iload_n 1, 1) := by decide +kernel
theorem d_N_has_1 : decode b_N_has 1 = .ok (.ifCond .lt 15, 3) := by decide +kernel
theorem d_N_has_4 : decode b_N_has 4 = .ok (.iload_n 1, 1) := by decide +kernel
theorem d_N_has_5 : decode b_N_has 5 = .ok (.aload_n 0, 1) := by decide +kernel
theorem d_N_has_6 : decode b_N_has 6 = .ok (.getfield 18, 3) := by decide +kernel
theorem d_N_has_9 : decode b_N_has 9 = .ok (.if_icmp .ge 7, 3) := by decide +kernel
theorem d_N_has_12 : decode b_N_has 12 = .ok (.iconst 1, 1) := by decide +kernel
theorem d_N_has_13 : decode b_N_has 13 = .ok (.goto 4, 3) := by decide +kernel
theorem d_N_has_16 : decode b_N_has 16 = .ok (.iconst 0, 1) := by decide +kernel
theorem d_N_has_17 : decode b_N_has 17 = .ok (.ireturn, 1) := by decide +kernel
theorem m_N_has : fk_MI y_N_has b_N_has 2 (some .boolean) 1 := ⟨i_369, i_368, fk_mp (q := (y_N_has, 2)) (by decide +kernel), i_2, by decide +kernel⟩
set_option maxHeartbeats 4000000 in
set_option maxRecDepth 100000 in
theorem c_N_has (l : Launch) (g : fk_G) (ov : Int64) (M : fk_M) (v : Int32) (n : Nat) (hn : M 1 1 = nI n) : fk_CI l y_N_has b_N_has 2 (some .boolean) (fk_rm 0) g ov M M [.ref (fk_a g 1), .int v] (nI (fk_hs v n).toNat) := by
  refine fk_ofI rfl (Nat.le_of_ble_eq_true rfl) ?_
  intro p e s m args below meth c ls S hr hlk E G hl
  have hl : lv_has ls 2 [(0, .ref (fk_a g 1)), (1, .int v)] := hl
  refine lv_iload_n S.1 S.2.1 d_N_has_0 rfl (lv_at hl 1 rfl) ?_
  refine lv_if_lt (tgt := 16) S.1 S.2.1 d_N_has_1 rfl (fun hc1 => ?_) (fun hc1 => ?_)
  · refine lv_iconst (v := nI 0) S.1 S.2.1 d_N_has_16 (by decide +kernel) ?_
    exact fk_zret S hr hlk E G rfl (fk_b0 (decide_eq_false (fun q => q.1 hc1))) (fk_bz _) d_N_has_17
  · refine lv_iload_n S.1 S.2.1 d_N_has_4 rfl (lv_at hl 1 rfl) ?_
    refine lv_aload_n S.1 S.2.1 d_N_has_5 rfl (lv_at hl 0 rfl) ?_
    refine fk_gf S E G 1 (by decide) (v := .int (M 1 1)) (congrArg (fk_ce g ov 1 (M 1)) kd_1) rfl 1 (by decide) rfl i_115 rfl d_N_has_6 ?_
    rw [hn]
    refine lv_icmp_ge (tgt := 16) S.1 S.2.1 d_N_has_9 rfl (fun hc2 => ?_) (fun hc2 => ?_)
    · refine lv_iconst (v := nI 0) S.1 S.2.1 d_N_has_16 (by decide +kernel) ?_
      exact fk_zret S hr hlk E G rfl (fk_b0 (decide_eq_false (fun q => q.2 hc2))) (fk_bz _) d_N_has_17
    · refine lv_iconst (v := nI 1) S.1 S.2.1 d_N_has_12 (by decide +kernel) ?_
      refine lv_goto (tgt := 17) S.1 S.2.1 d_N_has_13 rfl ?_
      exact fk_zret S hr hlk E G rfl (fk_b1 (decide_eq_true ⟨hc1, hc2⟩)) (fk_bz _) d_N_has_17
theorem fk_hs_nI {j n : Nat} (hj : j < 2 ^ 31) (hn : n < 2 ^ 31) : fk_hs (nI j) n = decide (j < n) := by
  unfold fk_hs
  by_cases h : j < n
  · rw [decide_eq_true h, decide_eq_true ⟨nI_pos hj, nI_ge h hn⟩]
  · rw [decide_eq_false h, decide_eq_false (fun q => q.2 (nI_le (by omega) hj))]
/-- a clock: the basic one, or one of a boolean flow's two -/
def fk_ic (M : fk_M) (n c : Nat) : Bool := decide ((c - 1) / 2 < n ∧ ¬ M (3 + 6 * ((c - 1) / 2)) 1 = 0)
theorem d_N_isClock_0 : decode b_N_isClock 0 = .ok (.iload_n 1, 1) := by decide +kernel
theorem d_N_isClock_1 : decode b_N_isClock 1 = .ok (.ifCond .gt 13, 3) := by decide +kernel
theorem d_N_isClock_4 : decode b_N_isClock 4 = .ok (.iload_n 1, 1) := by decide +kernel
theorem d_N_isClock_5 : decode b_N_isClock 5 = .ok (.ifCond .ne 7, 3) := by decide +kernel
theorem d_N_isClock_8 : decode b_N_isClock 8 = .ok (.iconst 1, 1) := by decide +kernel
theorem d_N_isClock_9 : decode b_N_isClock 9 = .ok (.goto 4, 3) := by decide +kernel
theorem d_N_isClock_12 : decode b_N_isClock 12 = .ok (.iconst 0, 1) := by decide +kernel
theorem d_N_isClock_13 : decode b_N_isClock 13 = .ok (.ireturn, 1) := by decide +kernel
theorem d_N_isClock_14 : decode b_N_isClock 14 = .ok (.aload_n 0, 1) := by decide +kernel
theorem d_N_isClock_15 : decode b_N_isClock 15 = .ok (.iload_n 1, 1) := by decide +kernel
theorem d_N_isClock_16 : decode b_N_isClock 16 = .ok (.invokestatic 22, 3) := by decide +kernel
theorem d_N_isClock_19 : decode b_N_isClock 19 = .ok (.invokevirtual 26, 3) := by decide +kernel
theorem d_N_isClock_22 : decode b_N_isClock 22 = .ok (.ifCond .eq 22, 3) := by decide +kernel
theorem d_N_isClock_25 : decode b_N_isClock 25 = .ok (.aload_n 0, 1) := by decide +kernel
theorem d_N_isClock_26 : decode b_N_isClock 26 = .ok (.getfield 11, 3) := by decide +kernel
theorem d_N_isClock_29 : decode b_N_isClock 29 = .ok (.iload_n 1, 1) := by decide +kernel
theorem d_N_isClock_30 : decode b_N_isClock 30 = .ok (.invokestatic 22, 3) := by decide +kernel
theorem d_N_isClock_33 : decode b_N_isClock 33 = .ok (.aaload, 1) := by decide +kernel
theorem d_N_isClock_34 : decode b_N_isClock 34 = .ok (.getfield 30, 3) := by decide +kernel
theorem d_N_isClock_37 : decode b_N_isClock 37 = .ok (.ifCond .eq 7, 3) := by decide +kernel
theorem d_N_isClock_40 : decode b_N_isClock 40 = .ok (.iconst 1, 1) := by decide +kernel
theorem d_N_isClock_41 : decode b_N_isClock 41 = .ok (.goto 4, 3) := by decide +kernel
theorem d_N_isClock_44 : decode b_N_isClock 44 = .ok (.iconst 0, 1) := by decide +kernel
theorem d_N_isClock_45 : decode b_N_isClock 45 = .ok (.ireturn, 1) := by decide +kernel
theorem m_N_isClock : fk_MI y_N_isClock b_N_isClock 2 (some .boolean) 1 := ⟨i_364, i_363, fk_mp (q := (y_N_isClock, 2)) (by decide +kernel), i_2, by decide +kernel⟩
set_option maxHeartbeats 4000000 in
set_option maxRecDepth 100000 in
theorem c_N_isClock (l : Launch) (g : fk_G) (ov : Int64) (M : fk_M) (ck : Nat) (h0 : 0 < ck) (hc : ck < 2 ^ 31) (n : Nat) (hn : M 1 1 = nI n) (h12 : n ≤ 12) : fk_CI l y_N_isClock b_N_isClock 2 (some .boolean) (fk_rm 1) g ov M M [.ref (fk_a g 1), .int (nI ck)] (nI (fk_ic M n ck).toNat) := by
  refine fk_ofI rfl (Nat.le_of_ble_eq_true rfl) ?_
  intro p e s m args below meth c ls S hr hlk E G hl
  have hl : lv_has ls 2 [(0, .ref (fk_a g 1)), (1, .int (nI ck))] := hl
  refine lv_iload_n S.1 S.2.1 d_N_isClock_0 rfl (lv_at hl 1 rfl) ?_
  refine fk_zgt (tgt := 14) S.1 S.2.1 hc d_N_isClock_1 rfl (fun hc1 => ?_) (fun hc1 => ?_)
  · refine lv_aload_n S.1 S.2.1 d_N_isClock_14 rfl (lv_at hl 0 rfl) ?_
    refine lv_iload_n S.1 S.2.1 d_N_isClock_15 rfl (lv_at hl 1 rfl) ?_
    refine fk_cti S E G (rest := [.ref (fk_a g 1)]) (c_D_flowBehind l g ov M ck h0 hc) m_D_flowBehind (List.mem_of_getElem? (i := 24) rfl) ⟨rfl, rfl⟩ ⟨by decide, by decide⟩ rfl rfl hl.1 (Nat.le_of_ble_eq_true rfl) d_N_isClock_16 ⟨Nat.zero_le _, Nat.zero_le _⟩ (fun H locs G => ?_)
    refine fk_cvi S E G 1 (by decide) (congrArg (fk_ce g ov 1 (M 1)) kd_1) rfl (rest := []) (fk_hs_nI (j := (ck - 1) / 2) (n := n) (by omega) (by omega) ▸ c_N_has l g ov M (nI ((ck - 1) / 2)) n hn) m_N_has i_366 ⟨rfl, rfl⟩ ⟨by decide, by decide⟩ rfl rfl hl.1 (Nat.le_of_ble_eq_true rfl) d_N_isClock_19 ⟨Nat.zero_le _, Nat.zero_le _⟩ (fun H locs G => ?_)
    refine fk_zeq (tgt := 44) S.1 S.2.1 (fk_bl _) d_N_isClock_22 rfl (fun hc2 => ?_) (fun hc2 => ?_)
    · have hc2 := of_decide_eq_false (fk_bf hc2)
      refine lv_iconst (v := nI 0) S.1 S.2.1 d_N_isClock_44 (by decide +kernel) ?_
      exact fk_zret S hr hlk E G rfl (fk_b0 (decide_eq_false (fun q => hc2 q.1))) (fk_bz _) d_N_isClock_45
    · have hc2 := of_decide_eq_true (fk_bt hc2)
      refine lv_aload_n S.1 S.2.1 d_N_isClock_25 rfl (lv_at hl 0 rfl) ?_
      refine fk_gf S E G 1 (by decide) (v := .ref (fk_a g 2)) (congrArg (fk_ce g ov 1 (M 1)) kd_1) rfl 0 (by decide) rfl i_110 rfl d_N_isClock_26 ?_
      refine lv_iload_n S.1 S.2.1 d_N_isClock_29 rfl (lv_at hl 1 rfl) ?_
      refine fk_cti S E G (rest := [.ref (fk_a g 2)]) (c_D_flowBehind l g ov M ck h0 hc) m_D_flowBehind (List.mem_of_getElem? (i := 24) rfl) ⟨rfl, rfl⟩ ⟨by decide, by decide⟩ rfl rfl hl.1 (Nat.le_of_ble_eq_true rfl) d_N_isClock_30 ⟨Nat.zero_le _, Nat.zero_le _⟩ (fun H locs G => ?_)
      refine fk_rw S E G ((ck - 1) / 2) rfl (by omega) d_N_isClock_33 ?_
      refine fk_gn S E G (3 + 6 * ((ck - 1) / 2)) (by omega) (v := .int (M (3 + 6 * ((ck - 1) / 2)) 1)) (congrArg (fk_ce g ov (3 + 6 * ((ck - 1) / 2)) (M (3 + 6 * ((ck - 1) / 2)))) (fk_kf (show (ck - 1) / 2 < 12 by omega))) rfl 1 (by decide) rfl (List.mem_of_getElem? (i := 17) rfl) rfl d_N_isClock_34 ?_
      refine lv_if_eq (tgt := 44) S.1 S.2.1 d_N_isClock_37 rfl (fun hc3 => ?_) (fun hc3 => ?_)
      · refine lv_iconst (v := nI 0) S.1 S.2.1 d_N_isClock_44 (by decide +kernel) ?_
        exact fk_zret S hr hlk E G rfl (fk_b0 (decide_eq_false (fun q => q.2 hc3))) (fk_bz _) d_N_isClock_45
      · refine lv_iconst (v := nI 1) S.1 S.2.1 d_N_isClock_40 (by decide +kernel) ?_
        refine lv_goto (tgt := 45) S.1 S.2.1 d_N_isClock_41 rfl ?_
        exact fk_zret S hr hlk E G rfl (fk_b1 (decide_eq_true ⟨hc2, hc3⟩)) (fk_bz _) d_N_isClock_45
  · exact absurd hc1 (by omega)
set_option maxHeartbeats 4000000 in
set_option maxRecDepth 100000 in
theorem c_N_isClock0 (l : Launch) (g : fk_G) (ov : Int64) (M : fk_M) (v : Int32) (hv : ¬ 0 < v) : fk_CI l y_N_isClock b_N_isClock 2 (some .boolean) (fk_rm 0) g ov M M [.ref (fk_a g 1), .int v] (nI (decide (v = 0)).toNat) := by
  refine fk_ofI rfl (Nat.le_of_ble_eq_true rfl) ?_
  intro p e s m args below meth c ls S hr hlk E G hl
  have hl : lv_has ls 2 [(0, .ref (fk_a g 1)), (1, .int v)] := hl
  refine lv_iload_n S.1 S.2.1 d_N_isClock_0 rfl (lv_at hl 1 rfl) ?_
  refine lv_if_gt (tgt := 14) S.1 S.2.1 d_N_isClock_1 rfl (fun hc1 => ?_) (fun hc1 => ?_)
  · exact absurd hc1 hv
  · refine lv_iload_n S.1 S.2.1 d_N_isClock_4 rfl (lv_at hl 1 rfl) ?_
    refine lv_if_ne (tgt := 12) S.1 S.2.1 d_N_isClock_5 rfl (fun hc2 => ?_) (fun hc2 => ?_)
    · refine lv_iconst (v := nI 0) S.1 S.2.1 d_N_isClock_12 (by decide +kernel) ?_
      exact fk_zret S hr hlk E G rfl (fk_b0 (decide_eq_false hc2)) (fk_bz _) d_N_isClock_13
    · refine lv_iconst (v := nI 1) S.1 S.2.1 d_N_isClock_8 (by decide +kernel) ?_
      refine lv_goto (tgt := 13) S.1 S.2.1 d_N_isClock_9 rfl ?_
      exact fk_zret S hr hlk E G rfl (fk_b1 (decide_eq_true hc2)) (fk_bz _) d_N_isClock_13
theorem d_N_append_0 : decode b_N_append 0 = .ok (.aload_n 0, 1) := by decide +kernel
theorem d_N_append_1 : decode b_N_append 1 = .ok (.getfield 11, 3) := by decide +kernel
theorem d_N_append_4 : decode b_N_append 4 = .ok (.aload_n 0, 1) := by decide +kernel
theorem d_N_append_5 : decode b_N_append 5 = .ok (.getfield 18, 3) := by decide +kernel
theorem d_N_append_8 : decode b_N_append 8 = .ok (.aaload, 1) := by decide +kernel
theorem d_N_append_9 : decode b_N_append 9 = .ok (.astore 4, 2) := by decide +kernel
theorem d_N_append_11 : decode b_N_append 11 = .ok (.aload 4, 2) := by decide +kernel
theorem d_N_append_13 : decode b_N_append 13 = .ok (.iload_n 1, 1) := by decide +kernel
theorem d_N_append_14 : decode b_N_append 14 = .ok (.putfield 30, 3) := by decide +kernel
theorem d_N_append_17 : decode b_N_append 17 = .ok (.aload 4, 2) := by decide +kernel
theorem d_N_append_19 : decode b_N_append 19 = .ok (.iload_n 2, 1) := by decide +kernel
theorem d_N_append_20 : decode b_N_append 20 = .ok (.putfield 34, 3) := by decide +kernel
theorem d_N_append_23 : decode b_N_append 23 = .ok (.aload 4, 2) := by decide +kernel
theorem d_N_append_25 : decode b_N_append 25 = .ok (.iload_n 3, 1) := by decide +kernel
theorem d_N_append_26 : decode b_N_append 26 = .ok (.putfield 37, 3) := by decide +kernel
theorem d_N_append_29 : decode b_N_append 29 = .ok (.aload_n 0, 1) := by decide +kernel
theorem d_N_append_30 : decode b_N_append 30 = .ok (.dup, 1) := by decide +kernel
theorem d_N_append_31 : decode b_N_append 31 = .ok (.getfield 18, 3) := by decide +kernel
theorem d_N_append_34 : decode b_N_append 34 = .ok (.iconst 1, 1) := by decide +kernel
theorem d_N_append_35 : decode b_N_append 35 = .ok (.iadd, 1) := by decide +kernel
theorem d_N_append_36 : decode b_N_append 36 = .ok (.putfield 18, 3) := by decide +kernel
theorem d_N_append_39 : decode b_N_append 39 = .ok (.aload_n 0, 1) := by decide +kernel
theorem d_N_append_40 : decode b_N_append 40 = .ok (.getfield 18, 3) := by decide +kernel
theorem d_N_append_43 : decode b_N_append 43 = .ok (.iconst 1, 1) := by decide +kernel
theorem d_N_append_44 : decode b_N_append 44 = .ok (.isub, 1) := by decide +kernel
theorem d_N_append_45 : decode b_N_append 45 = .ok (.ireturn, 1) := by decide +kernel
theorem m_N_append : fk_MI y_N_append b_N_append 5 (some .int) 3 := ⟨i_457, i_456, fk_mp (q := (y_N_append, 2)) (by decide +kernel), i_2, by decide +kernel⟩
set_option maxHeartbeats 4000000 in
set_option maxRecDepth 100000 in
theorem c_N_append (l : Launch) (g : fk_G) (ov : Int64) (M : fk_M) (n : Nat) (hn : M 1 1 = nI n) (h12 : n < 12) (vb vc vi : Int32) (hb : vb = 0 ∨ vb = 1) (hi : vi = 0 ∨ vi = 1) : fk_CI l y_N_append b_N_append 5 (some .int) (fk_rm 0) g ov M (va_up (va_up M (3 + 6 * n) (upd (upd (upd (M (3 + 6 * n)) 1 vb) 3 vc) 2 vi)) 1 (upd (M 1) 1 (nI (n + 1)))) [.ref (fk_a g 1), .int vb, .int vc, .int vi] (nI n) := by
  refine fk_ofI rfl (Nat.le_of_ble_eq_true rfl) ?_
  intro p e s m args below meth c ls S hr hlk E G hl
  have hl : lv_has ls 5 [(0, .ref (fk_a g 1)), (1, .int vb), (2, .int vc), (3, .int vi)] := hl
  refine lv_aload_n S.1 S.2.1 d_N_append_0 rfl (lv_at hl 0 rfl) ?_
  refine fk_gf S E G 1 (by decide) (v := .ref (fk_a g 2)) (congrArg (fk_ce g ov 1 (M 1)) kd_1) rfl 0 (by decide) rfl i_110 rfl d_N_append_1 ?_
  refine lv_aload_n S.1 S.2.1 d_N_append_4 rfl (lv_at hl 0 rfl) ?_
  refine fk_gf S E G 1 (by decide) (v := .int (M 1 1)) (congrArg (fk_ce g ov 1 (M 1)) kd_1) rfl 1 (by decide) rfl i_115 rfl d_N_append_5 ?_
  rw [hn]
  refine fk_rw S E G n rfl (by omega) d_N_append_8 ?_
  refine lv_astore (lv' := [(4, .ref (fk_a g (3 + 6 * n))), (0, .ref (fk_a g 1)), (1, .int vb), (2, .int vc), (3, .int vi)]) S.1 S.2.1 d_N_append_9 hl (by decide) rfl (fun ls hl => ?_)
  refine lv_aload S.1 S.2.1 d_N_append_11 (lv_at hl 0 rfl) ?_
  refine lv_iload_n S.1 S.2.1 d_N_append_13 rfl (lv_at hl 2 rfl) ?_
  refine fk_pn S E G (3 + 6 * n) (by omega) (congrArg (fk_ce g ov (3 + 6 * n) (M (3 + 6 * n))) (fk_kf h12)) rfl 1 (by decide) rfl (List.mem_of_getElem? (i := 17) rfl) (upd (M (3 + 6 * n)) 1 vb) (congrArg (fk_ce g ov (3 + 6 * n) (upd (M (3 + 6 * n)) 1 vb)) (fk_kf h12)) rfl (ty := (.boolean)) (by decide +kernel) (fk_nb hb) (fk_fb hb) (Nat.le_of_ble_eq_true rfl) d_N_append_14 (fun H locs G => ?_)
  obtain ⟨M1, hM1⟩ : ∃ z : fk_M, z = va_up M (3 + 6 * n) (upd (M (3 + 6 * n)) 1 vb) := ⟨_, rfl⟩
  rw [← hM1] at G
  refine lv_aload S.1 S.2.1 d_N_append_17 (lv_at hl 0 rfl) ?_
  refine lv_iload_n S.1 S.2.1 d_N_append_19 rfl (lv_at hl 3 rfl) ?_
  refine fk_pn S E G (3 + 6 * n) (by omega) (congrArg (fk_ce g ov (3 + 6 * n) (M1 (3 + 6 * n))) (fk_kf h12)) rfl 3 (by decide) rfl (List.mem_of_getElem? (i := 26) rfl) (upd (M1 (3 + 6 * n)) 3 vc) (congrArg (fk_ce g ov (3 + 6 * n) (upd (M1 (3 + 6 * n)) 3 vc)) (fk_kf h12)) rfl (ty := (.int)) (by decide +kernel) rfl rfl (Nat.le_of_ble_eq_true rfl) d_N_append_20 (fun H locs G => ?_)
  obtain ⟨M2, hM2⟩ : ∃ z : fk_M, z = va_up M1 (3 + 6 * n) (upd (M1 (3 + 6 * n)) 3 vc) := ⟨_, rfl⟩
  rw [← hM2] at G
  refine lv_aload S.1 S.2.1 d_N_append_23 (lv_at hl 0 rfl) ?_
  refine lv_iload_n S.1 S.2.1 d_N_append_25 rfl (lv_at hl 4 rfl) ?_
  refine fk_pn S E G (3 + 6 * n) (by omega) (congrArg (fk_ce g ov (3 + 6 * n) (M2 (3 + 6 * n))) (fk_kf h12)) rfl 2 (by decide) rfl (List.mem_of_getElem? (i := 20) rfl) (upd (M2 (3 + 6 * n)) 2 vi) (congrArg (fk_ce g ov (3 + 6 * n) (upd (M2 (3 + 6 * n)) 2 vi)) (fk_kf h12)) rfl (ty := (.boolean)) (by decide +kernel) (fk_nb hi) (fk_fb hi) (Nat.le_of_ble_eq_true rfl) d_N_append_26 (fun H locs G => ?_)
  obtain ⟨M3, hM3⟩ : ∃ z : fk_M, z = va_up M2 (3 + 6 * n) (upd (M2 (3 + 6 * n)) 2 vi) := ⟨_, rfl⟩
  rw [← hM3] at G
  have hrow : M3 = va_up M (3 + 6 * n) (upd (upd (upd (M (3 + 6 * n)) 1 vb) 3 vc) 2 vi) := by rw [hM3, hM2, bx_uu, va_up_self, hM1, bx_uu, va_up_self]
  have hx1 : M3 1 = M 1 := by rw [hrow, va_up_ne _ _ (by omega)]
  refine lv_aload_n S.1 S.2.1 d_N_append_29 rfl (lv_at hl 1 rfl) ?_
  refine lv_dup S.1 S.2.1 d_N_append_30 rfl ?_
  refine fk_gf S E G 1 (by decide) (v := .int (M3 1 1)) (congrArg (fk_ce g ov 1 (M3 1)) kd_1) rfl 1 (by decide) rfl i_115 rfl d_N_append_31 ?_
  rw [hx1, hn]
  refine lv_iconst (v := nI 1) S.1 S.2.1 d_N_append_34 (by decide +kernel) ?_
  refine fk_iadd S.1 S.2.1 d_N_append_35 ?_
  refine fk_pf S E G 1 (by decide) (congrArg (fk_ce g ov 1 (M3 1)) kd_1) rfl 1 (by decide) rfl i_115 (upd (M3 1) 1 (nI (n + 1))) (congrArg (fk_ce g ov 1 (upd (M3 1) 1 (nI (n + 1)))) kd_1) rfl (ty := (.int)) (by decide +kernel) rfl rfl (Nat.le_of_ble_eq_true rfl) d_N_append_36 (fun H locs G => ?_)
  obtain ⟨M4, hM4⟩ : ∃ z : fk_M, z = va_up M3 1 (upd (M3 1) 1 (nI (n + 1))) := ⟨_, rfl⟩
  rw [← hM4] at G
  have hx2 : M4 1 1 = nI (n + 1) := by rw [hM4, va_up_self, pk_us]
  refine lv_aload_n S.1 S.2.1 d_N_append_39 rfl (lv_at hl 1 rfl) ?_
  refine fk_gf S E G 1 (by decide) (v := .int (M4 1 1)) (congrArg (fk_ce g ov 1 (M4 1)) kd_1) rfl 1 (by decide) rfl i_115 rfl d_N_append_40 ?_
  rw [hx2]
  refine lv_iconst (v := nI 1) S.1 S.2.1 d_N_append_43 (by decide +kernel) ?_
  refine fk_isub S.1 S.2.1 (by omega) d_N_append_44 ?_
  exact fk_iret S hr hlk E G (by rw [hM4, hx1, hrow]) (by rw [Nat.add_sub_cancel]) d_N_append_45
theorem d_N_typeOf_0 : decode b_N_typeOf 0 = .ok (.aload_n 0, 1) := by decide +kernel
theorem d_N_typeOf_1 : decode b_N_typeOf 1 = .ok (.getfield 11, 3) := by decide +kernel
theorem d_N_typeOf_4 : decode b_N_typeOf 4 = .ok (.iload_n 1, 1) := by decide +kernel
theorem d_N_typeOf_5 : decode b_N_typeOf 5 = .ok (.aaload, 1) := by decide +kernel
theorem d_N_typeOf_6 : decode b_N_typeOf 6 = .ok (.getfield 30, 3) := by decide +kernel
theorem d_N_typeOf_9 : decode b_N_typeOf 9 = .ok (.ifCond .eq 7, 3) := by decide +kernel
theorem d_N_typeOf_12 : decode b_N_typeOf 12 = .ok (.iconst 1, 1) := by decide +kernel
theorem d_N_typeOf_13 : decode b_N_typeOf 13 = .ok (.goto 4, 3) := by decide +kernel
theorem d_N_typeOf_16 : decode b_N_typeOf 16 = .ok (.iconst 0, 1) := by decide +kernel
theorem d_N_typeOf_17 : decode b_N_typeOf 17 = .ok (.ireturn, 1) := by decide +kernel
theorem m_N_typeOf : fk_MI y_N_typeOf b_N_typeOf 2 (some .int) 1 := ⟨i_281, i_280, fk_mp (q := (y_N_typeOf, 2)) (by decide +kernel), i_2, by decide +kernel⟩
set_option maxHeartbeats 4000000 in
set_option maxRecDepth 100000 in
theorem c_N_typeOf (l : Launch) (g : fk_G) (ov : Int64) (M : fk_M) (j : Nat) (hj : j < 12) : fk_CI l y_N_typeOf b_N_typeOf 2 (some .int) (fk_rm 0) g ov M M [.ref (fk_a g 1), .int (nI j)] (nI (decide (¬ M (3 + 6 * j) 1 = 0)).toNat) := by
  refine fk_ofI rfl (Nat.le_of_ble_eq_true rfl) ?_
  intro p e s m args below meth c ls S hr hlk E G hl
  have hl : lv_has ls 2 [(0, .ref (fk_a g 1)), (1, .int (nI j))] := hl
  refine lv_aload_n S.1 S.2.1 d_N_typeOf_0 rfl (lv_at hl 0 rfl) ?_
  refine fk_gf S E G 1 (by decide) (v := .ref (fk_a g 2)) (congrArg (fk_ce g ov 1 (M 1)) kd_1) rfl 0 (by decide) rfl i_110 rfl d_N_typeOf_1 ?_
  refine lv_iload_n S.1 S.2.1 d_N_typeOf_4 rfl (lv_at hl 1 rfl) ?_
  refine fk_rw S E G j rfl (by omega) d_N_typeOf_5 ?_
  refine fk_gn S E G (3 + 6 * j) (by omega) (v := .int (M (3 + 6 * j) 1)) (congrArg (fk_ce g ov (3 + 6 * j) (M (3 + 6 * j))) (fk_kf hj)) rfl 1 (by decide) rfl (List.mem_of_getElem? (i := 17) rfl) rfl d_N_typeOf_6 ?_
  refine lv_if_eq (tgt := 16) S.1 S.2.1 d_N_typeOf_9 rfl (fun hc1 => ?_) (fun hc1 => ?_)
  · refine lv_iconst (v := nI 0) S.1 S.2.1 d_N_typeOf_16 (by decide +kernel) ?_
    exact fk_iret S hr hlk E G rfl (fk_b0 (decide_eq_false (fun q => q hc1))) d_N_typeOf_17
  · refine lv_iconst (v := nI 1) S.1 S.2.1 d_N_typeOf_12 (by decide +kernel) ?_
    refine lv_goto (tgt := 17) S.1 S.2.1 d_N_typeOf_13 rfl ?_
    exact fk_iret S hr hlk E G rfl (fk_b1 (decide_eq_true hc1)) d_N_typeOf_17
end
section
/-! Expression.readOne (a recursion over the levels that are left) and isWellFormed. Written by wip/gen/s_read.py. -/
/-- what readOne hands back -/
def fk_rv : Option Nat → Int32
  | none => -1
  | some e => nI e
theorem fk_nm1 {e : Nat} (h : e < 2 ^ 31) : ¬ nI e = -1 := by
  intro q
  have h1 := congrArg Int32.toInt q
  rw [nI_toInt h] at h1
  have h2 : ((-1 : Int32)).toInt = -1 := by decide +kernel
  omega
theorem fk_hd2 {k : Nat} (h : k = 3 ∨ 15 < k) : fk_hd k = 2 := by
  unfold fk_hd
  rw [if_pos (by omega)]
def fk_wx (P : Option Nat) (w : Nat → Int32) (i : Nat) : Nat → Int32 := match P with
  | none => w
  | some e => upd w i (nI e)
theorem fk_pe_no {b : Nat → Nat} {n cnt r x : Nat} (h : ¬ fk_ok b n cnt x) : fk_pe b n cnt (r + 1) x = none := if_neg h
theorem fk_we_no {b : Nat → Nat} {n cnt r x : Nat} {E : Nat → Int32} (h : ¬ fk_ok b n cnt x) : fk_we b n cnt (r + 1) x E = E := if_neg h
theorem d_E_readOne_0 : decode b_E_readOne 0 = .ok (.iload_n 1, 1) := by decide +kernel
theorem d_E_readOne_1 : decode b_E_readOne 1 = .ok (.aload_n 0, 1) := by decide +kernel
theorem d_E_readOne_2 : decode b_E_readOne 2 = .ok (.getfield 24, 3) := by decide +kernel
theorem d_E_readOne_5 : decode b_E_readOne 5 = .ok (.if_icmp .ge 20, 3) := by decide +kernel
theorem d_E_readOne_8 : decode b_E_readOne 8 = .ok (.iload_n 2, 1) := by decide +kernel
theorem d_E_readOne_9 : decode b_E_readOne 9 = .ok (.bipush 10, 2) := by decide +kernel
theorem d_E_readOne_11 : decode b_E_readOne 11 = .ok (.if_icmp .gt 14, 3) := by decide +kernel
theorem d_E_readOne_14 : decode b_E_readOne 14 = .ok (.aload_n 0, 1) := by decide +kernel
theorem d_E_readOne_15 : decode b_E_readOne 15 = .ok (.getfield 9, 3) := by decide +kernel
theorem d_E_readOne_18 : decode b_E_readOne 18 = .ok (.iload_n 1, 1) := by decide +kernel
theorem d_E_readOne_19 : decode b_E_readOne 19 = .ok (.iaload, 1) := by decide +kernel
theorem d_E_readOne_20 : decode b_E_readOne 20 = .ok (.bipush 18, 2) := by decide +kernel
theorem d_E_readOne_22 : decode b_E_readOne 22 = .ok (.if_icmp .le 5, 3) := by decide +kernel
theorem d_E_readOne_25 : decode b_E_readOne 25 = .ok (.iconst (-1), 1) := by decide +kernel
theorem d_E_readOne_26 : decode b_E_readOne 26 = .ok (.ireturn, 1) := by decide +kernel
theorem d_E_readOne_27 : decode b_E_readOne 27 = .ok (.aload_n 0, 1) := by decide +kernel
theorem d_E_readOne_28 : decode b_E_readOne 28 = .ok (.getfield 9, 3) := by decide +kernel
theorem d_E_readOne_31 : decode b_E_readOne 31 = .ok (.iload_n 1, 1) := by decide +kernel
theorem d_E_readOne_32 : decode b_E_readOne 32 = .ok (.iaload, 1) := by decide +kernel
theorem d_E_readOne_33 : decode b_E_readOne 33 = .ok (.istore 4, 2) := by decide +kernel
theorem d_E_readOne_35 : decode b_E_readOne 35 = .ok (.iload_n 1, 1) := by decide +kernel
theorem d_E_readOne_36 : decode b_E_readOne 36 = .ok (.getstatic 38, 3) := by decide +kernel
theorem d_E_readOne_39 : decode b_E_readOne 39 = .ok (.iload 4, 2) := by decide +kernel
theorem d_E_readOne_41 : decode b_E_readOne 41 = .ok (.iaload, 1) := by decide +kernel
theorem d_E_readOne_42 : decode b_E_readOne 42 = .ok (.iadd, 1) := by decide +kernel
theorem d_E_readOne_43 : decode b_E_readOne 43 = .ok (.istore 5, 2) := by decide +kernel
theorem d_E_readOne_45 : decode b_E_readOne 45 = .ok (.iload 5, 2) := by decide +kernel
theorem d_E_readOne_47 : decode b_E_readOne 47 = .ok (.aload_n 0, 1) := by decide +kernel
theorem d_E_readOne_48 : decode b_E_readOne 48 = .ok (.getfield 24, 3) := by decide +kernel
theorem d_E_readOne_51 : decode b_E_readOne 51 = .ok (.if_icmp .gt 23, 3) := by decide +kernel
theorem d_E_readOne_54 : decode b_E_readOne 54 = .ok (.iload 4, 2) := by decide +kernel
theorem d_E_readOne_56 : decode b_E_readOne 56 = .ok (.invokestatic 41, 3) := by decide +kernel
theorem d_E_readOne_59 : decode b_E_readOne 59 = .ok (.ifCond .eq 17, 3) := by decide +kernel
theorem d_E_readOne_62 : decode b_E_readOne 62 = .ok (.aload_n 0, 1) := by decide +kernel
theorem d_E_readOne_63 : decode b_E_readOne 63 = .ok (.getfield 9, 3) := by decide +kernel
theorem d_E_readOne_66 : decode b_E_readOne 66 = .ok (.iload_n 1, 1) := by decide +kernel
theorem d_E_readOne_67 : decode b_E_readOne 67 = .ok (.iconst 1, 1) := by decide +kernel
theorem d_E_readOne_68 : decode b_E_readOne 68 = .ok (.iadd, 1) := by decide +kernel
theorem d_E_readOne_69 : decode b_E_readOne 69 = .ok (.iaload, 1) := by decide +kernel
theorem d_E_readOne_70 : decode b_E_readOne 70 = .ok (.iload_n 3, 1) := by decide +kernel
theorem d_E_readOne_71 : decode b_E_readOne 71 = .ok (.if_icmp .lt 5, 3) := by decide +kernel
theorem d_E_readOne_74 : decode b_E_readOne 74 = .ok (.iconst (-1), 1) := by decide +kernel
theorem d_E_readOne_75 : decode b_E_readOne 75 = .ok (.ireturn, 1) := by decide +kernel
theorem d_E_readOne_76 : decode b_E_readOne 76 = .ok (.iconst 0, 1) := by decide +kernel
theorem d_E_readOne_77 : decode b_E_readOne 77 = .ok (.istore 6, 2) := by decide +kernel
theorem d_E_readOne_79 : decode b_E_readOne 79 = .ok (.iload 6, 2) := by decide +kernel
theorem d_E_readOne_81 : decode b_E_readOne 81 = .ok (.getstatic 45, 3) := by decide +kernel
theorem d_E_readOne_84 : decode b_E_readOne 84 = .ok (.iload 4, 2) := by decide +kernel
theorem d_E_readOne_86 : decode b_E_readOne 86 = .ok (.iaload, 1) := by decide +kernel
theorem d_E_readOne_87 : decode b_E_readOne 87 = .ok (.if_icmp .ge 29, 3) := by decide +kernel
theorem d_E_readOne_90 : decode b_E_readOne 90 = .ok (.aload_n 0, 1) := by decide +kernel
theorem d_E_readOne_91 : decode b_E_readOne 91 = .ok (.iload 5, 2) := by decide +kernel
theorem d_E_readOne_93 : decode b_E_readOne 93 = .ok (.iload_n 2, 1) := by decide +kernel
theorem d_E_readOne_94 : decode b_E_readOne 94 = .ok (.iconst 1, 1) := by decide +kernel
theorem d_E_readOne_95 : decode b_E_readOne 95 = .ok (.iadd, 1) := by decide +kernel
theorem d_E_readOne_96 : decode b_E_readOne 96 = .ok (.iload_n 3, 1) := by decide +kernel
theorem d_E_readOne_97 : decode b_E_readOne 97 = .ok (.invokevirtual 34, 3) := by decide +kernel
theorem d_E_readOne_100 : decode b_E_readOne 100 = .ok (.istore 5, 2) := by decide +kernel
theorem d_E_readOne_102 : decode b_E_readOne 102 = .ok (.iload 5, 2) := by decide +kernel
theorem d_E_readOne_104 : decode b_E_readOne 104 = .ok (.iconst (-1), 1) := by decide +kernel
theorem d_E_readOne_105 : decode b_E_readOne 105 = .ok (.if_icmp .ne 5, 3) := by decide +kernel
theorem d_E_readOne_108 : decode b_E_readOne 108 = .ok (.iconst (-1), 1) := by decide +kernel
theorem d_E_readOne_109 : decode b_E_readOne 109 = .ok (.ireturn, 1) := by decide +kernel
theorem d_E_readOne_110 : decode b_E_readOne 110 = .ok (.iinc 6 1, 3) := by decide +kernel
theorem d_E_readOne_113 : decode b_E_readOne 113 = .ok (.goto (-34), 3) := by decide +kernel
theorem d_E_readOne_116 : decode b_E_readOne 116 = .ok (.aload_n 0, 1) := by decide +kernel
theorem d_E_readOne_117 : decode b_E_readOne 117 = .ok (.getfield 15, 3) := by decide +kernel
theorem d_E_readOne_120 : decode b_E_readOne 120 = .ok (.iload_n 1, 1) := by decide +kernel
theorem d_E_readOne_121 : decode b_E_readOne 121 = .ok (.iload 5, 2) := by decide +kernel
theorem d_E_readOne_123 : decode b_E_readOne 123 = .ok (.iastore, 1) := by decide +kernel
theorem d_E_readOne_124 : decode b_E_readOne 124 = .ok (.iload 5, 2) := by decide +kernel
theorem d_E_readOne_126 : decode b_E_readOne 126 = .ok (.ireturn, 1) := by decide +kernel
theorem m_E_readOne : fk_MI y_E_readOne b_E_readOne 7 (some .int) 3 := ⟨i_492, i_491, fk_mp (q := (y_E_readOne, 5)) (by decide +kernel), i_4, by decide +kernel⟩
set_option maxHeartbeats 4000000 in
set_option maxRecDepth 100000 in
theorem c_E_readOne (l : Launch) (g : fk_G) (ov : Int64) (x : Nat) (hX : fk_X x) (bf : Nat → Nat) (n cnt : Nat) (hn40 : n ≤ 40) (hcnt : cnt < 2 ^ 31) (hb2 : ∀ j, j < n → bf j < 256) : ∀ (r : Nat) (M : fk_M) (i d : Nat), d + r = 11 → i ≤ 40 → M x 4 = nI n → (∀ j, j < n → M (x + 1) j = nI (bf j)) → fk_CI l y_E_readOne b_E_readOne 7 (some .int) (fk_rm (r + 2)) g ov M (va_up M (x + 2) (fk_we bf n cnt r i (M (x + 2)))) [.ref (fk_a g x), .int (nI i), .int (nI d), .int (nI cnt)] (fk_rv (fk_pe bf n cnt r i)) := by
  intro r
  induction r with
  | zero =>
    intro M i d hd hi hn hb
    refine fk_ofI rfl (Nat.le_of_ble_eq_true rfl) ?_
    intro p e s m args below meth c ls S hr hlk E G hl
    have hl : lv_has ls 7 [(0, .ref (fk_a g x)), (1, .int (nI i)), (2, .int (nI d)), (3, .int (nI cnt))] := hl
    refine lv_iload_n S.1 S.2.1 d_E_readOne_0 rfl (lv_at hl 1 rfl) ?_
    refine lv_aload_n S.1 S.2.1 d_E_readOne_1 rfl (lv_at hl 0 rfl) ?_
    refine fk_gf S E G x (by have := fk_Xlt hX; omega) (v := .int (M x 4)) (congrArg (fk_ce g ov x (M x)) (fk_kx0 hX)) rfl 4 (by decide) rfl i_56 rfl d_E_readOne_2 ?_
    rw [hn]
    refine fk_cge (tgt := 25) S.1 S.2.1 (by omega) (by omega) d_E_readOne_5 rfl (fun hc1 => ?_) (fun hc1 => ?_)
    · refine lv_iconst (v := -1) S.1 S.2.1 d_E_readOne_25 (by decide +kernel) ?_
      exact fk_iret S hr hlk E G (fk_upid M (x + 2)).symm rfl d_E_readOne_26
    · refine lv_iload_n S.1 S.2.1 d_E_readOne_8 rfl (lv_at hl 2 rfl) ?_
      refine lv_bipush (v := nI 10) S.1 S.2.1 d_E_readOne_9 (by decide +kernel) ?_
      refine fk_cgt (tgt := 25) S.1 S.2.1 (by omega) (by omega) d_E_readOne_11 rfl (fun hc2 => ?_) (fun hc2 => ?_)
      · refine lv_iconst (v := -1) S.1 S.2.1 d_E_readOne_25 (by decide +kernel) ?_
        exact fk_iret S hr hlk E G (fk_upid M (x + 2)).symm rfl d_E_readOne_26
      · exact absurd hd (by omega)
  | succ r ih =>
    intro M i d hd hi hn hb
    refine fk_ofI rfl (Nat.le_of_ble_eq_true rfl) ?_
    intro p e s m args below meth c ls S hr hlk E G hl
    have hl : lv_has ls 7 [(0, .ref (fk_a g x)), (1, .int (nI i)), (2, .int (nI d)), (3, .int (nI cnt))] := hl
    have main : ∀ (H : Heap) (locs : List Loc) (ls : Array Slot), fk_ok bf n cnt i → fk_H g ov M s H locs → lv_has ls 7 [(5, .int (nI (i + fk_hd (bf i)))), (4, .int (nI (bf i))), (0, .ref (fk_a g x)), (1, .int (nI i)), (2, .int (nI d)), (3, .int (nI cnt))] → W p l e (fk_rm (r + 1 + 2)) s m args below meth c H locs 0 0 (MQ below (va_Qi (fun rr (_ : Unit) => rr = fk_rv (fk_pe bf n cnt (r + 1) i)) (fun _ t => fk_Wd g ov (va_up M (x + 2) (fk_we bf n cnt (r + 1) i (M (x + 2)))) t) (fk_A g)) args s 0 0 (fk_A g)) (F0 m 76 ls []) := by
      intro H locs ls hk G hl
      obtain ⟨PF, hPF⟩ : ∃ z, z = fk_ps (fk_pe bf n cnt r) (fk_ar (bf i)) (i + fk_hd (bf i)) := ⟨_, rfl⟩
      obtain ⟨WF, hWF⟩ : ∃ z, z = fk_wps (fk_pe bf n cnt r) (fk_we bf n cnt r) (fk_ar (bf i)) (i + fk_hd (bf i)) (M (x + 2)) := ⟨_, rfl⟩
      have hpe : fk_pe bf n cnt (r + 1) i = PF := by rw [hPF]; exact if_pos hk
      have hwe : fk_we bf n cnt (r + 1) i (M (x + 2)) = fk_wx PF WF i := by
        rw [hWF, ← hpe]
        refine (if_pos hk).trans ?_
        cases fk_pe bf n cnt (r + 1) i <;> rfl
      have loop : ∀ (k q nx : Nat) (E0 : Nat → Int32) (H : Heap) (locs : List Loc) (ls : Array Slot), q + k = fk_ar (bf i) → nx ≤ n → fk_ps (fk_pe bf n cnt r) k nx = PF → fk_wps (fk_pe bf n cnt r) (fk_we bf n cnt r) k nx E0 = WF → fk_H g ov (va_up M (x + 2) E0) s H locs → lv_has ls 7 [(6, .int (nI q)), (5, .int (nI nx)), (4, .int (nI (bf i))), (0, .ref (fk_a g x)), (1, .int (nI i)), (2, .int (nI d)), (3, .int (nI cnt))] → W p l e (fk_rm (r + 1 + 2)) s m args below meth c H locs 0 0 (MQ below (va_Qi (fun rr (_ : Unit) => rr = fk_rv (fk_pe bf n cnt (r + 1) i)) (fun _ t => fk_Wd g ov (va_up M (x + 2) (fk_we bf n cnt (r + 1) i (M (x + 2)))) t) (fk_A g)) args s 0 0 (fk_A g)) (F0 m 79 ls []) := by
        intro k
        induction k with
        | zero =>
          intro q nx E0 H locs ls hq hnx hps hws G hl
          have har := fk_ar_le (bf i)
          obtain ⟨M1, hM1⟩ : ∃ z : fk_M, z = va_up M (x + 2) E0 := ⟨_, rfl⟩
          rw [← hM1] at G
          refine lv_iload S.1 S.2.1 d_E_readOne_79 (lv_at hl 0 rfl) ?_
          refine fk_gsn S E G 1 (by decide) (List.mem_of_getElem? (i := 53) rfl) d_E_readOne_81 ?_
          refine lv_iload S.1 S.2.1 d_E_readOne_84 (lv_at hl 2 rfl) ?_
          refine fk_ti S E G 1 (by decide) (bf i) rfl (by have := hk.2.1; omega) (v := nI (fk_ar (bf i))) (fk_tv1 _ (by have := hk.2.1; omega)) d_E_readOne_86 ?_
          refine fk_cge (tgt := 116) S.1 S.2.1 (by omega) (by omega) d_E_readOne_87 rfl (fun hc3 => ?_) (fun hc3 => ?_)
          · refine lv_aload_n S.1 S.2.1 d_E_readOne_116 rfl (lv_at hl 3 rfl) ?_
            refine fk_gf S E G x (by have := fk_Xlt hX; omega) (v := .ref (fk_a g (x + 2))) (congrArg (fk_ce g ov x (M1 x)) (fk_kx0 hX)) rfl 1 (by decide) rfl i_47 rfl d_E_readOne_117 ?_
            refine lv_iload_n S.1 S.2.1 d_E_readOne_120 rfl (lv_at hl 4 rfl) ?_
            refine lv_iload S.1 S.2.1 d_E_readOne_121 (lv_at hl 1 rfl) ?_
            refine fk_is S E G (x + 2) (by have := fk_Xlt hX; omega) (fun r => congrArg (fk_ce g ov (x + 2) r) (fk_kx2 hX)) i rfl (by have := hk.1; omega) (by decide) d_E_readOne_123 (fun H locs G => ?_)
            obtain ⟨M4, hM4⟩ : ∃ z : fk_M, z = va_up M1 (x + 2) (upd (M1 (x + 2)) i (nI nx)) := ⟨_, rfl⟩
            rw [← hM4] at G
            refine lv_iload S.1 S.2.1 d_E_readOne_124 (lv_at hl 1 rfl) ?_
            simp only [fk_ps] at hps
            simp only [fk_wps] at hws
            exact fk_iret S hr hlk E G (by rw [hM4, hM1, bx_uu, va_up_self, hwe, ← hps, hws]; rfl) (by rw [hpe, ← hps]; rfl) d_E_readOne_126
          · exact absurd hq (by omega)
        | succ k ihk =>
          intro q nx E0 H locs ls hq hnx hps hws G hl
          have har := fk_ar_le (bf i)
          obtain ⟨M1, hM1⟩ : ∃ z : fk_M, z = va_up M (x + 2) E0 := ⟨_, rfl⟩
          rw [← hM1] at G
          refine lv_iload S.1 S.2.1 d_E_readOne_79 (lv_at hl 0 rfl) ?_
          refine fk_gsn S E G 1 (by decide) (List.mem_of_getElem? (i := 53) rfl) d_E_readOne_81 ?_
          refine lv_iload S.1 S.2.1 d_E_readOne_84 (lv_at hl 2 rfl) ?_
          refine fk_ti S E G 1 (by decide) (bf i) rfl (by have := hk.2.1; omega) (v := nI (fk_ar (bf i))) (fk_tv1 _ (by have := hk.2.1; omega)) d_E_readOne_86 ?_
          refine fk_cge (tgt := 116) S.1 S.2.1 (by omega) (by omega) d_E_readOne_87 rfl (fun hc5 => ?_) (fun hc5 => ?_)
          · exact absurd hq (by omega)
          · refine lv_aload_n S.1 S.2.1 d_E_readOne_90 rfl (lv_at hl 3 rfl) ?_
            refine lv_iload S.1 S.2.1 d_E_readOne_91 (lv_at hl 1 rfl) ?_
            refine lv_iload_n S.1 S.2.1 d_E_readOne_93 rfl (lv_at hl 5 rfl) ?_
            refine lv_iconst (v := nI 1) S.1 S.2.1 d_E_readOne_94 (by decide +kernel) ?_
            refine fk_iadd S.1 S.2.1 d_E_readOne_95 ?_
            refine lv_iload_n S.1 S.2.1 d_E_readOne_96 rfl (lv_at hl 6 rfl) ?_
            have e1 : M1 x = M x := by rw [hM1, va_up_ne _ _ (by omega)]
            have e2 : M1 (x + 1) = M (x + 1) := by rw [hM1, va_up_ne _ _ (by omega)]
            have e3 : M1 (x + 2) = E0 := by rw [hM1, va_up_self]
            have hc := ih M1 nx (d + 1) (by omega) (by omega) (by rw [e1]; exact hn) (fun j hj => by rw [e2]; exact hb j hj)
            rw [e3, show va_up M1 (x + 2) (fk_we bf n cnt r nx E0) = va_up M (x + 2) (fk_we bf n cnt r nx E0) by rw [hM1, bx_uu]] at hc
            cases hp : fk_pe bf n cnt r nx with
            | none =>
              rw [hp] at hc
              refine fk_cvi S E G x (by have := fk_Xlt hX; omega) (congrArg (fk_ce g ov x (M1 x)) (fk_kx0 hX)) rfl (rest := []) hc m_E_readOne i_489 ⟨rfl, rfl⟩ ⟨by show r + 2 + 1 ≤ r + 1 + 2; omega, by show 8 + (7 + 11) + 64 * (r + 2) ≤ 64 * (r + 1 + 2); omega⟩ rfl rfl hl.1 (Nat.le_of_ble_eq_true rfl) d_E_readOne_97 ⟨Nat.zero_le _, Nat.zero_le _⟩ (fun H locs G => ?_)
              refine lv_istore (lv' := [(5, .int (-1)), (6, .int (nI q)), (4, .int (nI (bf i))), (0, .ref (fk_a g x)), (1, .int (nI i)), (2, .int (nI d)), (3, .int (nI cnt))]) S.1 S.2.1 d_E_readOne_100 hl (by decide) rfl (fun ls hl => ?_)
              refine lv_iload S.1 S.2.1 d_E_readOne_102 (lv_at hl 0 rfl) ?_
              refine lv_iconst (v := -1) S.1 S.2.1 d_E_readOne_104 (by decide +kernel) ?_
              refine lv_icmp_ne (tgt := 110) S.1 S.2.1 d_E_readOne_105 rfl (fun hc6 => ?_) (fun hc6 => ?_)
              · exact absurd rfl hc6
              · refine lv_iconst (v := -1) S.1 S.2.1 d_E_readOne_108 (by decide +kernel) ?_
                simp only [fk_ps, hp] at hps
                simp only [fk_wps, hp] at hws
                exact fk_iret S hr hlk E G (by rw [hwe, ← hps, ← hws]; rfl) (by rw [hpe, ← hps]; rfl) d_E_readOne_109
            | some y =>
              rw [hp] at hc
              have hy := fk_pe_lt _ _ _ hp
              refine fk_cvi S E G x (by have := fk_Xlt hX; omega) (congrArg (fk_ce g ov x (M1 x)) (fk_kx0 hX)) rfl (rest := []) hc m_E_readOne i_489 ⟨rfl, rfl⟩ ⟨by show r + 2 + 1 ≤ r + 1 + 2; omega, by show 8 + (7 + 11) + 64 * (r + 2) ≤ 64 * (r + 1 + 2); omega⟩ rfl rfl hl.1 (Nat.le_of_ble_eq_true rfl) d_E_readOne_97 ⟨Nat.zero_le _, Nat.zero_le _⟩ (fun H locs G => ?_)
              refine lv_istore (lv' := [(5, .int (nI y)), (6, .int (nI q)), (4, .int (nI (bf i))), (0, .ref (fk_a g x)), (1, .int (nI i)), (2, .int (nI d)), (3, .int (nI cnt))]) S.1 S.2.1 d_E_readOne_100 hl (by decide) rfl (fun ls hl => ?_)
              refine lv_iload S.1 S.2.1 d_E_readOne_102 (lv_at hl 0 rfl) ?_
              refine lv_iconst (v := -1) S.1 S.2.1 d_E_readOne_104 (by decide +kernel) ?_
              refine lv_icmp_ne (tgt := 110) S.1 S.2.1 d_E_readOne_105 rfl (fun hc7 => ?_) (fun hc7 => ?_)
              · refine lv_iinc (k := 1) (v := nI (q + 1)) (lv' := [(6, .int (nI (q + 1))), (5, .int (nI y)), (4, .int (nI (bf i))), (0, .ref (fk_a g x)), (1, .int (nI i)), (2, .int (nI d)), (3, .int (nI cnt))]) S.1 S.2.1 d_E_readOne_110 hl rfl (nI_1 q) (by decide) rfl (fun ls hl => ?_)
                refine lv_goto (tgt := 79) S.1 S.2.1 d_E_readOne_113 rfl ?_
                simp only [fk_ps, hp] at hps
                simp only [fk_wps, hp] at hws
                exact ihk (q + 1) y _ H locs ls (by omega) hy.2 hps hws G hl
              · exact absurd hc7 (fk_nm1 (by omega))
      refine lv_iconst (v := nI 0) S.1 S.2.1 d_E_readOne_76 (by decide +kernel) ?_
      refine lv_istore (lv' := [(6, .int (nI 0)), (5, .int (nI (i + fk_hd (bf i)))), (4, .int (nI (bf i))), (0, .ref (fk_a g x)), (1, .int (nI i)), (2, .int (nI d)), (3, .int (nI cnt))]) S.1 S.2.1 d_E_readOne_77 hl (by decide) rfl (fun ls hl => ?_)
      refine loop (fk_ar (bf i)) 0 (i + fk_hd (bf i)) (M (x + 2)) H locs ls (by omega) hk.2.2.1 hPF.symm hWF.symm ?_ hl
      rw [fk_upid]
      exact G
    refine lv_iload_n S.1 S.2.1 d_E_readOne_0 rfl (lv_at hl 1 rfl) ?_
    refine lv_aload_n S.1 S.2.1 d_E_readOne_1 rfl (lv_at hl 0 rfl) ?_
    refine fk_gf S E G x (by have := fk_Xlt hX; omega) (v := .int (M x 4)) (congrArg (fk_ce g ov x (M x)) (fk_kx0 hX)) rfl 4 (by decide) rfl i_56 rfl d_E_readOne_2 ?_
    rw [hn]
    refine fk_cge (tgt := 25) S.1 S.2.1 (by omega) (by omega) d_E_readOne_5 rfl (fun hc8 => ?_) (fun hc8 => ?_)
    · have hno : ¬ fk_ok bf n cnt i := fun q => by have := q.1; omega
      refine lv_iconst (v := -1) S.1 S.2.1 d_E_readOne_25 (by decide +kernel) ?_
      exact fk_iret S hr hlk E G (by rw [fk_we_no hno, fk_upid]) (by rw [fk_pe_no hno]; rfl) d_E_readOne_26
    · refine lv_iload_n S.1 S.2.1 d_E_readOne_8 rfl (lv_at hl 2 rfl) ?_
      refine lv_bipush (v := nI 10) S.1 S.2.1 d_E_readOne_9 (by decide +kernel) ?_
      refine fk_cgt (tgt := 25) S.1 S.2.1 (by omega) (by omega) d_E_readOne_11 rfl (fun hc9 => ?_) (fun hc9 => ?_)
      · exact absurd hd (by omega)
      · refine lv_aload_n S.1 S.2.1 d_E_readOne_14 rfl (lv_at hl 0 rfl) ?_
        refine fk_gf S E G x (by have := fk_Xlt hX; omega) (v := .ref (fk_a g (x + 1))) (congrArg (fk_ce g ov x (M x)) (fk_kx0 hX)) rfl 0 (by decide) rfl i_43 rfl d_E_readOne_15 ?_
        refine lv_iload_n S.1 S.2.1 d_E_readOne_18 rfl (lv_at hl 1 rfl) ?_
        have hbi := hb2 i (by omega)
        refine fk_ia S E G (x + 1) (by have := fk_Xlt hX; omega) (congrArg (fk_ce g ov (x + 1) (M (x + 1))) (fk_kx1 hX)) i rfl (by omega) (by decide) (v := nI (bf i)) (hb i (by omega)) d_E_readOne_19 ?_
        refine lv_bipush (v := nI 18) S.1 S.2.1 d_E_readOne_20 (by decide +kernel) ?_
        refine fk_cle (tgt := 27) S.1 S.2.1 (by omega) (by omega) d_E_readOne_22 rfl (fun hc10 => ?_) (fun hc10 => ?_)
        · refine lv_aload_n S.1 S.2.1 d_E_readOne_27 rfl (lv_at hl 0 rfl) ?_
          refine fk_gf S E G x (by have := fk_Xlt hX; omega) (v := .ref (fk_a g (x + 1))) (congrArg (fk_ce g ov x (M x)) (fk_kx0 hX)) rfl 0 (by decide) rfl i_43 rfl d_E_readOne_28 ?_
          refine lv_iload_n S.1 S.2.1 d_E_readOne_31 rfl (lv_at hl 1 rfl) ?_
          refine fk_ia S E G (x + 1) (by have := fk_Xlt hX; omega) (congrArg (fk_ce g ov (x + 1) (M (x + 1))) (fk_kx1 hX)) i rfl (by omega) (by decide) (v := nI (bf i)) (hb i (by omega)) d_E_readOne_32 ?_
          refine lv_istore (lv' := [(4, .int (nI (bf i))), (0, .ref (fk_a g x)), (1, .int (nI i)), (2, .int (nI d)), (3, .int (nI cnt))]) S.1 S.2.1 d_E_readOne_33 hl (by decide) rfl (fun ls hl => ?_)
          refine lv_iload_n S.1 S.2.1 d_E_readOne_35 rfl (lv_at hl 2 rfl) ?_
          refine fk_gsn S E G 0 (by decide) (List.mem_of_getElem? (i := 51) rfl) d_E_readOne_36 ?_
          refine lv_iload S.1 S.2.1 d_E_readOne_39 (lv_at hl 0 rfl) ?_
          refine fk_ti S E G 0 (by decide) (bf i) rfl (by omega) (v := nI (fk_hd (bf i))) (fk_tv0 _ (by omega)) d_E_readOne_41 ?_
          have hp2 := fk_hd_pos (bf i)
          refine fk_iadd S.1 S.2.1 d_E_readOne_42 ?_
          refine lv_istore (lv' := [(5, .int (nI (i + (fk_hd (bf i))))), (4, .int (nI (bf i))), (0, .ref (fk_a g x)), (1, .int (nI i)), (2, .int (nI d)), (3, .int (nI cnt))]) S.1 S.2.1 d_E_readOne_43 hl (by decide) rfl (fun ls hl => ?_)
          refine lv_iload S.1 S.2.1 d_E_readOne_45 (lv_at hl 0 rfl) ?_
          refine lv_aload_n S.1 S.2.1 d_E_readOne_47 rfl (lv_at hl 2 rfl) ?_
          refine fk_gf S E G x (by have := fk_Xlt hX; omega) (v := .int (M x 4)) (congrArg (fk_ce g ov x (M x)) (fk_kx0 hX)) rfl 4 (by decide) rfl i_56 rfl d_E_readOne_48 ?_
          rw [hn]
          refine fk_cgt (tgt := 74) S.1 S.2.1 (by omega) (by omega) d_E_readOne_51 rfl (fun hc11 => ?_) (fun hc11 => ?_)
          · have hno : ¬ fk_ok bf n cnt i := fun q => by have := q.2.2.1; omega
            refine lv_iconst (v := -1) S.1 S.2.1 d_E_readOne_74 (by decide +kernel) ?_
            exact fk_iret S hr hlk E G (by rw [fk_we_no hno, fk_upid]) (by rw [fk_pe_no hno]; rfl) d_E_readOne_75
          · refine lv_iload S.1 S.2.1 d_E_readOne_54 (lv_at hl 1 rfl) ?_
            refine fk_cti S E G (rest := []) (c_D_namesFlow l g ov M (bf i) (by omega)) m_D_namesFlow (List.mem_of_getElem? (i := 30) rfl) ⟨rfl, rfl⟩ ⟨by show 1 + 1 ≤ r + 1 + 2; omega, by show 8 + (1 + 11) + 64 * 1 ≤ 64 * (r + 1 + 2); omega⟩ rfl rfl hl.1 (Nat.le_of_ble_eq_true rfl) d_E_readOne_56 ⟨Nat.zero_le _, Nat.zero_le _⟩ (fun H locs G => ?_)
            refine fk_zeq (tgt := 76) S.1 S.2.1 (fk_bl _) d_E_readOne_59 rfl (fun hc12 => ?_) (fun hc12 => ?_)
            · have hc12 := of_decide_eq_false (fk_bf hc12)
              exact main H locs ls ⟨by omega, by omega, by omega, fun q => absurd q hc12⟩ G hl
            · have hc12 := of_decide_eq_true (fk_bt hc12)
              have h3 := fk_hd2 hc12
              have hb3 := hb2 (i + 1) (by omega)
              refine lv_aload_n S.1 S.2.1 d_E_readOne_62 rfl (lv_at hl 2 rfl) ?_
              refine fk_gf S E G x (by have := fk_Xlt hX; omega) (v := .ref (fk_a g (x + 1))) (congrArg (fk_ce g ov x (M x)) (fk_kx0 hX)) rfl 0 (by decide) rfl i_43 rfl d_E_readOne_63 ?_
              refine lv_iload_n S.1 S.2.1 d_E_readOne_66 rfl (lv_at hl 3 rfl) ?_
              refine lv_iconst (v := nI 1) S.1 S.2.1 d_E_readOne_67 (by decide +kernel) ?_
              refine fk_iadd S.1 S.2.1 d_E_readOne_68 ?_
              refine fk_ia S E G (x + 1) (by have := fk_Xlt hX; omega) (congrArg (fk_ce g ov (x + 1) (M (x + 1))) (fk_kx1 hX)) (i + 1) rfl (by omega) (by decide) (v := nI (bf (i + 1))) (hb (i + 1) (by omega)) d_E_readOne_69 ?_
              refine lv_iload_n S.1 S.2.1 d_E_readOne_70 rfl (lv_at hl 5 rfl) ?_
              refine fk_clt (tgt := 76) S.1 S.2.1 (by omega) (by omega) d_E_readOne_71 rfl (fun hc13 => ?_) (fun hc13 => ?_)
              · exact main H locs ls ⟨by omega, by omega, by omega, fun _ => hc13⟩ G hl
              · have hno : ¬ fk_ok bf n cnt i := fun q => by have := q.2.2.2 hc12; omega
                refine lv_iconst (v := -1) S.1 S.2.1 d_E_readOne_74 (by decide +kernel) ?_
                exact fk_iret S hr hlk E G (by rw [fk_we_no hno, fk_upid]) (by rw [fk_pe_no hno]; rfl) d_E_readOne_75
        · have hno : ¬ fk_ok bf n cnt i := fun q => by have := q.2.1; omega
          refine lv_iconst (v := -1) S.1 S.2.1 d_E_readOne_25 (by decide +kernel) ?_
          exact fk_iret S hr hlk E G (by rw [fk_we_no hno, fk_upid]) (by rw [fk_pe_no hno]; rfl) d_E_readOne_26
theorem d_E_isWellFormed_0 : decode b_E_isWellFormed 0 = .ok (.aload_n 0, 1) := by decide +kernel
theorem d_E_isWellFormed_1 : decode b_E_isWellFormed 1 = .ok (.getfield 15, 3) := by decide +kernel
theorem d_E_isWellFormed_4 : decode b_E_isWellFormed 4 = .ok (.iconst 0, 1) := by decide +kernel
theorem d_E_isWellFormed_5 : decode b_E_isWellFormed 5 = .ok (.invokestatic 28, 3) := by decide +kernel
theorem d_E_isWellFormed_8 : decode b_E_isWellFormed 8 = .ok (.aload_n 0, 1) := by decide +kernel
theorem d_E_isWellFormed_9 : decode b_E_isWellFormed 9 = .ok (.iconst 0, 1) := by decide +kernel
theorem d_E_isWellFormed_10 : decode b_E_isWellFormed 10 = .ok (.iconst 0, 1) := by decide +kernel
theorem d_E_isWellFormed_11 : decode b_E_isWellFormed 11 = .ok (.iload_n 1, 1) := by decide +kernel
theorem d_E_isWellFormed_12 : decode b_E_isWellFormed 12 = .ok (.invokevirtual 34, 3) := by decide +kernel
theorem d_E_isWellFormed_15 : decode b_E_isWellFormed 15 = .ok (.aload_n 0, 1) := by decide +kernel
theorem d_E_isWellFormed_16 : decode b_E_isWellFormed 16 = .ok (.getfield 24, 3) := by decide +kernel
theorem d_E_isWellFormed_19 : decode b_E_isWellFormed 19 = .ok (.if_icmp .ne 7, 3) := by decide +kernel
theorem d_E_isWellFormed_22 : decode b_E_isWellFormed 22 = .ok (.iconst 1, 1) := by decide +kernel
theorem d_E_isWellFormed_23 : decode b_E_isWellFormed 23 = .ok (.goto 4, 3) := by decide +kernel
theorem d_E_isWellFormed_26 : decode b_E_isWellFormed 26 = .ok (.iconst 0, 1) := by decide +kernel
theorem d_E_isWellFormed_27 : decode b_E_isWellFormed 27 = .ok (.ireturn, 1) := by decide +kernel
theorem m_E_isWellFormed : fk_MI y_E_isWellFormed b_E_isWellFormed 2 (some .boolean) 1 := ⟨i_487, i_486, fk_mp (q := (y_E_isWellFormed, 5)) (by decide +kernel), i_4, by decide +kernel⟩
set_option maxHeartbeats 4000000 in
set_option maxRecDepth 100000 in
theorem c_E_isWellFormed (l : Launch) (g : fk_G) (ov : Int64) (M : fk_M) (x : Nat) (hX : fk_X x) (bf : Nat → Nat) (n cnt : Nat) (hn40 : n ≤ 40) (hcnt : cnt < 2 ^ 31) (hn : M x 4 = nI n) (hb : ∀ j, j < n → M (x + 1) j = nI (bf j)) (hb2 : ∀ j, j < n → bf j < 256) : fk_CI l y_E_isWellFormed b_E_isWellFormed 2 (some .boolean) (fk_rm 14) g ov M (va_up M (x + 2) (fk_we bf n cnt 11 0 (fk_fl (M (x + 2)) 40 0))) [.ref (fk_a g x), .int (nI cnt)] (nI (decide (fk_pe bf n cnt 11 0 = some n)).toNat) := by
  refine fk_ofI rfl (Nat.le_of_ble_eq_true rfl) ?_
  intro p e s m args below meth c ls S hr hlk E G hl
  have hl : lv_has ls 2 [(0, .ref (fk_a g x)), (1, .int (nI cnt))] := hl
  refine lv_aload_n S.1 S.2.1 d_E_isWellFormed_0 rfl (lv_at hl 0 rfl) ?_
  refine fk_gf S E G x (by have := fk_Xlt hX; omega) (v := .ref (fk_a g (x + 2))) (congrArg (fk_ce g ov x (M x)) (fk_kx0 hX)) rfl 1 (by decide) rfl i_47 rfl d_E_isWellFormed_1 ?_
  refine lv_iconst (v := nI 0) S.1 S.2.1 d_E_isWellFormed_4 (by decide +kernel) ?_
  refine fk_csv S E G (rest := []) (c_A_fill l g ov M (x + 2) 40 (by have := fk_Xlt hX; omega) (by decide) (nI 0) (fun r => congrArg (fk_ce g ov (x + 2) r) (fk_kx2 hX))) m_A_fill i_488 ⟨rfl, rfl⟩ ⟨by decide, by decide⟩ rfl rfl hl.1 (Nat.le_of_ble_eq_true rfl) d_E_isWellFormed_5 ⟨Nat.zero_le _, Nat.zero_le _⟩ (fun H locs G => ?_)
  obtain ⟨M1, hM1⟩ : ∃ z : fk_M, z = va_up M (x + 2) (fk_fl (M (x + 2)) 40 (nI 0)) := ⟨_, rfl⟩
  rw [← hM1] at G
  have e1 : M1 x = M x := by rw [hM1, va_up_ne _ _ (by omega)]
  have e2 : M1 (x + 1) = M (x + 1) := by rw [hM1, va_up_ne _ _ (by omega)]
  have e3 : M1 (x + 2) = fk_fl (M (x + 2)) 40 0 := by rw [hM1, va_up_self, nI_0]
  refine lv_aload_n S.1 S.2.1 d_E_isWellFormed_8 rfl (lv_at hl 0 rfl) ?_
  refine lv_iconst (v := nI 0) S.1 S.2.1 d_E_isWellFormed_9 (by decide +kernel) ?_
  refine lv_iconst (v := nI 0) S.1 S.2.1 d_E_isWellFormed_10 (by decide +kernel) ?_
  refine lv_iload_n S.1 S.2.1 d_E_isWellFormed_11 rfl (lv_at hl 1 rfl) ?_
  have hc := c_E_readOne l g ov x hX bf n cnt hn40 hcnt hb2 11 M1 0 0 rfl (by omega) (by rw [e1]; exact hn) (fun j hj => by rw [e2]; exact hb j hj)
  obtain ⟨M2, hM2⟩ : ∃ z : fk_M, z = va_up M1 (x + 2) (fk_we bf n cnt 11 0 (M1 (x + 2))) := ⟨_, rfl⟩
  rw [← hM2] at hc
  have e4 : M2 x = M x := by rw [hM2, va_up_ne _ _ (by omega), e1]
  have hfin : M2 = va_up M (x + 2) (fk_we bf n cnt 11 0 (fk_fl (M (x + 2)) 40 0)) := by rw [hM2, e3, hM1, bx_uu]
  have hlt : ∀ y, fk_pe bf n cnt 11 0 = some y → y < 2 ^ 31 := fun y hy => by have := fk_pe_lt _ _ _ hy; omega
  refine fk_cvi S E G x (by have := fk_Xlt hX; omega) (congrArg (fk_ce g ov x (M1 x)) (fk_kx0 hX)) rfl (rest := []) hc m_E_readOne i_489 ⟨rfl, rfl⟩ ⟨by decide, by decide⟩ rfl rfl hl.1 (Nat.le_of_ble_eq_true rfl) d_E_isWellFormed_12 ⟨Nat.zero_le _, Nat.zero_le _⟩ (fun H locs G => ?_)
  refine lv_aload_n S.1 S.2.1 d_E_isWellFormed_15 rfl (lv_at hl 0 rfl) ?_
  refine fk_gf S E G x (by have := fk_Xlt hX; omega) (v := .int (M2 x 4)) (congrArg (fk_ce g ov x (M2 x)) (fk_kx0 hX)) rfl 4 (by decide) rfl i_56 rfl d_E_isWellFormed_16 ?_
  rw [e4, hn]
  refine lv_icmp_ne (tgt := 26) S.1 S.2.1 d_E_isWellFormed_19 rfl (fun hc1 => ?_) (fun hc1 => ?_)
  · refine lv_iconst (v := nI 0) S.1 S.2.1 d_E_isWellFormed_26 (by decide +kernel) ?_
    exact fk_zret S hr hlk E G hfin (fk_b0 (decide_eq_false (fun q => hc1 (by rw [q]; rfl)))) (fk_bz _) d_E_isWellFormed_27
  · refine lv_iconst (v := nI 1) S.1 S.2.1 d_E_isWellFormed_22 (by decide +kernel) ?_
    refine lv_goto (tgt := 27) S.1 S.2.1 d_E_isWellFormed_23 rfl ?_
    have heq : fk_pe bf n cnt 11 0 = some n := by
      cases hp : fk_pe bf n cnt 11 0 with
      | none => rw [hp] at hc1; exact absurd hc1.symm (fk_nm1 (by omega))
      | some y => rw [hp] at hc1; rw [(nI_eq (hlt y hp) (by omega)).mp hc1]
    exact fk_zret S hr hlk E G hfin (fk_b1 (decide_eq_true heq)) (fk_bz _) d_E_isWellFormed_27
end
section
/-! Clockwork: hasInstant, countOf, combine, chosenPart, resultOf. Written by wip/gen/s_clock.py. -/
theorem fk_T_E {b : Nat → Nat} {n cnt : Nat} {E : Nat → Int32} {r x y : Nat} (h : fk_T b n cnt E r x y) : E x = nI y := by
  cases r with
  | zero => exact h.elim
  | succ r => exact h.2.1
/-- the clock ck has an instant now, as the class sees it -/
def fk_hi (M : fk_M) (ck : Nat) : Bool := decide (ck = 0 ∨ (¬ M (3 + 6 * ((ck - 1) / 2)) 5 = 0 ∧ M (3 + 6 * ((ck - 1) / 2)) 6 = nI (ck % 2)))
def fk_cb (k : Nat) (va vb : Int32) : Int32 := match k with
  | 6 => va + vb
  | 7 => va - vb
  | 8 => va * vb
  | 9 => nI (decide (va < vb)).toNat
  | 10 => nI (decide (va = vb)).toNat
  | 11 => va &&& vb
  | _ => va ||| vb
def fk_en (M : fk_M) (x j : Nat) : Nat := (M (x + 2) j).toNatClampNeg
/-- the value of a kind out of its parts' values -/
def fk_ek (M : fk_M) (x k w i : Nat) (v1 v2 v3 : Int32) : Int32 := match k with
  | 0 => nI w - nI 128
  | 1 => nI 1
  | 2 => nI 0
  | 3 => M (3 + 6 * w) 6
  | 4 => nI 1 - v1
  | 5 => -v1
  | 13 => if v1 = nI 1 then v2 else v3
  | 14 => M (x + 4) i
  | 15 => if M 83 (M (x + 3) i).toNatClampNeg = 0 then v1 else v2
  | 16 => v1
  | 17 => v1
  | 18 => if M (3 + 6 * w) 6 = nI 1 then v1 else v2
  | k => fk_cb k v1 v2
def fk_ev (M : fk_M) (x : Nat) (b : Nat → Nat) : Nat → Nat → Int32
  | 0, _ => 0
  | r + 1, i => fk_ek M x (b i) (b (i + 1)) i (fk_ev M x b r (i + fk_hd (b i))) (fk_ev M x b r (fk_en M x (i + fk_hd (b i)))) (fk_ev M x b r (fk_en M x (fk_en M x (i + fk_hd (b i)))))
def fk_cq (M : fk_M) (x k w i c1 c2 c3 : Nat) (v1 : Int32) : Nat := match k with
  | 13 => if v1 = nI 1 then c2 else c3
  | 15 => if M 83 (M (x + 3) i).toNatClampNeg = 0 then c1 else c2
  | 18 => if M (3 + 6 * w) 6 = nI 1 then c1 else c2
  | _ => c1
def fk_cp (M : fk_M) (x : Nat) (b : Nat → Nat) (r i : Nat) : Nat := fk_cq M x (b i) (b (i + 1)) i (i + fk_hd (b i)) (fk_en M x (i + fk_hd (b i))) (fk_en M x (fk_en M x (i + fk_hd (b i)))) (fk_ev M x b r (i + fk_hd (b i)))
theorem fk_en_T {M : fk_M} {x : Nat} {b : Nat → Nat} {n cnt r i y : Nat} (hn : n ≤ 40) (h : fk_T b n cnt (M (x + 2)) r i y) : fk_en M x i = y := by
  unfold fk_en
  have := fk_T_lt _ _ _ h
  rw [fk_T_E h, nI_clamp (by omega)]
theorem d_C_hasInstant_0 : decode b_C_hasInstant 0 = .ok (.iload_n 1, 1) := by decide +kernel
theorem d_C_hasInstant_1 : decode b_C_hasInstant 1 = .ok (.ifCond .ne 5, 3) := by decide +kernel
theorem d_C_hasInstant_4 : decode b_C_hasInstant 4 = .ok (.iconst 1, 1) := by decide +kernel
theorem d_C_hasInstant_5 : decode b_C_hasInstant 5 = .ok (.ireturn, 1) := by decide +kernel
theorem d_C_hasInstant_6 : decode b_C_hasInstant 6 = .ok (.aload_n 0, 1) := by decide +kernel
theorem d_C_hasInstant_7 : decode b_C_hasInstant 7 = .ok (.getfield 15, 3) := by decide +kernel
theorem d_C_hasInstant_10 : decode b_C_hasInstant 10 = .ok (.getfield 35, 3) := by decide +kernel
theorem d_C_hasInstant_13 : decode b_C_hasInstant 13 = .ok (.iload_n 1, 1) := by decide +kernel
theorem d_C_hasInstant_14 : decode b_C_hasInstant 14 = .ok (.invokestatic 91, 3) := by decide +kernel
theorem d_C_hasInstant_17 : decode b_C_hasInstant 17 = .ok (.aaload, 1) := by decide +kernel
theorem d_C_hasInstant_18 : decode b_C_hasInstant 18 = .ok (.astore_n 2, 1) := by decide +kernel
theorem d_C_hasInstant_19 : decode b_C_hasInstant 19 = .ok (.aload_n 2, 1) := by decide +kernel
theorem d_C_hasInstant_20 : decode b_C_hasInstant 20 = .ok (.getfield 39, 3) := by decide +kernel
theorem d_C_hasInstant_23 : decode b_C_hasInstant 23 = .ok (.ifCond .eq 17, 3) := by decide +kernel
theorem d_C_hasInstant_26 : decode b_C_hasInstant 26 = .ok (.aload_n 2, 1) := by decide +kernel
theorem d_C_hasInstant_27 : decode b_C_hasInstant 27 = .ok (.getfield 88, 3) := by decide +kernel
theorem d_C_hasInstant_30 : decode b_C_hasInstant 30 = .ok (.iload_n 1, 1) := by decide +kernel
theorem d_C_hasInstant_31 : decode b_C_hasInstant 31 = .ok (.iconst 2, 1) := by decide +kernel
theorem d_C_hasInstant_32 : decode b_C_hasInstant 32 = .ok (.irem, 1) := by decide +kernel
theorem d_C_hasInstant_33 : decode b_C_hasInstant 33 = .ok (.if_icmp .ne 7, 3) := by decide +kernel
theorem d_C_hasInstant_36 : decode b_C_hasInstant 36 = .ok (.iconst 1, 1) := by decide +kernel
theorem d_C_hasInstant_37 : decode b_C_hasInstant 37 = .ok (.goto 4, 3) := by decide +kernel
theorem d_C_hasInstant_40 : decode b_C_hasInstant 40 = .ok (.iconst 0, 1) := by decide +kernel
theorem d_C_hasInstant_41 : decode b_C_hasInstant 41 = .ok (.ireturn, 1) := by decide +kernel
theorem m_C_hasInstant : fk_MI y_C_hasInstant b_C_hasInstant 3 (some .boolean) 1 := ⟨i_556, i_555, fk_mp (q := (y_C_hasInstant, 3)) (by decide +kernel), i_7, by decide +kernel⟩
set_option maxHeartbeats 4000000 in
set_option maxRecDepth 100000 in
theorem c_C_hasInstant (l : Launch) (g : fk_G) (ov : Int64) (M : fk_M) (ck : Nat) (h25 : ck < 25) : fk_CI l y_C_hasInstant b_C_hasInstant 3 (some .boolean) (fk_rm 1) g ov M M [.ref (fk_a g 82), .int (nI ck)] (nI (fk_hi M ck).toNat) := by
  refine fk_ofI rfl (Nat.le_of_ble_eq_true rfl) ?_
  intro p e s m args below meth c ls S hr hlk E G hl
  have hl : lv_has ls 3 [(0, .ref (fk_a g 82)), (1, .int (nI ck))] := hl
  refine lv_iload_n S.1 S.2.1 d_C_hasInstant_0 rfl (lv_at hl 1 rfl) ?_
  refine fk_zne (tgt := 6) S.1 S.2.1 (by omega) d_C_hasInstant_1 rfl (fun hc1 => ?_) (fun hc1 => ?_)
  · refine lv_aload_n S.1 S.2.1 d_C_hasInstant_6 rfl (lv_at hl 0 rfl) ?_
    refine fk_gf S E G 82 (by decide) (v := .ref (fk_a g 1)) (congrArg (fk_ce g ov 82 (M 82)) kd_82) rfl 0 (by decide) rfl i_188 rfl d_C_hasInstant_7 ?_
    refine fk_gn S E G 1 (by decide) (v := .ref (fk_a g 2)) (congrArg (fk_ce g ov 1 (M 1)) kd_1) rfl 0 (by decide) rfl (List.mem_of_getElem? (i := 35) rfl) rfl d_C_hasInstant_10 ?_
    refine lv_iload_n S.1 S.2.1 d_C_hasInstant_13 rfl (lv_at hl 1 rfl) ?_
    refine fk_cti S E G (rest := [.ref (fk_a g 2)]) (c_D_flowBehind l g ov M ck (by omega) (by omega)) m_D_flowBehind (List.mem_of_getElem? (i := 32) rfl) ⟨rfl, rfl⟩ ⟨by decide, by decide⟩ rfl rfl hl.1 (Nat.le_of_ble_eq_true rfl) d_C_hasInstant_14 ⟨Nat.zero_le _, Nat.zero_le _⟩ (fun H locs G => ?_)
    refine fk_rw S E G ((ck - 1) / 2) rfl (by omega) d_C_hasInstant_17 ?_
    refine lv_astore_n (lv' := [(2, .ref (fk_a g (3 + 6 * ((ck - 1) / 2)))), (0, .ref (fk_a g 82)), (1, .int (nI ck))]) S.1 S.2.1 d_C_hasInstant_18 rfl hl (by decide) rfl (fun ls hl => ?_)
    refine lv_aload_n S.1 S.2.1 d_C_hasInstant_19 rfl (lv_at hl 0 rfl) ?_
    refine fk_gn S E G (3 + 6 * ((ck - 1) / 2)) (by omega) (v := .int (M (3 + 6 * ((ck - 1) / 2)) 5)) (congrArg (fk_ce g ov (3 + 6 * ((ck - 1) / 2)) (M (3 + 6 * ((ck - 1) / 2)))) (fk_kf (show (ck - 1) / 2 < 12 by omega))) rfl 5 (by decide) rfl (List.mem_of_getElem? (i := 30) rfl) rfl d_C_hasInstant_20 ?_
    refine lv_if_eq (tgt := 40) S.1 S.2.1 d_C_hasInstant_23 rfl (fun hc2 => ?_) (fun hc2 => ?_)
    · refine lv_iconst (v := nI 0) S.1 S.2.1 d_C_hasInstant_40 (by decide +kernel) ?_
      exact fk_zret S hr hlk E G rfl (fk_b0 (decide_eq_false (fun q => q.elim (fun q => by omega) (fun q => q.1 hc2)))) (fk_bz _) d_C_hasInstant_41
    · refine lv_aload_n S.1 S.2.1 d_C_hasInstant_26 rfl (lv_at hl 0 rfl) ?_
      refine fk_gn S E G (3 + 6 * ((ck - 1) / 2)) (by omega) (v := .int (M (3 + 6 * ((ck - 1) / 2)) 6)) (congrArg (fk_ce g ov (3 + 6 * ((ck - 1) / 2)) (M (3 + 6 * ((ck - 1) / 2)))) (fk_kf (show (ck - 1) / 2 < 12 by omega))) rfl 6 (by decide) rfl (List.mem_of_getElem? (i := 32) rfl) rfl d_C_hasInstant_27 ?_
      refine lv_iload_n S.1 S.2.1 d_C_hasInstant_30 rfl (lv_at hl 2 rfl) ?_
      refine lv_iconst (v := nI 2) S.1 S.2.1 d_C_hasInstant_31 (by decide +kernel) ?_
      refine fk_irem S.1 S.2.1 (by omega) (by decide) (by decide) d_C_hasInstant_32 ?_
      refine lv_icmp_ne (tgt := 40) S.1 S.2.1 d_C_hasInstant_33 rfl (fun hc3 => ?_) (fun hc3 => ?_)
      · refine lv_iconst (v := nI 0) S.1 S.2.1 d_C_hasInstant_40 (by decide +kernel) ?_
        exact fk_zret S hr hlk E G rfl (fk_b0 (decide_eq_false (fun q => q.elim (fun q => by omega) (fun q => hc3 q.2)))) (fk_bz _) d_C_hasInstant_41
      · refine lv_iconst (v := nI 1) S.1 S.2.1 d_C_hasInstant_36 (by decide +kernel) ?_
        refine lv_goto (tgt := 41) S.1 S.2.1 d_C_hasInstant_37 rfl ?_
        exact fk_zret S hr hlk E G rfl (fk_b1 (decide_eq_true (Or.inr ⟨hc2, hc3⟩))) (fk_bz _) d_C_hasInstant_41
  · refine lv_iconst (v := nI 1) S.1 S.2.1 d_C_hasInstant_4 (by decide +kernel) ?_
    exact fk_zret S hr hlk E G rfl (fk_b1 (decide_eq_true (Or.inl hc1))) (fk_bz _) d_C_hasInstant_5
theorem d_C_countOf_0 : decode b_C_countOf 0 = .ok (.aload_n 0, 1) := by decide +kernel
theorem d_C_countOf_1 : decode b_C_countOf 1 = .ok (.getfield 9, 3) := by decide +kernel
theorem d_C_countOf_4 : decode b_C_countOf 4 = .ok (.aload_n 0, 1) := by decide +kernel
theorem d_C_countOf_5 : decode b_C_countOf 5 = .ok (.getfield 15, 3) := by decide +kernel
theorem d_C_countOf_8 : decode b_C_countOf 8 = .ok (.getfield 35, 3) := by decide +kernel
theorem d_C_countOf_11 : decode b_C_countOf 11 = .ok (.iload_n 1, 1) := by decide +kernel
theorem d_C_countOf_12 : decode b_C_countOf 12 = .ok (.aaload, 1) := by decide +kernel
theorem d_C_countOf_13 : decode b_C_countOf 13 = .ok (.getfield 54, 3) := by decide +kernel
theorem d_C_countOf_16 : decode b_C_countOf 16 = .ok (.iaload, 1) := by decide +kernel
theorem d_C_countOf_17 : decode b_C_countOf 17 = .ok (.ireturn, 1) := by decide +kernel
theorem m_C_countOf : fk_MI y_C_countOf b_C_countOf 2 (some .int) 1 := ⟨i_607, i_606, fk_mp (q := (y_C_countOf, 3)) (by decide +kernel), i_7, by decide +kernel⟩
set_option maxHeartbeats 4000000 in
set_option maxRecDepth 100000 in
theorem c_C_countOf (l : Launch) (g : fk_G) (ov : Int64) (M : fk_M) (j ck : Nat) (hj : j < 12) (hck : M (3 + 6 * j) 3 = nI ck) (h25 : ck < 25) : fk_CI l y_C_countOf b_C_countOf 2 (some .int) (fk_rm 0) g ov M M [.ref (fk_a g 82), .int (nI j)] (M 83 ck) := by
  refine fk_ofI rfl (Nat.le_of_ble_eq_true rfl) ?_
  intro p e s m args below meth c ls S hr hlk E G hl
  have hl : lv_has ls 2 [(0, .ref (fk_a g 82)), (1, .int (nI j))] := hl
  refine lv_aload_n S.1 S.2.1 d_C_countOf_0 rfl (lv_at hl 0 rfl) ?_
  refine fk_gf S E G 82 (by decide) (v := .ref (fk_a g 83)) (congrArg (fk_ce g ov 82 (M 82)) kd_82) rfl 2 (by decide) rfl i_190 rfl d_C_countOf_1 ?_
  refine lv_aload_n S.1 S.2.1 d_C_countOf_4 rfl (lv_at hl 0 rfl) ?_
  refine fk_gf S E G 82 (by decide) (v := .ref (fk_a g 1)) (congrArg (fk_ce g ov 82 (M 82)) kd_82) rfl 0 (by decide) rfl i_188 rfl d_C_countOf_5 ?_
  refine fk_gn S E G 1 (by decide) (v := .ref (fk_a g 2)) (congrArg (fk_ce g ov 1 (M 1)) kd_1) rfl 0 (by decide) rfl (List.mem_of_getElem? (i := 35) rfl) rfl d_C_countOf_8 ?_
  refine lv_iload_n S.1 S.2.1 d_C_countOf_11 rfl (lv_at hl 1 rfl) ?_
  refine fk_rw S E G j rfl (by omega) d_C_countOf_12 ?_
  refine fk_gn S E G (3 + 6 * j) (by omega) (v := .int (M (3 + 6 * j) 3)) (congrArg (fk_ce g ov (3 + 6 * j) (M (3 + 6 * j))) (fk_kf hj)) rfl 3 (by decide) rfl (List.mem_of_getElem? (i := 25) rfl) rfl d_C_countOf_13 ?_
  rw [hck]
  refine fk_ia S E G 83 (by decide) (congrArg (fk_ce g ov 83 (M 83)) kd_83) ck rfl (by omega) (by decide) (v := M 83 ck) rfl d_C_countOf_16 ?_
  exact fk_iret S hr hlk E G rfl rfl d_C_countOf_17
theorem d_C_combine_0 : decode b_C_combine 0 = .ok (.iload_n 0, 1) := by decide +kernel
theorem d_C_combine_1 : decode b_C_combine 1 = .ok (.tableswitch 87 6 12 #[43, 47, 51, 55, 69, 83, 87], 43) := by decide +kernel
theorem d_C_combine_44 : decode b_C_combine 44 = .ok (.iload_n 1, 1) := by decide +kernel
theorem d_C_combine_45 : decode b_C_combine 45 = .ok (.iload_n 2, 1) := by decide +kernel
theorem d_C_combine_46 : decode b_C_combine 46 = .ok (.iadd, 1) := by decide +kernel
theorem d_C_combine_47 : decode b_C_combine 47 = .ok (.ireturn, 1) := by decide +kernel
theorem d_C_combine_48 : decode b_C_combine 48 = .ok (.iload_n 1, 1) := by decide +kernel
theorem d_C_combine_49 : decode b_C_combine 49 = .ok (.iload_n 2, 1) := by decide +kernel
theorem d_C_combine_50 : decode b_C_combine 50 = .ok (.isub, 1) := by decide +kernel
theorem d_C_combine_51 : decode b_C_combine 51 = .ok (.ireturn, 1) := by decide +kernel
theorem d_C_combine_52 : decode b_C_combine 52 = .ok (.iload_n 1, 1) := by decide +kernel
theorem d_C_combine_53 : decode b_C_combine 53 = .ok (.iload_n 2, 1) := by decide +kernel
theorem d_C_combine_54 : decode b_C_combine 54 = .ok (.imul, 1) := by decide +kernel
theorem d_C_combine_55 : decode b_C_combine 55 = .ok (.ireturn, 1) := by decide +kernel
theorem d_C_combine_56 : decode b_C_combine 56 = .ok (.iload_n 1, 1) := by decide +kernel
theorem d_C_combine_57 : decode b_C_combine 57 = .ok (.iload_n 2, 1) := by decide +kernel
theorem d_C_combine_58 : decode b_C_combine 58 = .ok (.if_icmp .ge 7, 3) := by decide +kernel
theorem d_C_combine_61 : decode b_C_combine 61 = .ok (.iconst 1, 1) := by decide +kernel
theorem d_C_combine_62 : decode b_C_combine 62 = .ok (.goto 4, 3) := by decide +kernel
theorem d_C_combine_65 : decode b_C_combine 65 = .ok (.iconst 0, 1) := by decide +kernel
theorem d_C_combine_66 : decode b_C_combine 66 = .ok (.invokestatic 74, 3) := by decide +kernel
theorem d_C_combine_69 : decode b_C_combine 69 = .ok (.ireturn, 1) := by decide +kernel
theorem d_C_combine_70 : decode b_C_combine 70 = .ok (.iload_n 1, 1) := by decide +kernel
theorem d_C_combine_71 : decode b_C_combine 71 = .ok (.iload_n 2, 1) := by decide +kernel
theorem d_C_combine_72 : decode b_C_combine 72 = .ok (.if_icmp .ne 7, 3) := by decide +kernel
theorem d_C_combine_75 : decode b_C_combine 75 = .ok (.iconst 1, 1) := by decide +kernel
theorem d_C_combine_76 : decode b_C_combine 76 = .ok (.goto 4, 3) := by decide +kernel
theorem d_C_combine_79 : decode b_C_combine 79 = .ok (.iconst 0, 1) := by decide +kernel
theorem d_C_combine_80 : decode b_C_combine 80 = .ok (.invokestatic 74, 3) := by decide +kernel
theorem d_C_combine_83 : decode b_C_combine 83 = .ok (.ireturn, 1) := by decide +kernel
theorem d_C_combine_84 : decode b_C_combine 84 = .ok (.iload_n 1, 1) := by decide +kernel
theorem d_C_combine_85 : decode b_C_combine 85 = .ok (.iload_n 2, 1) := by decide +kernel
theorem d_C_combine_86 : decode b_C_combine 86 = .ok (.iand, 1) := by decide +kernel
theorem d_C_combine_87 : decode b_C_combine 87 = .ok (.ireturn, 1) := by decide +kernel
theorem d_C_combine_88 : decode b_C_combine 88 = .ok (.iload_n 1, 1) := by decide +kernel
theorem d_C_combine_89 : decode b_C_combine 89 = .ok (.iload_n 2, 1) := by decide +kernel
theorem d_C_combine_90 : decode b_C_combine 90 = .ok (.ior, 1) := by decide +kernel
theorem d_C_combine_91 : decode b_C_combine 91 = .ok (.ireturn, 1) := by decide +kernel
theorem m_C_combine : fk_MS y_C_combine b_C_combine 3 (some .int) 3 := ⟨i_580, i_579, i_7, by decide +kernel⟩
set_option maxHeartbeats 4000000 in
set_option maxRecDepth 100000 in
theorem c_C_combine (l : Launch) (g : fk_G) (ov : Int64) (M : fk_M) (k : Nat) (h6 : 6 ≤ k) (hk : k ≤ 12) (va vb : Int32) : fk_CI l y_C_combine b_C_combine 3 (some .int) (fk_rm 1) g ov M M [.int (nI k), .int va, .int vb] (fk_cb k va vb) := by
  refine fk_ofI rfl (Nat.le_of_ble_eq_true rfl) ?_
  intro p e s m args below meth c ls S hr hlk E G hl
  have hl : lv_has ls 3 [(0, .int (nI k)), (1, .int va), (2, .int vb)] := hl
  rcases (show k = 6 ∨ k = 7 ∨ k = 8 ∨ k = 9 ∨ k = 10 ∨ k = 11 ∨ k = 12 by omega) with rfl | rfl | rfl | rfl | rfl | rfl | rfl
  · refine lv_iload_n S.1 S.2.1 d_C_combine_0 rfl (lv_at hl 0 rfl) ?_
    refine lv_tableIn (off := 43) (tgt := 44) S.1 S.2.1 d_C_combine_1 (by decide +kernel) (by decide +kernel) (by decide +kernel) rfl ?_
    refine lv_iload_n S.1 S.2.1 d_C_combine_44 rfl (lv_at hl 1 rfl) ?_
    refine lv_iload_n S.1 S.2.1 d_C_combine_45 rfl (lv_at hl 2 rfl) ?_
    refine lv_iadd S.1 S.2.1 d_C_combine_46 ?_
    exact fk_iret S hr hlk E G rfl rfl d_C_combine_47
  · refine lv_iload_n S.1 S.2.1 d_C_combine_0 rfl (lv_at hl 0 rfl) ?_
    refine lv_tableIn (off := 47) (tgt := 48) S.1 S.2.1 d_C_combine_1 (by decide +kernel) (by decide +kernel) (by decide +kernel) rfl ?_
    refine lv_iload_n S.1 S.2.1 d_C_combine_48 rfl (lv_at hl 1 rfl) ?_
    refine lv_iload_n S.1 S.2.1 d_C_combine_49 rfl (lv_at hl 2 rfl) ?_
    refine lv_isub S.1 S.2.1 d_C_combine_50 ?_
    exact fk_iret S hr hlk E G rfl rfl d_C_combine_51
  · refine lv_iload_n S.1 S.2.1 d_C_combine_0 rfl (lv_at hl 0 rfl) ?_
    refine lv_tableIn (off := 51) (tgt := 52) S.1 S.2.1 d_C_combine_1 (by decide +kernel) (by decide +kernel) (by decide +kernel) rfl ?_
    refine lv_iload_n S.1 S.2.1 d_C_combine_52 rfl (lv_at hl 1 rfl) ?_
    refine lv_iload_n S.1 S.2.1 d_C_combine_53 rfl (lv_at hl 2 rfl) ?_
    refine lv_imul S.1 S.2.1 d_C_combine_54 ?_
    exact fk_iret S hr hlk E G rfl rfl d_C_combine_55
  · refine lv_iload_n S.1 S.2.1 d_C_combine_0 rfl (lv_at hl 0 rfl) ?_
    refine lv_tableIn (off := 55) (tgt := 56) S.1 S.2.1 d_C_combine_1 (by decide +kernel) (by decide +kernel) (by decide +kernel) rfl ?_
    refine lv_iload_n S.1 S.2.1 d_C_combine_56 rfl (lv_at hl 1 rfl) ?_
    refine lv_iload_n S.1 S.2.1 d_C_combine_57 rfl (lv_at hl 2 rfl) ?_
    refine lv_icmp_ge (tgt := 65) S.1 S.2.1 d_C_combine_58 rfl (fun hc1 => ?_) (fun hc1 => ?_)
    · refine lv_iconst (v := nI 0) S.1 S.2.1 d_C_combine_65 (by decide +kernel) ?_
      refine fk_cti S E G (rest := []) (c_D_truth l g ov M 0 (by decide)) m_D_truth (List.mem_of_getElem? (i := 37) rfl) ⟨rfl, rfl⟩ ⟨by decide, by decide⟩ rfl rfl hl.1 (Nat.le_of_ble_eq_true rfl) d_C_combine_66 ⟨Nat.zero_le _, Nat.zero_le _⟩ (fun H locs G => ?_)
      exact fk_iret S hr hlk E G rfl (fk_b0 (decide_eq_false (Int32.not_lt.mpr hc1))) d_C_combine_69
    · refine lv_iconst (v := nI 1) S.1 S.2.1 d_C_combine_61 (by decide +kernel) ?_
      refine lv_goto (tgt := 66) S.1 S.2.1 d_C_combine_62 rfl ?_
      refine fk_cti S E G (rest := []) (c_D_truth l g ov M 1 (by decide)) m_D_truth (List.mem_of_getElem? (i := 37) rfl) ⟨rfl, rfl⟩ ⟨by decide, by decide⟩ rfl rfl hl.1 (Nat.le_of_ble_eq_true rfl) d_C_combine_66 ⟨Nat.zero_le _, Nat.zero_le _⟩ (fun H locs G => ?_)
      exact fk_iret S hr hlk E G rfl (fk_b1 (decide_eq_true (Int32.not_le.mp hc1))) d_C_combine_69
  · refine lv_iload_n S.1 S.2.1 d_C_combine_0 rfl (lv_at hl 0 rfl) ?_
    refine lv_tableIn (off := 69) (tgt := 70) S.1 S.2.1 d_C_combine_1 (by decide +kernel) (by decide +kernel) (by decide +kernel) rfl ?_
    refine lv_iload_n S.1 S.2.1 d_C_combine_70 rfl (lv_at hl 1 rfl) ?_
    refine lv_iload_n S.1 S.2.1 d_C_combine_71 rfl (lv_at hl 2 rfl) ?_
    refine lv_icmp_ne (tgt := 79) S.1 S.2.1 d_C_combine_72 rfl (fun hc2 => ?_) (fun hc2 => ?_)
    · refine lv_iconst (v := nI 0) S.1 S.2.1 d_C_combine_79 (by decide +kernel) ?_
      refine fk_cti S E G (rest := []) (c_D_truth l g ov M 0 (by decide)) m_D_truth (List.mem_of_getElem? (i := 37) rfl) ⟨rfl, rfl⟩ ⟨by decide, by decide⟩ rfl rfl hl.1 (Nat.le_of_ble_eq_true rfl) d_C_combine_80 ⟨Nat.zero_le _, Nat.zero_le _⟩ (fun H locs G => ?_)
      exact fk_iret S hr hlk E G rfl (fk_b0 (decide_eq_false hc2)) d_C_combine_83
    · refine lv_iconst (v := nI 1) S.1 S.2.1 d_C_combine_75 (by decide +kernel) ?_
      refine lv_goto (tgt := 80) S.1 S.2.1 d_C_combine_76 rfl ?_
      refine fk_cti S E G (rest := []) (c_D_truth l g ov M 1 (by decide)) m_D_truth (List.mem_of_getElem? (i := 37) rfl) ⟨rfl, rfl⟩ ⟨by decide, by decide⟩ rfl rfl hl.1 (Nat.le_of_ble_eq_true rfl) d_C_combine_80 ⟨Nat.zero_le _, Nat.zero_le _⟩ (fun H locs G => ?_)
      exact fk_iret S hr hlk E G rfl (fk_b1 (decide_eq_true hc2)) d_C_combine_83
  · refine lv_iload_n S.1 S.2.1 d_C_combine_0 rfl (lv_at hl 0 rfl) ?_
    refine lv_tableIn (off := 83) (tgt := 84) S.1 S.2.1 d_C_combine_1 (by decide +kernel) (by decide +kernel) (by decide +kernel) rfl ?_
    refine lv_iload_n S.1 S.2.1 d_C_combine_84 rfl (lv_at hl 1 rfl) ?_
    refine lv_iload_n S.1 S.2.1 d_C_combine_85 rfl (lv_at hl 2 rfl) ?_
    refine lv_iand S.1 S.2.1 d_C_combine_86 ?_
    exact fk_iret S hr hlk E G rfl rfl d_C_combine_87
  · refine lv_iload_n S.1 S.2.1 d_C_combine_0 rfl (lv_at hl 0 rfl) ?_
    refine lv_tableIn (off := 87) (tgt := 88) S.1 S.2.1 d_C_combine_1 (by decide +kernel) (by decide +kernel) (by decide +kernel) rfl ?_
    refine lv_iload_n S.1 S.2.1 d_C_combine_88 rfl (lv_at hl 1 rfl) ?_
    refine lv_iload_n S.1 S.2.1 d_C_combine_89 rfl (lv_at hl 2 rfl) ?_
    refine lv_ior S.1 S.2.1 d_C_combine_90 ?_
    exact fk_iret S hr hlk E G rfl rfl d_C_combine_91
theorem d_C_chosenPart_0 : decode b_C_chosenPart 0 = .ok (.aload_n 1, 1) := by decide +kernel
theorem d_C_chosenPart_1 : decode b_C_chosenPart 1 = .ok (.getfield 101, 3) := by decide +kernel
theorem d_C_chosenPart_4 : decode b_C_chosenPart 4 = .ok (.iload_n 2, 1) := by decide +kernel
theorem d_C_chosenPart_5 : decode b_C_chosenPart 5 = .ok (.iaload, 1) := by decide +kernel
theorem d_C_chosenPart_6 : decode b_C_chosenPart 6 = .ok (.lookupswitch 158 #[(13, 34), (15, 72), (18, 112)], 34) := by decide +kernel
theorem d_C_chosenPart_40 : decode b_C_chosenPart 40 = .ok (.aload_n 0, 1) := by decide +kernel
theorem d_C_chosenPart_41 : decode b_C_chosenPart 41 = .ok (.aload_n 1, 1) := by decide +kernel
theorem d_C_chosenPart_42 : decode b_C_chosenPart 42 = .ok (.aload_n 1, 1) := by decide +kernel
theorem d_C_chosenPart_43 : decode b_C_chosenPart 43 = .ok (.iload_n 2, 1) := by decide +kernel
theorem d_C_chosenPart_44 : decode b_C_chosenPart 44 = .ok (.invokevirtual 107, 3) := by decide +kernel
theorem d_C_chosenPart_47 : decode b_C_chosenPart 47 = .ok (.invokevirtual 84, 3) := by decide +kernel
theorem d_C_chosenPart_50 : decode b_C_chosenPart 50 = .ok (.iconst 1, 1) := by decide +kernel
theorem d_C_chosenPart_51 : decode b_C_chosenPart 51 = .ok (.if_icmp .ne 7, 3) := by decide +kernel
theorem d_C_chosenPart_54 : decode b_C_chosenPart 54 = .ok (.iconst 1, 1) := by decide +kernel
theorem d_C_chosenPart_55 : decode b_C_chosenPart 55 = .ok (.goto 4, 3) := by decide +kernel
theorem d_C_chosenPart_58 : decode b_C_chosenPart 58 = .ok (.iconst 0, 1) := by decide +kernel
theorem d_C_chosenPart_59 : decode b_C_chosenPart 59 = .ok (.istore_n 3, 1) := by decide +kernel
theorem d_C_chosenPart_60 : decode b_C_chosenPart 60 = .ok (.iload_n 3, 1) := by decide +kernel
theorem d_C_chosenPart_61 : decode b_C_chosenPart 61 = .ok (.ifCond .eq 11, 3) := by decide +kernel
theorem d_C_chosenPart_64 : decode b_C_chosenPart 64 = .ok (.aload_n 1, 1) := by decide +kernel
theorem d_C_chosenPart_65 : decode b_C_chosenPart 65 = .ok (.iload_n 2, 1) := by decide +kernel
theorem d_C_chosenPart_66 : decode b_C_chosenPart 66 = .ok (.invokevirtual 116, 3) := by decide +kernel
theorem d_C_chosenPart_69 : decode b_C_chosenPart 69 = .ok (.goto 8, 3) := by decide +kernel
theorem d_C_chosenPart_72 : decode b_C_chosenPart 72 = .ok (.aload_n 1, 1) := by decide +kernel
theorem d_C_chosenPart_73 : decode b_C_chosenPart 73 = .ok (.iload_n 2, 1) := by decide +kernel
theorem d_C_chosenPart_74 : decode b_C_chosenPart 74 = .ok (.invokevirtual 123, 3) := by decide +kernel
theorem d_C_chosenPart_77 : decode b_C_chosenPart 77 = .ok (.ireturn, 1) := by decide +kernel
theorem d_C_chosenPart_78 : decode b_C_chosenPart 78 = .ok (.aload_n 0, 1) := by decide +kernel
theorem d_C_chosenPart_79 : decode b_C_chosenPart 79 = .ok (.getfield 9, 3) := by decide +kernel
theorem d_C_chosenPart_82 : decode b_C_chosenPart 82 = .ok (.aload_n 1, 1) := by decide +kernel
theorem d_C_chosenPart_83 : decode b_C_chosenPart 83 = .ok (.getfield 104, 3) := by decide +kernel
theorem d_C_chosenPart_86 : decode b_C_chosenPart 86 = .ok (.iload_n 2, 1) := by decide +kernel
theorem d_C_chosenPart_87 : decode b_C_chosenPart 87 = .ok (.iaload, 1) := by decide +kernel
theorem d_C_chosenPart_88 : decode b_C_chosenPart 88 = .ok (.iaload, 1) := by decide +kernel
theorem d_C_chosenPart_89 : decode b_C_chosenPart 89 = .ok (.ifCond .ne 7, 3) := by decide +kernel
theorem d_C_chosenPart_92 : decode b_C_chosenPart 92 = .ok (.iconst 1, 1) := by decide +kernel
theorem d_C_chosenPart_93 : decode b_C_chosenPart 93 = .ok (.goto 4, 3) := by decide +kernel
theorem d_C_chosenPart_96 : decode b_C_chosenPart 96 = .ok (.iconst 0, 1) := by decide +kernel
theorem d_C_chosenPart_97 : decode b_C_chosenPart 97 = .ok (.istore 4, 2) := by decide +kernel
theorem d_C_chosenPart_99 : decode b_C_chosenPart 99 = .ok (.iload 4, 2) := by decide +kernel
theorem d_C_chosenPart_101 : decode b_C_chosenPart 101 = .ok (.ifCond .eq 11, 3) := by decide +kernel
theorem d_C_chosenPart_104 : decode b_C_chosenPart 104 = .ok (.aload_n 1, 1) := by decide +kernel
theorem d_C_chosenPart_105 : decode b_C_chosenPart 105 = .ok (.iload_n 2, 1) := by decide +kernel
theorem d_C_chosenPart_106 : decode b_C_chosenPart 106 = .ok (.invokevirtual 107, 3) := by decide +kernel
theorem d_C_chosenPart_109 : decode b_C_chosenPart 109 = .ok (.goto 8, 3) := by decide +kernel
theorem d_C_chosenPart_112 : decode b_C_chosenPart 112 = .ok (.aload_n 1, 1) := by decide +kernel
theorem d_C_chosenPart_113 : decode b_C_chosenPart 113 = .ok (.iload_n 2, 1) := by decide +kernel
theorem d_C_chosenPart_114 : decode b_C_chosenPart 114 = .ok (.invokevirtual 116, 3) := by decide +kernel
theorem d_C_chosenPart_117 : decode b_C_chosenPart 117 = .ok (.ireturn, 1) := by decide +kernel
theorem d_C_chosenPart_118 : decode b_C_chosenPart 118 = .ok (.aload_n 0, 1) := by decide +kernel
theorem d_C_chosenPart_119 : decode b_C_chosenPart 119 = .ok (.getfield 15, 3) := by decide +kernel
theorem d_C_chosenPart_122 : decode b_C_chosenPart 122 = .ok (.getfield 35, 3) := by decide +kernel
theorem d_C_chosenPart_125 : decode b_C_chosenPart 125 = .ok (.aload_n 1, 1) := by decide +kernel
theorem d_C_chosenPart_126 : decode b_C_chosenPart 126 = .ok (.iload_n 2, 1) := by decide +kernel
theorem d_C_chosenPart_127 : decode b_C_chosenPart 127 = .ok (.invokevirtual 110, 3) := by decide +kernel
theorem d_C_chosenPart_130 : decode b_C_chosenPart 130 = .ok (.aaload, 1) := by decide +kernel
theorem d_C_chosenPart_131 : decode b_C_chosenPart 131 = .ok (.getfield 88, 3) := by decide +kernel
theorem d_C_chosenPart_134 : decode b_C_chosenPart 134 = .ok (.iconst 1, 1) := by decide +kernel
theorem d_C_chosenPart_135 : decode b_C_chosenPart 135 = .ok (.if_icmp .ne 7, 3) := by decide +kernel
theorem d_C_chosenPart_138 : decode b_C_chosenPart 138 = .ok (.iconst 1, 1) := by decide +kernel
theorem d_C_chosenPart_139 : decode b_C_chosenPart 139 = .ok (.goto 4, 3) := by decide +kernel
theorem d_C_chosenPart_142 : decode b_C_chosenPart 142 = .ok (.iconst 0, 1) := by decide +kernel
theorem d_C_chosenPart_143 : decode b_C_chosenPart 143 = .ok (.istore 5, 2) := by decide +kernel
theorem d_C_chosenPart_145 : decode b_C_chosenPart 145 = .ok (.iload 5, 2) := by decide +kernel
theorem d_C_chosenPart_147 : decode b_C_chosenPart 147 = .ok (.ifCond .eq 11, 3) := by decide +kernel
theorem d_C_chosenPart_150 : decode b_C_chosenPart 150 = .ok (.aload_n 1, 1) := by decide +kernel
theorem d_C_chosenPart_151 : decode b_C_chosenPart 151 = .ok (.iload_n 2, 1) := by decide +kernel
theorem d_C_chosenPart_152 : decode b_C_chosenPart 152 = .ok (.invokevirtual 107, 3) := by decide +kernel
theorem d_C_chosenPart_155 : decode b_C_chosenPart 155 = .ok (.goto 8, 3) := by decide +kernel
theorem d_C_chosenPart_158 : decode b_C_chosenPart 158 = .ok (.aload_n 1, 1) := by decide +kernel
theorem d_C_chosenPart_159 : decode b_C_chosenPart 159 = .ok (.iload_n 2, 1) := by decide +kernel
theorem d_C_chosenPart_160 : decode b_C_chosenPart 160 = .ok (.invokevirtual 116, 3) := by decide +kernel
theorem d_C_chosenPart_163 : decode b_C_chosenPart 163 = .ok (.ireturn, 1) := by decide +kernel
theorem d_C_chosenPart_164 : decode b_C_chosenPart 164 = .ok (.aload_n 1, 1) := by decide +kernel
theorem d_C_chosenPart_165 : decode b_C_chosenPart 165 = .ok (.iload_n 2, 1) := by decide +kernel
theorem d_C_chosenPart_166 : decode b_C_chosenPart 166 = .ok (.invokevirtual 107, 3) := by decide +kernel
theorem d_C_chosenPart_169 : decode b_C_chosenPart 169 = .ok (.ireturn, 1) := by decide +kernel
theorem m_C_chosenPart : fk_MI y_C_chosenPart b_C_chosenPart 6 (some .int) 2 := ⟨i_566, i_565, fk_mp (q := (y_C_chosenPart, 3)) (by decide +kernel), i_7, by decide +kernel⟩
theorem d_C_resultOf_0 : decode b_C_resultOf 0 = .ok (.aload_n 1, 1) := by decide +kernel
theorem d_C_resultOf_1 : decode b_C_resultOf 1 = .ok (.getfield 101, 3) := by decide +kernel
theorem d_C_resultOf_4 : decode b_C_resultOf 4 = .ok (.iload_n 2, 1) := by decide +kernel
theorem d_C_resultOf_5 : decode b_C_resultOf 5 = .ok (.iaload, 1) := by decide +kernel
theorem d_C_resultOf_6 : decode b_C_resultOf 6 = .ok (.tableswitch 168 0 18 #[90, 103, 105, 107, 143, 156, 168, 168, 168, 168, 168, 168, 168, 131, 124, 131, 131, 131, 131], 90) := by decide +kernel
theorem d_C_resultOf_96 : decode b_C_resultOf 96 = .ok (.aload_n 1, 1) := by decide +kernel
theorem d_C_resultOf_97 : decode b_C_resultOf 97 = .ok (.getfield 101, 3) := by decide +kernel
theorem d_C_resultOf_100 : decode b_C_resultOf 100 = .ok (.iload_n 2, 1) := by decide +kernel
theorem d_C_resultOf_101 : decode b_C_resultOf 101 = .ok (.iconst 1, 1) := by decide +kernel
theorem d_C_resultOf_102 : decode b_C_resultOf 102 = .ok (.iadd, 1) := by decide +kernel
theorem d_C_resultOf_103 : decode b_C_resultOf 103 = .ok (.iaload, 1) := by decide +kernel
theorem d_C_resultOf_104 : decode b_C_resultOf 104 = .ok (.sipush 128, 3) := by decide +kernel
theorem d_C_resultOf_107 : decode b_C_resultOf 107 = .ok (.isub, 1) := by decide +kernel
theorem d_C_resultOf_108 : decode b_C_resultOf 108 = .ok (.ireturn, 1) := by decide +kernel
theorem d_C_resultOf_109 : decode b_C_resultOf 109 = .ok (.iconst 1, 1) := by decide +kernel
theorem d_C_resultOf_110 : decode b_C_resultOf 110 = .ok (.ireturn, 1) := by decide +kernel
theorem d_C_resultOf_111 : decode b_C_resultOf 111 = .ok (.iconst 0, 1) := by decide +kernel
theorem d_C_resultOf_112 : decode b_C_resultOf 112 = .ok (.ireturn, 1) := by decide +kernel
theorem d_C_resultOf_113 : decode b_C_resultOf 113 = .ok (.aload_n 0, 1) := by decide +kernel
theorem d_C_resultOf_114 : decode b_C_resultOf 114 = .ok (.getfield 15, 3) := by decide +kernel
theorem d_C_resultOf_117 : decode b_C_resultOf 117 = .ok (.getfield 35, 3) := by decide +kernel
theorem d_C_resultOf_120 : decode b_C_resultOf 120 = .ok (.aload_n 1, 1) := by decide +kernel
theorem d_C_resultOf_121 : decode b_C_resultOf 121 = .ok (.iload_n 2, 1) := by decide +kernel
theorem d_C_resultOf_122 : decode b_C_resultOf 122 = .ok (.invokevirtual 110, 3) := by decide +kernel
theorem d_C_resultOf_125 : decode b_C_resultOf 125 = .ok (.aaload, 1) := by decide +kernel
theorem d_C_resultOf_126 : decode b_C_resultOf 126 = .ok (.getfield 88, 3) := by decide +kernel
theorem d_C_resultOf_129 : decode b_C_resultOf 129 = .ok (.ireturn, 1) := by decide +kernel
theorem d_C_resultOf_130 : decode b_C_resultOf 130 = .ok (.aload_n 1, 1) := by decide +kernel
theorem d_C_resultOf_131 : decode b_C_resultOf 131 = .ok (.getfield 49, 3) := by decide +kernel
theorem d_C_resultOf_134 : decode b_C_resultOf 134 = .ok (.iload_n 2, 1) := by decide +kernel
theorem d_C_resultOf_135 : decode b_C_resultOf 135 = .ok (.iaload, 1) := by decide +kernel
theorem d_C_resultOf_136 : decode b_C_resultOf 136 = .ok (.ireturn, 1) := by decide +kernel
theorem d_C_resultOf_137 : decode b_C_resultOf 137 = .ok (.aload_n 0, 1) := by decide +kernel
theorem d_C_resultOf_138 : decode b_C_resultOf 138 = .ok (.aload_n 1, 1) := by decide +kernel
theorem d_C_resultOf_139 : decode b_C_resultOf 139 = .ok (.aload_n 0, 1) := by decide +kernel
theorem d_C_resultOf_140 : decode b_C_resultOf 140 = .ok (.aload_n 1, 1) := by decide +kernel
theorem d_C_resultOf_141 : decode b_C_resultOf 141 = .ok (.iload_n 2, 1) := by decide +kernel
theorem d_C_resultOf_142 : decode b_C_resultOf 142 = .ok (.invokevirtual 113, 3) := by decide +kernel
theorem d_C_resultOf_145 : decode b_C_resultOf 145 = .ok (.invokevirtual 84, 3) := by decide +kernel
theorem d_C_resultOf_148 : decode b_C_resultOf 148 = .ok (.ireturn, 1) := by decide +kernel
theorem d_C_resultOf_149 : decode b_C_resultOf 149 = .ok (.iconst 1, 1) := by decide +kernel
theorem d_C_resultOf_150 : decode b_C_resultOf 150 = .ok (.aload_n 0, 1) := by decide +kernel
theorem d_C_resultOf_151 : decode b_C_resultOf 151 = .ok (.aload_n 1, 1) := by decide +kernel
theorem d_C_resultOf_152 : decode b_C_resultOf 152 = .ok (.aload_n 1, 1) := by decide +kernel
theorem d_C_resultOf_153 : decode b_C_resultOf 153 = .ok (.iload_n 2, 1) := by decide +kernel
theorem d_C_resultOf_154 : decode b_C_resultOf 154 = .ok (.invokevirtual 107, 3) := by decide +kernel
theorem d_C_resultOf_157 : decode b_C_resultOf 157 = .ok (.invokevirtual 84, 3) := by decide +kernel
theorem d_C_resultOf_160 : decode b_C_resultOf 160 = .ok (.isub, 1) := by decide +kernel
theorem d_C_resultOf_161 : decode b_C_resultOf 161 = .ok (.ireturn, 1) := by decide +kernel
theorem d_C_resultOf_162 : decode b_C_resultOf 162 = .ok (.aload_n 0, 1) := by decide +kernel
theorem d_C_resultOf_163 : decode b_C_resultOf 163 = .ok (.aload_n 1, 1) := by decide +kernel
theorem d_C_resultOf_164 : decode b_C_resultOf 164 = .ok (.aload_n 1, 1) := by decide +kernel
theorem d_C_resultOf_165 : decode b_C_resultOf 165 = .ok (.iload_n 2, 1) := by decide +kernel
theorem d_C_resultOf_166 : decode b_C_resultOf 166 = .ok (.invokevirtual 107, 3) := by decide +kernel
theorem d_C_resultOf_169 : decode b_C_resultOf 169 = .ok (.invokevirtual 84, 3) := by decide +kernel
theorem d_C_resultOf_172 : decode b_C_resultOf 172 = .ok (.ineg, 1) := by decide +kernel
theorem d_C_resultOf_173 : decode b_C_resultOf 173 = .ok (.ireturn, 1) := by decide +kernel
theorem d_C_resultOf_174 : decode b_C_resultOf 174 = .ok (.aload_n 1, 1) := by decide +kernel
theorem d_C_resultOf_175 : decode b_C_resultOf 175 = .ok (.getfield 101, 3) := by decide +kernel
theorem d_C_resultOf_178 : decode b_C_resultOf 178 = .ok (.iload_n 2, 1) := by decide +kernel
theorem d_C_resultOf_179 : decode b_C_resultOf 179 = .ok (.iaload, 1) := by decide +kernel
theorem d_C_resultOf_180 : decode b_C_resultOf 180 = .ok (.aload_n 0, 1) := by decide +kernel
theorem d_C_resultOf_181 : decode b_C_resultOf 181 = .ok (.aload_n 1, 1) := by decide +kernel
theorem d_C_resultOf_182 : decode b_C_resultOf 182 = .ok (.aload_n 1, 1) := by decide +kernel
theorem d_C_resultOf_183 : decode b_C_resultOf 183 = .ok (.iload_n 2, 1) := by decide +kernel
theorem d_C_resultOf_184 : decode b_C_resultOf 184 = .ok (.invokevirtual 107, 3) := by decide +kernel
theorem d_C_resultOf_187 : decode b_C_resultOf 187 = .ok (.invokevirtual 84, 3) := by decide +kernel
theorem d_C_resultOf_190 : decode b_C_resultOf 190 = .ok (.aload_n 0, 1) := by decide +kernel
theorem d_C_resultOf_191 : decode b_C_resultOf 191 = .ok (.aload_n 1, 1) := by decide +kernel
theorem d_C_resultOf_192 : decode b_C_resultOf 192 = .ok (.aload_n 1, 1) := by decide +kernel
theorem d_C_resultOf_193 : decode b_C_resultOf 193 = .ok (.iload_n 2, 1) := by decide +kernel
theorem d_C_resultOf_194 : decode b_C_resultOf 194 = .ok (.invokevirtual 116, 3) := by decide +kernel
theorem d_C_resultOf_197 : decode b_C_resultOf 197 = .ok (.invokevirtual 84, 3) := by decide +kernel
theorem d_C_resultOf_200 : decode b_C_resultOf 200 = .ok (.invokestatic 119, 3) := by decide +kernel
theorem d_C_resultOf_203 : decode b_C_resultOf 203 = .ok (.ireturn, 1) := by decide +kernel
theorem m_C_resultOf : fk_MI y_C_resultOf b_C_resultOf 3 (some .int) 2 := ⟨i_561, i_560, fk_mp (q := (y_C_resultOf, 3)) (by decide +kernel), i_7, by decide +kernel⟩
set_option maxHeartbeats 4000000 in
set_option maxRecDepth 100000 in
theorem c_C_chosenPart (l : Launch) (g : fk_G) (ov : Int64) (M : fk_M) (x : Nat) (hX : fk_X x) (bf : Nat → Nat) (n cnt : Nat) (hn40 : n ≤ 40) (h12 : cnt ≤ 12) (hb : ∀ j, j < n → M (x + 1) j = nI (bf j)) (hck : ∀ j, j < 40 → ∃ q, q < 25 ∧ M (x + 3) j = nI q) (r i ee : Nat) (ht : fk_T bf n cnt (M (x + 2)) (r + 1) i ee) (h13 : bf i = 13 ∨ bf i = 15 ∨ bf i = 16 ∨ bf i = 17 ∨ bf i = 18) (hR : ∀ j y, fk_T bf n cnt (M (x + 2)) r j y → fk_CI l y_C_resultOf b_C_resultOf 3 (some .int) (fk_rm (2 * r + 3)) g ov M M [.ref (fk_a g 82), .ref (fk_a g x), .int (nI j)] (fk_ev M x bf r j)) : fk_CI l y_C_chosenPart b_C_chosenPart 6 (some .int) (fk_rm (2 * r + 4)) g ov M M [.ref (fk_a g 82), .ref (fk_a g x), .int (nI i)] (nI (fk_cp M x bf r i)) := by
  have hlt := fk_T_lt _ _ _ ht
  obtain ⟨hok, hE, -, hts⟩ := ht
  refine fk_ofI rfl (Nat.le_of_ble_eq_true rfl) ?_
  intro p e s m args below meth c ls S hr hlk E G hl
  have hl : lv_has ls 6 [(0, .ref (fk_a g 82)), (1, .ref (fk_a g x)), (2, .int (nI i))] := hl
  rcases h13 with hk | hk | hk | hk | hk
  · have hok2 := hok.2.1
    have hts0 : fk_Ts (fk_T bf n cnt (M (x + 2)) r) 3 (i + fk_hd (bf i)) ee := by
      have h9 : fk_ar (bf i) = 3 := by rw [hk]; decide
      rw [h9] at hts
      exact hts
    obtain ⟨y1, t1, y2, t2, y3, t3, hz⟩ := hts0
    have l1 := fk_T_lt _ _ _ t1
    have n1 := fk_en_T hn40 t1
    have l2 := fk_T_lt _ _ _ t2
    have n2 := fk_en_T hn40 t2
    have l3 := fk_T_lt _ _ _ t3
    have n3 := fk_en_T hn40 t3
    refine lv_aload_n S.1 S.2.1 d_C_chosenPart_0 rfl (lv_at hl 1 rfl) ?_
    refine fk_gn S E G x (by have := fk_Xlt hX; omega) (v := .ref (fk_a g (x + 1))) (congrArg (fk_ce g ov x (M x)) (fk_kx0 hX)) rfl 0 (by decide) rfl (List.mem_of_getElem? (i := 2) rfl) rfl d_C_chosenPart_1 ?_
    refine lv_iload_n S.1 S.2.1 d_C_chosenPart_4 rfl (lv_at hl 2 rfl) ?_
    refine fk_ia S E G (x + 1) (by have := fk_Xlt hX; omega) (congrArg (fk_ce g ov (x + 1) (M (x + 1))) (fk_kx1 hX)) i rfl (by omega) (by decide) (v := nI 13) (by rw [hb i hok.1, hk]) d_C_chosenPart_5 ?_
    refine lv_lookup (off := 34) (tgt := 40) S.1 S.2.1 d_C_chosenPart_6 (by decide +kernel) (by decide +kernel) rfl ?_
    refine lv_aload_n S.1 S.2.1 d_C_chosenPart_40 rfl (lv_at hl 0 rfl) ?_
    refine lv_aload_n S.1 S.2.1 d_C_chosenPart_41 rfl (lv_at hl 1 rfl) ?_
    refine lv_aload_n S.1 S.2.1 d_C_chosenPart_42 rfl (lv_at hl 1 rfl) ?_
    refine lv_iload_n S.1 S.2.1 d_C_chosenPart_43 rfl (lv_at hl 2 rfl) ?_
    refine fk_cni S E G x (by have := fk_Xlt hX; omega) (congrArg (fk_ce g ov x (M x)) (fk_kx0 hX)) rfl (rest := [.ref (fk_a g x), .ref (fk_a g 82)]) (c_E_firstPart l g ov M x hX i (bf i) (by omega) (by have := hok.2.1; omega) (hb i hok.1)) m_E_firstPart (List.mem_of_getElem? (i := 34) rfl) ⟨rfl, rfl⟩ ⟨by show 0 + 1 ≤ 2 * r + 4; omega, by show 8 + (2 + 11) + 64 * (0) ≤ 64 * (2 * r + 4); omega⟩ rfl rfl hl.1 (Nat.le_of_ble_eq_true rfl) d_C_chosenPart_44 ⟨Nat.zero_le _, Nat.zero_le _⟩ (fun H locs G => ?_)
    refine fk_cvi S E G 82 (by decide) (congrArg (fk_ce g ov 82 (M 82)) kd_82) rfl (rest := []) (hR _ _ t1) m_C_resultOf i_558 ⟨rfl, rfl⟩ ⟨by show 2 * r + 3 + 1 ≤ 2 * r + 4; omega, by show 8 + (3 + 11) + 64 * (2 * r + 3) ≤ 64 * (2 * r + 4); omega⟩ rfl rfl hl.1 (Nat.le_of_ble_eq_true rfl) d_C_chosenPart_47 ⟨Nat.zero_le _, Nat.zero_le _⟩ (fun H locs G => ?_)
    refine lv_iconst (v := nI 1) S.1 S.2.1 d_C_chosenPart_50 (by decide +kernel) ?_
    refine lv_icmp_ne (tgt := 58) S.1 S.2.1 d_C_chosenPart_51 rfl (fun hc1 => ?_) (fun hc1 => ?_)
    · refine lv_iconst (v := nI 0) S.1 S.2.1 d_C_chosenPart_58 (by decide +kernel) ?_
      refine lv_istore_n (lv' := [(3, .int (nI 0)), (0, .ref (fk_a g 82)), (1, .ref (fk_a g x)), (2, .int (nI i))]) S.1 S.2.1 d_C_chosenPart_59 rfl hl (by decide) rfl (fun ls hl => ?_)
      refine lv_iload_n S.1 S.2.1 d_C_chosenPart_60 rfl (lv_at hl 0 rfl) ?_
      refine fk_zeq (tgt := 72) S.1 S.2.1 (by omega) d_C_chosenPart_61 rfl (fun hc2 => ?_) (fun hc2 => ?_)
      · refine lv_aload_n S.1 S.2.1 d_C_chosenPart_72 rfl (lv_at hl 2 rfl) ?_
        refine lv_iload_n S.1 S.2.1 d_C_chosenPart_73 rfl (lv_at hl 3 rfl) ?_
        refine fk_cni S E G x (by have := fk_Xlt hX; omega) (congrArg (fk_ce g ov x (M x)) (fk_kx0 hX)) rfl (rest := []) (fk_T_E t2 ▸ c_E_thirdPart l g ov M x hX i (bf i) (by omega) (by have := hok.2.1; omega) (hb i hok.1) (by omega) y1 (fk_T_E t1) (by omega)) m_E_thirdPart (List.mem_of_getElem? (i := 36) rfl) ⟨rfl, rfl⟩ ⟨by show 2 + 1 ≤ 2 * r + 4; omega, by show 8 + (2 + 11) + 64 * (2) ≤ 64 * (2 * r + 4); omega⟩ rfl rfl hl.1 (Nat.le_of_ble_eq_true rfl) d_C_chosenPart_74 ⟨Nat.zero_le _, Nat.zero_le _⟩ (fun H locs G => ?_)
        exact fk_iret S hr hlk E G rfl (by show _ = nI (fk_cq M x (bf i) _ i _ _ _ _); rw [n1, n2]; rw [hk] at hc1 ⊢; show _ = nI (if _ then _ else _); rw [if_neg hc1]) d_C_chosenPart_77
      · exact absurd hc2 (by omega)
    · refine lv_iconst (v := nI 1) S.1 S.2.1 d_C_chosenPart_54 (by decide +kernel) ?_
      refine lv_goto (tgt := 59) S.1 S.2.1 d_C_chosenPart_55 rfl ?_
      refine lv_istore_n (lv' := [(3, .int (nI 1)), (0, .ref (fk_a g 82)), (1, .ref (fk_a g x)), (2, .int (nI i))]) S.1 S.2.1 d_C_chosenPart_59 rfl hl (by decide) rfl (fun ls hl => ?_)
      refine lv_iload_n S.1 S.2.1 d_C_chosenPart_60 rfl (lv_at hl 0 rfl) ?_
      refine fk_zeq (tgt := 72) S.1 S.2.1 (by omega) d_C_chosenPart_61 rfl (fun hc3 => ?_) (fun hc3 => ?_)
      · exact absurd hc3 (by omega)
      · refine lv_aload_n S.1 S.2.1 d_C_chosenPart_64 rfl (lv_at hl 2 rfl) ?_
        refine lv_iload_n S.1 S.2.1 d_C_chosenPart_65 rfl (lv_at hl 3 rfl) ?_
        refine fk_cni S E G x (by have := fk_Xlt hX; omega) (congrArg (fk_ce g ov x (M x)) (fk_kx0 hX)) rfl (rest := []) (fk_T_E t1 ▸ c_E_secondPart l g ov M x hX i (bf i) (by omega) (by have := hok.2.1; omega) (hb i hok.1) (by omega)) m_E_secondPart (List.mem_of_getElem? (i := 35) rfl) ⟨rfl, rfl⟩ ⟨by show 1 + 1 ≤ 2 * r + 4; omega, by show 8 + (2 + 11) + 64 * (1) ≤ 64 * (2 * r + 4); omega⟩ rfl rfl hl.1 (Nat.le_of_ble_eq_true rfl) d_C_chosenPart_66 ⟨Nat.zero_le _, Nat.zero_le _⟩ (fun H locs G => ?_)
        refine lv_goto (tgt := 77) S.1 S.2.1 d_C_chosenPart_69 rfl ?_
        exact fk_iret S hr hlk E G rfl (by show _ = nI (fk_cq M x (bf i) _ i _ _ _ _); rw [n1]; rw [hk] at hc1 ⊢; show _ = nI (if _ then _ else _); rw [if_pos hc1]) d_C_chosenPart_77
  · have hok2 := hok.2.1
    have hts0 : fk_Ts (fk_T bf n cnt (M (x + 2)) r) 2 (i + fk_hd (bf i)) ee := by
      have h9 : fk_ar (bf i) = 2 := by rw [hk]; decide
      rw [h9] at hts
      exact hts
    obtain ⟨y1, t1, y2, t2, hz⟩ := hts0
    have l1 := fk_T_lt _ _ _ t1
    have n1 := fk_en_T hn40 t1
    have l2 := fk_T_lt _ _ _ t2
    have n2 := fk_en_T hn40 t2
    refine lv_aload_n S.1 S.2.1 d_C_chosenPart_0 rfl (lv_at hl 1 rfl) ?_
    refine fk_gn S E G x (by have := fk_Xlt hX; omega) (v := .ref (fk_a g (x + 1))) (congrArg (fk_ce g ov x (M x)) (fk_kx0 hX)) rfl 0 (by decide) rfl (List.mem_of_getElem? (i := 2) rfl) rfl d_C_chosenPart_1 ?_
    refine lv_iload_n S.1 S.2.1 d_C_chosenPart_4 rfl (lv_at hl 2 rfl) ?_
    refine fk_ia S E G (x + 1) (by have := fk_Xlt hX; omega) (congrArg (fk_ce g ov (x + 1) (M (x + 1))) (fk_kx1 hX)) i rfl (by omega) (by decide) (v := nI 15) (by rw [hb i hok.1, hk]) d_C_chosenPart_5 ?_
    refine lv_lookup (off := 72) (tgt := 78) S.1 S.2.1 d_C_chosenPart_6 (by decide +kernel) (by decide +kernel) rfl ?_
    obtain ⟨w, hw1, hw2⟩ := hck i (by omega)
    refine lv_aload_n S.1 S.2.1 d_C_chosenPart_78 rfl (lv_at hl 0 rfl) ?_
    refine fk_gf S E G 82 (by decide) (v := .ref (fk_a g 83)) (congrArg (fk_ce g ov 82 (M 82)) kd_82) rfl 2 (by decide) rfl i_190 rfl d_C_chosenPart_79 ?_
    refine lv_aload_n S.1 S.2.1 d_C_chosenPart_82 rfl (lv_at hl 1 rfl) ?_
    refine fk_gn S E G x (by have := fk_Xlt hX; omega) (v := .ref (fk_a g (x + 3))) (congrArg (fk_ce g ov x (M x)) (fk_kx0 hX)) rfl 2 (by decide) rfl (List.mem_of_getElem? (i := 5) rfl) rfl d_C_chosenPart_83 ?_
    refine lv_iload_n S.1 S.2.1 d_C_chosenPart_86 rfl (lv_at hl 2 rfl) ?_
    refine fk_ia S E G (x + 3) (by have := fk_Xlt hX; omega) (congrArg (fk_ce g ov (x + 3) (M (x + 3))) (fk_kx3 hX)) i rfl (by omega) (by decide) (v := nI w) hw2 d_C_chosenPart_87 ?_
    refine fk_ia S E G 83 (by decide) (congrArg (fk_ce g ov 83 (M 83)) kd_83) w rfl (by omega) (by decide) (v := M 83 w) rfl d_C_chosenPart_88 ?_
    refine lv_if_ne (tgt := 96) S.1 S.2.1 d_C_chosenPart_89 rfl (fun hc4 => ?_) (fun hc4 => ?_)
    · refine lv_iconst (v := nI 0) S.1 S.2.1 d_C_chosenPart_96 (by decide +kernel) ?_
      refine lv_istore (lv' := [(4, .int (nI 0)), (0, .ref (fk_a g 82)), (1, .ref (fk_a g x)), (2, .int (nI i))]) S.1 S.2.1 d_C_chosenPart_97 hl (by decide) rfl (fun ls hl => ?_)
      refine lv_iload S.1 S.2.1 d_C_chosenPart_99 (lv_at hl 0 rfl) ?_
      refine fk_zeq (tgt := 112) S.1 S.2.1 (by omega) d_C_chosenPart_101 rfl (fun hc5 => ?_) (fun hc5 => ?_)
      · refine lv_aload_n S.1 S.2.1 d_C_chosenPart_112 rfl (lv_at hl 2 rfl) ?_
        refine lv_iload_n S.1 S.2.1 d_C_chosenPart_113 rfl (lv_at hl 3 rfl) ?_
        refine fk_cni S E G x (by have := fk_Xlt hX; omega) (congrArg (fk_ce g ov x (M x)) (fk_kx0 hX)) rfl (rest := []) (fk_T_E t1 ▸ c_E_secondPart l g ov M x hX i (bf i) (by omega) (by have := hok.2.1; omega) (hb i hok.1) (by omega)) m_E_secondPart (List.mem_of_getElem? (i := 35) rfl) ⟨rfl, rfl⟩ ⟨by show 1 + 1 ≤ 2 * r + 4; omega, by show 8 + (2 + 11) + 64 * (1) ≤ 64 * (2 * r + 4); omega⟩ rfl rfl hl.1 (Nat.le_of_ble_eq_true rfl) d_C_chosenPart_114 ⟨Nat.zero_le _, Nat.zero_le _⟩ (fun H locs G => ?_)
        exact fk_iret S hr hlk E G rfl (by show _ = nI (fk_cq M x (bf i) _ i _ _ _ _); rw [n1, hk]; show _ = nI (if M 83 (M (x + 3) i).toNatClampNeg = 0 then _ else _); rw [hw2, nI_clamp (by omega), if_neg hc4]) d_C_chosenPart_117
      · exact absurd hc5 (by omega)
    · refine lv_iconst (v := nI 1) S.1 S.2.1 d_C_chosenPart_92 (by decide +kernel) ?_
      refine lv_goto (tgt := 97) S.1 S.2.1 d_C_chosenPart_93 rfl ?_
      refine lv_istore (lv' := [(4, .int (nI 1)), (0, .ref (fk_a g 82)), (1, .ref (fk_a g x)), (2, .int (nI i))]) S.1 S.2.1 d_C_chosenPart_97 hl (by decide) rfl (fun ls hl => ?_)
      refine lv_iload S.1 S.2.1 d_C_chosenPart_99 (lv_at hl 0 rfl) ?_
      refine fk_zeq (tgt := 112) S.1 S.2.1 (by omega) d_C_chosenPart_101 rfl (fun hc6 => ?_) (fun hc6 => ?_)
      · exact absurd hc6 (by omega)
      · refine lv_aload_n S.1 S.2.1 d_C_chosenPart_104 rfl (lv_at hl 2 rfl) ?_
        refine lv_iload_n S.1 S.2.1 d_C_chosenPart_105 rfl (lv_at hl 3 rfl) ?_
        refine fk_cni S E G x (by have := fk_Xlt hX; omega) (congrArg (fk_ce g ov x (M x)) (fk_kx0 hX)) rfl (rest := []) (c_E_firstPart l g ov M x hX i (bf i) (by omega) (by have := hok.2.1; omega) (hb i hok.1)) m_E_firstPart (List.mem_of_getElem? (i := 34) rfl) ⟨rfl, rfl⟩ ⟨by show 0 + 1 ≤ 2 * r + 4; omega, by show 8 + (2 + 11) + 64 * (0) ≤ 64 * (2 * r + 4); omega⟩ rfl rfl hl.1 (Nat.le_of_ble_eq_true rfl) d_C_chosenPart_106 ⟨Nat.zero_le _, Nat.zero_le _⟩ (fun H locs G => ?_)
        refine lv_goto (tgt := 117) S.1 S.2.1 d_C_chosenPart_109 rfl ?_
        exact fk_iret S hr hlk E G rfl (by show _ = nI (fk_cq M x (bf i) _ i _ _ _ _); rw [hk]; show _ = nI (if M 83 (M (x + 3) i).toNatClampNeg = 0 then _ else _); rw [hw2, nI_clamp (by omega), if_pos hc4]) d_C_chosenPart_117
  · have hok2 := hok.2.1
    refine lv_aload_n S.1 S.2.1 d_C_chosenPart_0 rfl (lv_at hl 1 rfl) ?_
    refine fk_gn S E G x (by have := fk_Xlt hX; omega) (v := .ref (fk_a g (x + 1))) (congrArg (fk_ce g ov x (M x)) (fk_kx0 hX)) rfl 0 (by decide) rfl (List.mem_of_getElem? (i := 2) rfl) rfl d_C_chosenPart_1 ?_
    refine lv_iload_n S.1 S.2.1 d_C_chosenPart_4 rfl (lv_at hl 2 rfl) ?_
    refine fk_ia S E G (x + 1) (by have := fk_Xlt hX; omega) (congrArg (fk_ce g ov (x + 1) (M (x + 1))) (fk_kx1 hX)) i rfl (by omega) (by decide) (v := nI 16) (by rw [hb i hok.1, hk]) d_C_chosenPart_5 ?_
    refine lv_lookup (off := 158) (tgt := 164) S.1 S.2.1 d_C_chosenPart_6 (by decide +kernel) (by decide +kernel) rfl ?_
    refine lv_aload_n S.1 S.2.1 d_C_chosenPart_164 rfl (lv_at hl 1 rfl) ?_
    refine lv_iload_n S.1 S.2.1 d_C_chosenPart_165 rfl (lv_at hl 2 rfl) ?_
    refine fk_cni S E G x (by have := fk_Xlt hX; omega) (congrArg (fk_ce g ov x (M x)) (fk_kx0 hX)) rfl (rest := []) (c_E_firstPart l g ov M x hX i (bf i) (by omega) (by have := hok.2.1; omega) (hb i hok.1)) m_E_firstPart (List.mem_of_getElem? (i := 34) rfl) ⟨rfl, rfl⟩ ⟨by show 0 + 1 ≤ 2 * r + 4; omega, by show 8 + (2 + 11) + 64 * (0) ≤ 64 * (2 * r + 4); omega⟩ rfl rfl hl.1 (Nat.le_of_ble_eq_true rfl) d_C_chosenPart_166 ⟨Nat.zero_le _, Nat.zero_le _⟩ (fun H locs G => ?_)
    exact fk_iret S hr hlk E G rfl (by show _ = nI (fk_cq M x (bf i) _ i _ _ _ _); rw [hk]; rfl) d_C_chosenPart_169
  · have hok2 := hok.2.1
    refine lv_aload_n S.1 S.2.1 d_C_chosenPart_0 rfl (lv_at hl 1 rfl) ?_
    refine fk_gn S E G x (by have := fk_Xlt hX; omega) (v := .ref (fk_a g (x + 1))) (congrArg (fk_ce g ov x (M x)) (fk_kx0 hX)) rfl 0 (by decide) rfl (List.mem_of_getElem? (i := 2) rfl) rfl d_C_chosenPart_1 ?_
    refine lv_iload_n S.1 S.2.1 d_C_chosenPart_4 rfl (lv_at hl 2 rfl) ?_
    refine fk_ia S E G (x + 1) (by have := fk_Xlt hX; omega) (congrArg (fk_ce g ov (x + 1) (M (x + 1))) (fk_kx1 hX)) i rfl (by omega) (by decide) (v := nI 17) (by rw [hb i hok.1, hk]) d_C_chosenPart_5 ?_
    refine lv_lookup (off := 158) (tgt := 164) S.1 S.2.1 d_C_chosenPart_6 (by decide +kernel) (by decide +kernel) rfl ?_
    refine lv_aload_n S.1 S.2.1 d_C_chosenPart_164 rfl (lv_at hl 1 rfl) ?_
    refine lv_iload_n S.1 S.2.1 d_C_chosenPart_165 rfl (lv_at hl 2 rfl) ?_
    refine fk_cni S E G x (by have := fk_Xlt hX; omega) (congrArg (fk_ce g ov x (M x)) (fk_kx0 hX)) rfl (rest := []) (c_E_firstPart l g ov M x hX i (bf i) (by omega) (by have := hok.2.1; omega) (hb i hok.1)) m_E_firstPart (List.mem_of_getElem? (i := 34) rfl) ⟨rfl, rfl⟩ ⟨by show 0 + 1 ≤ 2 * r + 4; omega, by show 8 + (2 + 11) + 64 * (0) ≤ 64 * (2 * r + 4); omega⟩ rfl rfl hl.1 (Nat.le_of_ble_eq_true rfl) d_C_chosenPart_166 ⟨Nat.zero_le _, Nat.zero_le _⟩ (fun H locs G => ?_)
    exact fk_iret S hr hlk E G rfl (by show _ = nI (fk_cq M x (bf i) _ i _ _ _ _); rw [hk]; rfl) d_C_chosenPart_169
  · have hok2 := hok.2.1
    have hts0 : fk_Ts (fk_T bf n cnt (M (x + 2)) r) 2 (i + fk_hd (bf i)) ee := by
      have h9 : fk_ar (bf i) = 2 := by rw [hk]; decide
      rw [h9] at hts
      exact hts
    obtain ⟨y1, t1, y2, t2, hz⟩ := hts0
    have l1 := fk_T_lt _ _ _ t1
    have n1 := fk_en_T hn40 t1
    have l2 := fk_T_lt _ _ _ t2
    have n2 := fk_en_T hn40 t2
    refine lv_aload_n S.1 S.2.1 d_C_chosenPart_0 rfl (lv_at hl 1 rfl) ?_
    refine fk_gn S E G x (by have := fk_Xlt hX; omega) (v := .ref (fk_a g (x + 1))) (congrArg (fk_ce g ov x (M x)) (fk_kx0 hX)) rfl 0 (by decide) rfl (List.mem_of_getElem? (i := 2) rfl) rfl d_C_chosenPart_1 ?_
    refine lv_iload_n S.1 S.2.1 d_C_chosenPart_4 rfl (lv_at hl 2 rfl) ?_
    refine fk_ia S E G (x + 1) (by have := fk_Xlt hX; omega) (congrArg (fk_ce g ov (x + 1) (M (x + 1))) (fk_kx1 hX)) i rfl (by omega) (by decide) (v := nI 18) (by rw [hb i hok.1, hk]) d_C_chosenPart_5 ?_
    refine lv_lookup (off := 112) (tgt := 118) S.1 S.2.1 d_C_chosenPart_6 (by decide +kernel) (by decide +kernel) rfl ?_
    have hw := hok.2.2.2 (by omega)
    have hd2 := fk_hd2 (k := bf i) (by omega)
    have hlen := hok.2.2.1
    refine lv_aload_n S.1 S.2.1 d_C_chosenPart_118 rfl (lv_at hl 0 rfl) ?_
    refine fk_gf S E G 82 (by decide) (v := .ref (fk_a g 1)) (congrArg (fk_ce g ov 82 (M 82)) kd_82) rfl 0 (by decide) rfl i_188 rfl d_C_chosenPart_119 ?_
    refine fk_gn S E G 1 (by decide) (v := .ref (fk_a g 2)) (congrArg (fk_ce g ov 1 (M 1)) kd_1) rfl 0 (by decide) rfl (List.mem_of_getElem? (i := 35) rfl) rfl d_C_chosenPart_122 ?_
    refine lv_aload_n S.1 S.2.1 d_C_chosenPart_125 rfl (lv_at hl 1 rfl) ?_
    refine lv_iload_n S.1 S.2.1 d_C_chosenPart_126 rfl (lv_at hl 2 rfl) ?_
    refine fk_cni S E G x (by have := fk_Xlt hX; omega) (congrArg (fk_ce g ov x (M x)) (fk_kx0 hX)) rfl (rest := [.ref (fk_a g 2)]) (hb (i + 1) (by omega) ▸ c_E_named l g ov M x hX i (by omega)) m_E_named (List.mem_of_getElem? (i := 33) rfl) ⟨rfl, rfl⟩ ⟨by show 0 + 1 ≤ 2 * r + 4; omega, by show 8 + (2 + 11) + 64 * (0) ≤ 64 * (2 * r + 4); omega⟩ rfl rfl hl.1 (Nat.le_of_ble_eq_true rfl) d_C_chosenPart_127 ⟨Nat.zero_le _, Nat.zero_le _⟩ (fun H locs G => ?_)
    refine fk_rw S E G (bf (i + 1)) rfl (by omega) d_C_chosenPart_130 ?_
    refine fk_gn S E G (3 + 6 * (bf (i + 1))) (by omega) (v := .int (M (3 + 6 * (bf (i + 1))) 6)) (congrArg (fk_ce g ov (3 + 6 * (bf (i + 1))) (M (3 + 6 * (bf (i + 1))))) (fk_kf (show bf (i + 1) < 12 by omega))) rfl 6 (by decide) rfl (List.mem_of_getElem? (i := 32) rfl) rfl d_C_chosenPart_131 ?_
    refine lv_iconst (v := nI 1) S.1 S.2.1 d_C_chosenPart_134 (by decide +kernel) ?_
    refine lv_icmp_ne (tgt := 142) S.1 S.2.1 d_C_chosenPart_135 rfl (fun hc7 => ?_) (fun hc7 => ?_)
    · refine lv_iconst (v := nI 0) S.1 S.2.1 d_C_chosenPart_142 (by decide +kernel) ?_
      refine lv_istore (lv' := [(5, .int (nI 0)), (0, .ref (fk_a g 82)), (1, .ref (fk_a g x)), (2, .int (nI i))]) S.1 S.2.1 d_C_chosenPart_143 hl (by decide) rfl (fun ls hl => ?_)
      refine lv_iload S.1 S.2.1 d_C_chosenPart_145 (lv_at hl 0 rfl) ?_
      refine fk_zeq (tgt := 158) S.1 S.2.1 (by omega) d_C_chosenPart_147 rfl (fun hc8 => ?_) (fun hc8 => ?_)
      · refine lv_aload_n S.1 S.2.1 d_C_chosenPart_158 rfl (lv_at hl 2 rfl) ?_
        refine lv_iload_n S.1 S.2.1 d_C_chosenPart_159 rfl (lv_at hl 3 rfl) ?_
        refine fk_cni S E G x (by have := fk_Xlt hX; omega) (congrArg (fk_ce g ov x (M x)) (fk_kx0 hX)) rfl (rest := []) (fk_T_E t1 ▸ c_E_secondPart l g ov M x hX i (bf i) (by omega) (by have := hok.2.1; omega) (hb i hok.1) (by omega)) m_E_secondPart (List.mem_of_getElem? (i := 35) rfl) ⟨rfl, rfl⟩ ⟨by show 1 + 1 ≤ 2 * r + 4; omega, by show 8 + (2 + 11) + 64 * (1) ≤ 64 * (2 * r + 4); omega⟩ rfl rfl hl.1 (Nat.le_of_ble_eq_true rfl) d_C_chosenPart_160 ⟨Nat.zero_le _, Nat.zero_le _⟩ (fun H locs G => ?_)
        exact fk_iret S hr hlk E G rfl (by show _ = nI (fk_cq M x (bf i) _ i _ _ _ _); rw [n1, hk]; show _ = nI (if _ then _ else _); rw [if_neg hc7]) d_C_chosenPart_163
      · exact absurd hc8 (by omega)
    · refine lv_iconst (v := nI 1) S.1 S.2.1 d_C_chosenPart_138 (by decide +kernel) ?_
      refine lv_goto (tgt := 143) S.1 S.2.1 d_C_chosenPart_139 rfl ?_
      refine lv_istore (lv' := [(5, .int (nI 1)), (0, .ref (fk_a g 82)), (1, .ref (fk_a g x)), (2, .int (nI i))]) S.1 S.2.1 d_C_chosenPart_143 hl (by decide) rfl (fun ls hl => ?_)
      refine lv_iload S.1 S.2.1 d_C_chosenPart_145 (lv_at hl 0 rfl) ?_
      refine fk_zeq (tgt := 158) S.1 S.2.1 (by omega) d_C_chosenPart_147 rfl (fun hc9 => ?_) (fun hc9 => ?_)
      · exact absurd hc9 (by omega)
      · refine lv_aload_n S.1 S.2.1 d_C_chosenPart_150 rfl (lv_at hl 2 rfl) ?_
        refine lv_iload_n S.1 S.2.1 d_C_chosenPart_151 rfl (lv_at hl 3 rfl) ?_
        refine fk_cni S E G x (by have := fk_Xlt hX; omega) (congrArg (fk_ce g ov x (M x)) (fk_kx0 hX)) rfl (rest := []) (c_E_firstPart l g ov M x hX i (bf i) (by omega) (by have := hok.2.1; omega) (hb i hok.1)) m_E_firstPart (List.mem_of_getElem? (i := 34) rfl) ⟨rfl, rfl⟩ ⟨by show 0 + 1 ≤ 2 * r + 4; omega, by show 8 + (2 + 11) + 64 * (0) ≤ 64 * (2 * r + 4); omega⟩ rfl rfl hl.1 (Nat.le_of_ble_eq_true rfl) d_C_chosenPart_152 ⟨Nat.zero_le _, Nat.zero_le _⟩ (fun H locs G => ?_)
        refine lv_goto (tgt := 163) S.1 S.2.1 d_C_chosenPart_155 rfl ?_
        exact fk_iret S hr hlk E G rfl (by show _ = nI (fk_cq M x (bf i) _ i _ _ _ _); rw [hk]; show _ = nI (if _ then _ else _); rw [if_pos hc7]) d_C_chosenPart_163
set_option maxHeartbeats 8000000 in
set_option maxRecDepth 100000 in
theorem c_C_resultOf (l : Launch) (g : fk_G) (ov : Int64) (M : fk_M) (x : Nat) (hX : fk_X x) (bf : Nat → Nat) (n cnt : Nat) (hn40 : n ≤ 40) (h12 : cnt ≤ 12) (hb : ∀ j, j < n → M (x + 1) j = nI (bf j)) (hck : ∀ j, j < 40 → ∃ q, q < 25 ∧ M (x + 3) j = nI q) : ∀ (r i ee : Nat), fk_T bf n cnt (M (x + 2)) r i ee → fk_CI l y_C_resultOf b_C_resultOf 3 (some .int) (fk_rm (2 * r + 3)) g ov M M [.ref (fk_a g 82), .ref (fk_a g x), .int (nI i)] (fk_ev M x bf r i) := by
  intro r
  induction r with
  | zero => intro i ee ht; exact ht.elim
  | succ r ih =>
    intro i ee ht
    have hlt := fk_T_lt _ _ _ ht
    have ht0 := ht
    obtain ⟨hok, hE, -, hts⟩ := ht
    have hok2 := hok.2.1
    have hlen := hok.2.2.1
    have hhd := fk_hd_pos (bf i)
    refine fk_ofI rfl (Nat.le_of_ble_eq_true rfl) ?_
    intro p e s m args below meth c ls S hr hlk E G hl
    have hl : lv_has ls 3 [(0, .ref (fk_a g 82)), (1, .ref (fk_a g x)), (2, .int (nI i))] := hl
    rcases (show bf i = 0 ∨ bf i = 1 ∨ bf i = 2 ∨ bf i = 3 ∨ bf i = 4 ∨ bf i = 5 ∨ bf i = 6 ∨ bf i = 7 ∨ bf i = 8 ∨ bf i = 9 ∨ bf i = 10 ∨ bf i = 11 ∨ bf i = 12 ∨ bf i = 13 ∨ bf i = 14 ∨ bf i = 15 ∨ bf i = 16 ∨ bf i = 17 ∨ bf i = 18 by omega) with hk | hk | hk | hk | hk | hk | hk | hk | hk | hk | hk | hk | hk | hk | hk | hk | hk | hk | hk
    · refine lv_aload_n S.1 S.2.1 d_C_resultOf_0 rfl (lv_at hl 1 rfl) ?_
      refine fk_gn S E G x (by have := fk_Xlt hX; omega) (v := .ref (fk_a g (x + 1))) (congrArg (fk_ce g ov x (M x)) (fk_kx0 hX)) rfl 0 (by decide) rfl (List.mem_of_getElem? (i := 2) rfl) rfl d_C_resultOf_1 ?_
      refine lv_iload_n S.1 S.2.1 d_C_resultOf_4 rfl (lv_at hl 2 rfl) ?_
      refine fk_ia S E G (x + 1) (by have := fk_Xlt hX; omega) (congrArg (fk_ce g ov (x + 1) (M (x + 1))) (fk_kx1 hX)) i rfl (by omega) (by decide) (v := nI 0) (by rw [hb i hok.1, hk]) d_C_resultOf_5 ?_
      refine lv_tableIn (off := 90) (tgt := 96) S.1 S.2.1 d_C_resultOf_6 (by decide +kernel) (by decide +kernel) (by decide +kernel) rfl ?_
      have hd2 : fk_hd (bf i) = 2 := by rw [hk]; decide
      refine lv_aload_n S.1 S.2.1 d_C_resultOf_96 rfl (lv_at hl 1 rfl) ?_
      refine fk_gn S E G x (by have := fk_Xlt hX; omega) (v := .ref (fk_a g (x + 1))) (congrArg (fk_ce g ov x (M x)) (fk_kx0 hX)) rfl 0 (by decide) rfl (List.mem_of_getElem? (i := 2) rfl) rfl d_C_resultOf_97 ?_
      refine lv_iload_n S.1 S.2.1 d_C_resultOf_100 rfl (lv_at hl 2 rfl) ?_
      refine lv_iconst (v := nI 1) S.1 S.2.1 d_C_resultOf_101 (by decide +kernel) ?_
      refine fk_iadd S.1 S.2.1 d_C_resultOf_102 ?_
      refine fk_ia S E G (x + 1) (by have := fk_Xlt hX; omega) (congrArg (fk_ce g ov (x + 1) (M (x + 1))) (fk_kx1 hX)) (i + 1) rfl (by omega) (by decide) (v := nI (bf (i + 1))) (hb (i + 1) (by omega)) d_C_resultOf_103 ?_
      refine lv_sipush (v := nI 128) S.1 S.2.1 d_C_resultOf_104 (by decide +kernel) ?_
      refine lv_isub S.1 S.2.1 d_C_resultOf_107 ?_
      exact fk_iret S hr hlk E G rfl (by show _ = fk_ek M x (bf i) (bf (i + 1)) i _ _ _; rw [hk]; rfl) d_C_resultOf_108
    · refine lv_aload_n S.1 S.2.1 d_C_resultOf_0 rfl (lv_at hl 1 rfl) ?_
      refine fk_gn S E G x (by have := fk_Xlt hX; omega) (v := .ref (fk_a g (x + 1))) (congrArg (fk_ce g ov x (M x)) (fk_kx0 hX)) rfl 0 (by decide) rfl (List.mem_of_getElem? (i := 2) rfl) rfl d_C_resultOf_1 ?_
      refine lv_iload_n S.1 S.2.1 d_C_resultOf_4 rfl (lv_at hl 2 rfl) ?_
      refine fk_ia S E G (x + 1) (by have := fk_Xlt hX; omega) (congrArg (fk_ce g ov (x + 1) (M (x + 1))) (fk_kx1 hX)) i rfl (by omega) (by decide) (v := nI 1) (by rw [hb i hok.1, hk]) d_C_resultOf_5 ?_
      refine lv_tableIn (off := 103) (tgt := 109) S.1 S.2.1 d_C_resultOf_6 (by decide +kernel) (by decide +kernel) (by decide +kernel) rfl ?_
      refine lv_iconst (v := nI 1) S.1 S.2.1 d_C_resultOf_109 (by decide +kernel) ?_
      exact fk_iret S hr hlk E G rfl (by show _ = fk_ek M x (bf i) (bf (i + 1)) i _ _ _; rw [hk]; rfl) d_C_resultOf_110
    · refine lv_aload_n S.1 S.2.1 d_C_resultOf_0 rfl (lv_at hl 1 rfl) ?_
      refine fk_gn S E G x (by have := fk_Xlt hX; omega) (v := .ref (fk_a g (x + 1))) (congrArg (fk_ce g ov x (M x)) (fk_kx0 hX)) rfl 0 (by decide) rfl (List.mem_of_getElem? (i := 2) rfl) rfl d_C_resultOf_1 ?_
      refine lv_iload_n S.1 S.2.1 d_C_resultOf_4 rfl (lv_at hl 2 rfl) ?_
      refine fk_ia S E G (x + 1) (by have := fk_Xlt hX; omega) (congrArg (fk_ce g ov (x + 1) (M (x + 1))) (fk_kx1 hX)) i rfl (by omega) (by decide) (v := nI 2) (by rw [hb i hok.1, hk]) d_C_resultOf_5 ?_
      refine lv_tableIn (off := 105) (tgt := 111) S.1 S.2.1 d_C_resultOf_6 (by decide +kernel) (by decide +kernel) (by decide +kernel) rfl ?_
      refine lv_iconst (v := nI 0) S.1 S.2.1 d_C_resultOf_111 (by decide +kernel) ?_
      exact fk_iret S hr hlk E G rfl (by show _ = fk_ek M x (bf i) (bf (i + 1)) i _ _ _; rw [hk]; rfl) d_C_resultOf_112
    · refine lv_aload_n S.1 S.2.1 d_C_resultOf_0 rfl (lv_at hl 1 rfl) ?_
      refine fk_gn S E G x (by have := fk_Xlt hX; omega) (v := .ref (fk_a g (x + 1))) (congrArg (fk_ce g ov x (M x)) (fk_kx0 hX)) rfl 0 (by decide) rfl (List.mem_of_getElem? (i := 2) rfl) rfl d_C_resultOf_1 ?_
      refine lv_iload_n S.1 S.2.1 d_C_resultOf_4 rfl (lv_at hl 2 rfl) ?_
      refine fk_ia S E G (x + 1) (by have := fk_Xlt hX; omega) (congrArg (fk_ce g ov (x + 1) (M (x + 1))) (fk_kx1 hX)) i rfl (by omega) (by decide) (v := nI 3) (by rw [hb i hok.1, hk]) d_C_resultOf_5 ?_
      refine lv_tableIn (off := 107) (tgt := 113) S.1 S.2.1 d_C_resultOf_6 (by decide +kernel) (by decide +kernel) (by decide +kernel) rfl ?_
      have hw := hok.2.2.2 (by omega)
      have hd2 := fk_hd2 (k := bf i) (by omega)
      have hlen := hok.2.2.1
      refine lv_aload_n S.1 S.2.1 d_C_resultOf_113 rfl (lv_at hl 0 rfl) ?_
      refine fk_gf S E G 82 (by decide) (v := .ref (fk_a g 1)) (congrArg (fk_ce g ov 82 (M 82)) kd_82) rfl 0 (by decide) rfl i_188 rfl d_C_resultOf_114 ?_
      refine fk_gn S E G 1 (by decide) (v := .ref (fk_a g 2)) (congrArg (fk_ce g ov 1 (M 1)) kd_1) rfl 0 (by decide) rfl (List.mem_of_getElem? (i := 35) rfl) rfl d_C_resultOf_117 ?_
      refine lv_aload_n S.1 S.2.1 d_C_resultOf_120 rfl (lv_at hl 1 rfl) ?_
      refine lv_iload_n S.1 S.2.1 d_C_resultOf_121 rfl (lv_at hl 2 rfl) ?_
      refine fk_cni S E G x (by have := fk_Xlt hX; omega) (congrArg (fk_ce g ov x (M x)) (fk_kx0 hX)) rfl (rest := [.ref (fk_a g 2)]) (hb (i + 1) (by omega) ▸ c_E_named l g ov M x hX i (by omega)) m_E_named (List.mem_of_getElem? (i := 33) rfl) ⟨rfl, rfl⟩ ⟨by show 0 + 1 ≤ 2 * (r + 1) + 3; omega, by show 8 + (2 + 11) + 64 * (0) ≤ 64 * (2 * (r + 1) + 3); omega⟩ rfl rfl hl.1 (Nat.le_of_ble_eq_true rfl) d_C_resultOf_122 ⟨Nat.zero_le _, Nat.zero_le _⟩ (fun H locs G => ?_)
      refine fk_rw S E G (bf (i + 1)) rfl (by omega) d_C_resultOf_125 ?_
      refine fk_gn S E G (3 + 6 * (bf (i + 1))) (by omega) (v := .int (M (3 + 6 * (bf (i + 1))) 6)) (congrArg (fk_ce g ov (3 + 6 * (bf (i + 1))) (M (3 + 6 * (bf (i + 1))))) (fk_kf (show bf (i + 1) < 12 by omega))) rfl 6 (by decide) rfl (List.mem_of_getElem? (i := 32) rfl) rfl d_C_resultOf_126 ?_
      exact fk_iret S hr hlk E G rfl (by show _ = fk_ek M x (bf i) (bf (i + 1)) i _ _ _; rw [hk]; rfl) d_C_resultOf_129
    · have hts0 : fk_Ts (fk_T bf n cnt (M (x + 2)) r) 1 (i + fk_hd (bf i)) ee := by
        have h9 : fk_ar (bf i) = 1 := by rw [hk]; decide
        rw [h9] at hts
        exact hts
      obtain ⟨y1, t1, hz⟩ := hts0
      have l1 := fk_T_lt _ _ _ t1
      have n1 := fk_en_T hn40 t1
      refine lv_aload_n S.1 S.2.1 d_C_resultOf_0 rfl (lv_at hl 1 rfl) ?_
      refine fk_gn S E G x (by have := fk_Xlt hX; omega) (v := .ref (fk_a g (x + 1))) (congrArg (fk_ce g ov x (M x)) (fk_kx0 hX)) rfl 0 (by decide) rfl (List.mem_of_getElem? (i := 2) rfl) rfl d_C_resultOf_1 ?_
      refine lv_iload_n S.1 S.2.1 d_C_resultOf_4 rfl (lv_at hl 2 rfl) ?_
      refine fk_ia S E G (x + 1) (by have := fk_Xlt hX; omega) (congrArg (fk_ce g ov (x + 1) (M (x + 1))) (fk_kx1 hX)) i rfl (by omega) (by decide) (v := nI 4) (by rw [hb i hok.1, hk]) d_C_resultOf_5 ?_
      refine lv_tableIn (off := 143) (tgt := 149) S.1 S.2.1 d_C_resultOf_6 (by decide +kernel) (by decide +kernel) (by decide +kernel) rfl ?_
      refine lv_iconst (v := nI 1) S.1 S.2.1 d_C_resultOf_149 (by decide +kernel) ?_
      refine lv_aload_n S.1 S.2.1 d_C_resultOf_150 rfl (lv_at hl 0 rfl) ?_
      refine lv_aload_n S.1 S.2.1 d_C_resultOf_151 rfl (lv_at hl 1 rfl) ?_
      refine lv_aload_n S.1 S.2.1 d_C_resultOf_152 rfl (lv_at hl 1 rfl) ?_
      refine lv_iload_n S.1 S.2.1 d_C_resultOf_153 rfl (lv_at hl 2 rfl) ?_
      refine fk_cni S E G x (by have := fk_Xlt hX; omega) (congrArg (fk_ce g ov x (M x)) (fk_kx0 hX)) rfl (rest := [.ref (fk_a g x), .ref (fk_a g 82), .int (nI 1)]) (c_E_firstPart l g ov M x hX i (bf i) (by omega) (by have := hok.2.1; omega) (hb i hok.1)) m_E_firstPart (List.mem_of_getElem? (i := 34) rfl) ⟨rfl, rfl⟩ ⟨by show 0 + 1 ≤ 2 * (r + 1) + 3; omega, by show 8 + (2 + 11) + 64 * (0) ≤ 64 * (2 * (r + 1) + 3); omega⟩ rfl rfl hl.1 (Nat.le_of_ble_eq_true rfl) d_C_resultOf_154 ⟨Nat.zero_le _, Nat.zero_le _⟩ (fun H locs G => ?_)
      refine fk_cvi S E G 82 (by decide) (congrArg (fk_ce g ov 82 (M 82)) kd_82) rfl (rest := [.int (nI 1)]) (ih _ _ t1) m_C_resultOf i_558 ⟨rfl, rfl⟩ ⟨by show 2 * r + 3 + 1 ≤ 2 * (r + 1) + 3; omega, by show 8 + (3 + 11) + 64 * (2 * r + 3) ≤ 64 * (2 * (r + 1) + 3); omega⟩ rfl rfl hl.1 (Nat.le_of_ble_eq_true rfl) d_C_resultOf_157 ⟨Nat.zero_le _, Nat.zero_le _⟩ (fun H locs G => ?_)
      refine lv_isub S.1 S.2.1 d_C_resultOf_160 ?_
      exact fk_iret S hr hlk E G rfl (by show _ = fk_ek M x (bf i) (bf (i + 1)) i _ _ _; rw [hk]; rfl) d_C_resultOf_161
    · have hts0 : fk_Ts (fk_T bf n cnt (M (x + 2)) r) 1 (i + fk_hd (bf i)) ee := by
        have h9 : fk_ar (bf i) = 1 := by rw [hk]; decide
        rw [h9] at hts
        exact hts
      obtain ⟨y1, t1, hz⟩ := hts0
      have l1 := fk_T_lt _ _ _ t1
      have n1 := fk_en_T hn40 t1
      refine lv_aload_n S.1 S.2.1 d_C_resultOf_0 rfl (lv_at hl 1 rfl) ?_
      refine fk_gn S E G x (by have := fk_Xlt hX; omega) (v := .ref (fk_a g (x + 1))) (congrArg (fk_ce g ov x (M x)) (fk_kx0 hX)) rfl 0 (by decide) rfl (List.mem_of_getElem? (i := 2) rfl) rfl d_C_resultOf_1 ?_
      refine lv_iload_n S.1 S.2.1 d_C_resultOf_4 rfl (lv_at hl 2 rfl) ?_
      refine fk_ia S E G (x + 1) (by have := fk_Xlt hX; omega) (congrArg (fk_ce g ov (x + 1) (M (x + 1))) (fk_kx1 hX)) i rfl (by omega) (by decide) (v := nI 5) (by rw [hb i hok.1, hk]) d_C_resultOf_5 ?_
      refine lv_tableIn (off := 156) (tgt := 162) S.1 S.2.1 d_C_resultOf_6 (by decide +kernel) (by decide +kernel) (by decide +kernel) rfl ?_
      refine lv_aload_n S.1 S.2.1 d_C_resultOf_162 rfl (lv_at hl 0 rfl) ?_
      refine lv_aload_n S.1 S.2.1 d_C_resultOf_163 rfl (lv_at hl 1 rfl) ?_
      refine lv_aload_n S.1 S.2.1 d_C_resultOf_164 rfl (lv_at hl 1 rfl) ?_
      refine lv_iload_n S.1 S.2.1 d_C_resultOf_165 rfl (lv_at hl 2 rfl) ?_
      refine fk_cni S E G x (by have := fk_Xlt hX; omega) (congrArg (fk_ce g ov x (M x)) (fk_kx0 hX)) rfl (rest := [.ref (fk_a g x), .ref (fk_a g 82)]) (c_E_firstPart l g ov M x hX i (bf i) (by omega) (by have := hok.2.1; omega) (hb i hok.1)) m_E_firstPart (List.mem_of_getElem? (i := 34) rfl) ⟨rfl, rfl⟩ ⟨by show 0 + 1 ≤ 2 * (r + 1) + 3; omega, by show 8 + (2 + 11) + 64 * (0) ≤ 64 * (2 * (r + 1) + 3); omega⟩ rfl rfl hl.1 (Nat.le_of_ble_eq_true rfl) d_C_resultOf_166 ⟨Nat.zero_le _, Nat.zero_le _⟩ (fun H locs G => ?_)
      refine fk_cvi S E G 82 (by decide) (congrArg (fk_ce g ov 82 (M 82)) kd_82) rfl (rest := []) (ih _ _ t1) m_C_resultOf i_558 ⟨rfl, rfl⟩ ⟨by show 2 * r + 3 + 1 ≤ 2 * (r + 1) + 3; omega, by show 8 + (3 + 11) + 64 * (2 * r + 3) ≤ 64 * (2 * (r + 1) + 3); omega⟩ rfl rfl hl.1 (Nat.le_of_ble_eq_true rfl) d_C_resultOf_169 ⟨Nat.zero_le _, Nat.zero_le _⟩ (fun H locs G => ?_)
      refine lv_ineg S.1 S.2.1 d_C_resultOf_172 ?_
      exact fk_iret S hr hlk E G rfl (by show _ = fk_ek M x (bf i) (bf (i + 1)) i _ _ _; rw [hk]; rfl) d_C_resultOf_173
    · have hts0 : fk_Ts (fk_T bf n cnt (M (x + 2)) r) 2 (i + fk_hd (bf i)) ee := by
        have h9 : fk_ar (bf i) = 2 := by rw [hk]; decide
        rw [h9] at hts
        exact hts
      obtain ⟨y1, t1, y2, t2, hz⟩ := hts0
      have l1 := fk_T_lt _ _ _ t1
      have n1 := fk_en_T hn40 t1
      have l2 := fk_T_lt _ _ _ t2
      have n2 := fk_en_T hn40 t2
      refine lv_aload_n S.1 S.2.1 d_C_resultOf_0 rfl (lv_at hl 1 rfl) ?_
      refine fk_gn S E G x (by have := fk_Xlt hX; omega) (v := .ref (fk_a g (x + 1))) (congrArg (fk_ce g ov x (M x)) (fk_kx0 hX)) rfl 0 (by decide) rfl (List.mem_of_getElem? (i := 2) rfl) rfl d_C_resultOf_1 ?_
      refine lv_iload_n S.1 S.2.1 d_C_resultOf_4 rfl (lv_at hl 2 rfl) ?_
      refine fk_ia S E G (x + 1) (by have := fk_Xlt hX; omega) (congrArg (fk_ce g ov (x + 1) (M (x + 1))) (fk_kx1 hX)) i rfl (by omega) (by decide) (v := nI 6) (by rw [hb i hok.1, hk]) d_C_resultOf_5 ?_
      refine lv_tableIn (off := 168) (tgt := 174) S.1 S.2.1 d_C_resultOf_6 (by decide +kernel) (by decide +kernel) (by decide +kernel) rfl ?_
      refine lv_aload_n S.1 S.2.1 d_C_resultOf_174 rfl (lv_at hl 1 rfl) ?_
      refine fk_gn S E G x (by have := fk_Xlt hX; omega) (v := .ref (fk_a g (x + 1))) (congrArg (fk_ce g ov x (M x)) (fk_kx0 hX)) rfl 0 (by decide) rfl (List.mem_of_getElem? (i := 2) rfl) rfl d_C_resultOf_175 ?_
      refine lv_iload_n S.1 S.2.1 d_C_resultOf_178 rfl (lv_at hl 2 rfl) ?_
      refine fk_ia S E G (x + 1) (by have := fk_Xlt hX; omega) (congrArg (fk_ce g ov (x + 1) (M (x + 1))) (fk_kx1 hX)) i rfl (by omega) (by decide) (v := nI (bf i)) (hb i hok.1) d_C_resultOf_179 ?_
      refine lv_aload_n S.1 S.2.1 d_C_resultOf_180 rfl (lv_at hl 0 rfl) ?_
      refine lv_aload_n S.1 S.2.1 d_C_resultOf_181 rfl (lv_at hl 1 rfl) ?_
      refine lv_aload_n S.1 S.2.1 d_C_resultOf_182 rfl (lv_at hl 1 rfl) ?_
      refine lv_iload_n S.1 S.2.1 d_C_resultOf_183 rfl (lv_at hl 2 rfl) ?_
      refine fk_cni S E G x (by have := fk_Xlt hX; omega) (congrArg (fk_ce g ov x (M x)) (fk_kx0 hX)) rfl (rest := [.ref (fk_a g x), .ref (fk_a g 82), .int (nI (bf i))]) (c_E_firstPart l g ov M x hX i (bf i) (by omega) (by have := hok.2.1; omega) (hb i hok.1)) m_E_firstPart (List.mem_of_getElem? (i := 34) rfl) ⟨rfl, rfl⟩ ⟨by show 0 + 1 ≤ 2 * (r + 1) + 3; omega, by show 8 + (2 + 11) + 64 * (0) ≤ 64 * (2 * (r + 1) + 3); omega⟩ rfl rfl hl.1 (Nat.le_of_ble_eq_true rfl) d_C_resultOf_184 ⟨Nat.zero_le _, Nat.zero_le _⟩ (fun H locs G => ?_)
      refine fk_cvi S E G 82 (by decide) (congrArg (fk_ce g ov 82 (M 82)) kd_82) rfl (rest := [.int (nI (bf i))]) (ih _ _ t1) m_C_resultOf i_558 ⟨rfl, rfl⟩ ⟨by show 2 * r + 3 + 1 ≤ 2 * (r + 1) + 3; omega, by show 8 + (3 + 11) + 64 * (2 * r + 3) ≤ 64 * (2 * (r + 1) + 3); omega⟩ rfl rfl hl.1 (Nat.le_of_ble_eq_true rfl) d_C_resultOf_187 ⟨Nat.zero_le _, Nat.zero_le _⟩ (fun H locs G => ?_)
      refine lv_aload_n S.1 S.2.1 d_C_resultOf_190 rfl (lv_at hl 0 rfl) ?_
      refine lv_aload_n S.1 S.2.1 d_C_resultOf_191 rfl (lv_at hl 1 rfl) ?_
      refine lv_aload_n S.1 S.2.1 d_C_resultOf_192 rfl (lv_at hl 1 rfl) ?_
      refine lv_iload_n S.1 S.2.1 d_C_resultOf_193 rfl (lv_at hl 2 rfl) ?_
      refine fk_cni S E G x (by have := fk_Xlt hX; omega) (congrArg (fk_ce g ov x (M x)) (fk_kx0 hX)) rfl (rest := [.ref (fk_a g x), .ref (fk_a g 82), .int (fk_ev M x bf r (i + fk_hd (bf i))), .int (nI (bf i))]) (fk_T_E t1 ▸ c_E_secondPart l g ov M x hX i (bf i) (by omega) (by have := hok.2.1; omega) (hb i hok.1) (by omega)) m_E_secondPart (List.mem_of_getElem? (i := 35) rfl) ⟨rfl, rfl⟩ ⟨by show 1 + 1 ≤ 2 * (r + 1) + 3; omega, by show 8 + (2 + 11) + 64 * (1) ≤ 64 * (2 * (r + 1) + 3); omega⟩ rfl rfl hl.1 (Nat.le_of_ble_eq_true rfl) d_C_resultOf_194 ⟨Nat.zero_le _, Nat.zero_le _⟩ (fun H locs G => ?_)
      refine fk_cvi S E G 82 (by decide) (congrArg (fk_ce g ov 82 (M 82)) kd_82) rfl (rest := [.int (fk_ev M x bf r (i + fk_hd (bf i))), .int (nI (bf i))]) (ih _ _ t2) m_C_resultOf i_558 ⟨rfl, rfl⟩ ⟨by show 2 * r + 3 + 1 ≤ 2 * (r + 1) + 3; omega, by show 8 + (3 + 11) + 64 * (2 * r + 3) ≤ 64 * (2 * (r + 1) + 3); omega⟩ rfl rfl hl.1 (Nat.le_of_ble_eq_true rfl) d_C_resultOf_197 ⟨Nat.zero_le _, Nat.zero_le _⟩ (fun H locs G => ?_)
      refine fk_csi S E G (rest := []) (c_C_combine l g ov M (bf i) (by omega) (by omega) (fk_ev M x bf r (i + fk_hd (bf i))) (fk_ev M x bf r y1)) m_C_combine i_578 ⟨rfl, rfl⟩ ⟨by show 1 + 1 ≤ 2 * (r + 1) + 3; omega, by show 8 + (3 + 11) + 64 * (1) ≤ 64 * (2 * (r + 1) + 3); omega⟩ rfl rfl hl.1 (Nat.le_of_ble_eq_true rfl) d_C_resultOf_200 ⟨Nat.zero_le _, Nat.zero_le _⟩ (fun H locs G => ?_)
      exact fk_iret S hr hlk E G rfl (by show _ = fk_ek M x (bf i) (bf (i + 1)) i _ _ _; rw [n1, hk]; rfl) d_C_resultOf_203
    · have hts0 : fk_Ts (fk_T bf n cnt (M (x + 2)) r) 2 (i + fk_hd (bf i)) ee := by
        have h9 : fk_ar (bf i) = 2 := by rw [hk]; decide
        rw [h9] at hts
        exact hts
      obtain ⟨y1, t1, y2, t2, hz⟩ := hts0
      have l1 := fk_T_lt _ _ _ t1
      have n1 := fk_en_T hn40 t1
      have l2 := fk_T_lt _ _ _ t2
      have n2 := fk_en_T hn40 t2
      refine lv_aload_n S.1 S.2.1 d_C_resultOf_0 rfl (lv_at hl 1 rfl) ?_
      refine fk_gn S E G x (by have := fk_Xlt hX; omega) (v := .ref (fk_a g (x + 1))) (congrArg (fk_ce g ov x (M x)) (fk_kx0 hX)) rfl 0 (by decide) rfl (List.mem_of_getElem? (i := 2) rfl) rfl d_C_resultOf_1 ?_
      refine lv_iload_n S.1 S.2.1 d_C_resultOf_4 rfl (lv_at hl 2 rfl) ?_
      refine fk_ia S E G (x + 1) (by have := fk_Xlt hX; omega) (congrArg (fk_ce g ov (x + 1) (M (x + 1))) (fk_kx1 hX)) i rfl (by omega) (by decide) (v := nI 7) (by rw [hb i hok.1, hk]) d_C_resultOf_5 ?_
      refine lv_tableIn (off := 168) (tgt := 174) S.1 S.2.1 d_C_resultOf_6 (by decide +kernel) (by decide +kernel) (by decide +kernel) rfl ?_
      refine lv_aload_n S.1 S.2.1 d_C_resultOf_174 rfl (lv_at hl 1 rfl) ?_
      refine fk_gn S E G x (by have := fk_Xlt hX; omega) (v := .ref (fk_a g (x + 1))) (congrArg (fk_ce g ov x (M x)) (fk_kx0 hX)) rfl 0 (by decide) rfl (List.mem_of_getElem? (i := 2) rfl) rfl d_C_resultOf_175 ?_
      refine lv_iload_n S.1 S.2.1 d_C_resultOf_178 rfl (lv_at hl 2 rfl) ?_
      refine fk_ia S E G (x + 1) (by have := fk_Xlt hX; omega) (congrArg (fk_ce g ov (x + 1) (M (x + 1))) (fk_kx1 hX)) i rfl (by omega) (by decide) (v := nI (bf i)) (hb i hok.1) d_C_resultOf_179 ?_
      refine lv_aload_n S.1 S.2.1 d_C_resultOf_180 rfl (lv_at hl 0 rfl) ?_
      refine lv_aload_n S.1 S.2.1 d_C_resultOf_181 rfl (lv_at hl 1 rfl) ?_
      refine lv_aload_n S.1 S.2.1 d_C_resultOf_182 rfl (lv_at hl 1 rfl) ?_
      refine lv_iload_n S.1 S.2.1 d_C_resultOf_183 rfl (lv_at hl 2 rfl) ?_
      refine fk_cni S E G x (by have := fk_Xlt hX; omega) (congrArg (fk_ce g ov x (M x)) (fk_kx0 hX)) rfl (rest := [.ref (fk_a g x), .ref (fk_a g 82), .int (nI (bf i))]) (c_E_firstPart l g ov M x hX i (bf i) (by omega) (by have := hok.2.1; omega) (hb i hok.1)) m_E_firstPart (List.mem_of_getElem? (i := 34) rfl) ⟨rfl, rfl⟩ ⟨by show 0 + 1 ≤ 2 * (r + 1) + 3; omega, by show 8 + (2 + 11) + 64 * (0) ≤ 64 * (2 * (r + 1) + 3); omega⟩ rfl rfl hl.1 (Nat.le_of_ble_eq_true rfl) d_C_resultOf_184 ⟨Nat.zero_le _, Nat.zero_le _⟩ (fun H locs G => ?_)
      refine fk_cvi S E G 82 (by decide) (congrArg (fk_ce g ov 82 (M 82)) kd_82) rfl (rest := [.int (nI (bf i))]) (ih _ _ t1) m_C_resultOf i_558 ⟨rfl, rfl⟩ ⟨by show 2 * r + 3 + 1 ≤ 2 * (r + 1) + 3; omega, by show 8 + (3 + 11) + 64 * (2 * r + 3) ≤ 64 * (2 * (r + 1) + 3); omega⟩ rfl rfl hl.1 (Nat.le_of_ble_eq_true rfl) d_C_resultOf_187 ⟨Nat.zero_le _, Nat.zero_le _⟩ (fun H locs G => ?_)
      refine lv_aload_n S.1 S.2.1 d_C_resultOf_190 rfl (lv_at hl 0 rfl) ?_
      refine lv_aload_n S.1 S.2.1 d_C_resultOf_191 rfl (lv_at hl 1 rfl) ?_
      refine lv_aload_n S.1 S.2.1 d_C_resultOf_192 rfl (lv_at hl 1 rfl) ?_
      refine lv_iload_n S.1 S.2.1 d_C_resultOf_193 rfl (lv_at hl 2 rfl) ?_
      refine fk_cni S E G x (by have := fk_Xlt hX; omega) (congrArg (fk_ce g ov x (M x)) (fk_kx0 hX)) rfl (rest := [.ref (fk_a g x), .ref (fk_a g 82), .int (fk_ev M x bf r (i + fk_hd (bf i))), .int (nI (bf i))]) (fk_T_E t1 ▸ c_E_secondPart l g ov M x hX i (bf i) (by omega) (by have := hok.2.1; omega) (hb i hok.1) (by omega)) m_E_secondPart (List.mem_of_getElem? (i := 35) rfl) ⟨rfl, rfl⟩ ⟨by show 1 + 1 ≤ 2 * (r + 1) + 3; omega, by show 8 + (2 + 11) + 64 * (1) ≤ 64 * (2 * (r + 1) + 3); omega⟩ rfl rfl hl.1 (Nat.le_of_ble_eq_true rfl) d_C_resultOf_194 ⟨Nat.zero_le _, Nat.zero_le _⟩ (fun H locs G => ?_)
      refine fk_cvi S E G 82 (by decide) (congrArg (fk_ce g ov 82 (M 82)) kd_82) rfl (rest := [.int (fk_ev M x bf r (i + fk_hd (bf i))), .int (nI (bf i))]) (ih _ _ t2) m_C_resultOf i_558 ⟨rfl, rfl⟩ ⟨by show 2 * r + 3 + 1 ≤ 2 * (r + 1) + 3; omega, by show 8 + (3 + 11) + 64 * (2 * r + 3) ≤ 64 * (2 * (r + 1) + 3); omega⟩ rfl rfl hl.1 (Nat.le_of_ble_eq_true rfl) d_C_resultOf_197 ⟨Nat.zero_le _, Nat.zero_le _⟩ (fun H locs G => ?_)
      refine fk_csi S E G (rest := []) (c_C_combine l g ov M (bf i) (by omega) (by omega) (fk_ev M x bf r (i + fk_hd (bf i))) (fk_ev M x bf r y1)) m_C_combine i_578 ⟨rfl, rfl⟩ ⟨by show 1 + 1 ≤ 2 * (r + 1) + 3; omega, by show 8 + (3 + 11) + 64 * (1) ≤ 64 * (2 * (r + 1) + 3); omega⟩ rfl rfl hl.1 (Nat.le_of_ble_eq_true rfl) d_C_resultOf_200 ⟨Nat.zero_le _, Nat.zero_le _⟩ (fun H locs G => ?_)
      exact fk_iret S hr hlk E G rfl (by show _ = fk_ek M x (bf i) (bf (i + 1)) i _ _ _; rw [n1, hk]; rfl) d_C_resultOf_203
    · have hts0 : fk_Ts (fk_T bf n cnt (M (x + 2)) r) 2 (i + fk_hd (bf i)) ee := by
        have h9 : fk_ar (bf i) = 2 := by rw [hk]; decide
        rw [h9] at hts
        exact hts
      obtain ⟨y1, t1, y2, t2, hz⟩ := hts0
      have l1 := fk_T_lt _ _ _ t1
      have n1 := fk_en_T hn40 t1
      have l2 := fk_T_lt _ _ _ t2
      have n2 := fk_en_T hn40 t2
      refine lv_aload_n S.1 S.2.1 d_C_resultOf_0 rfl (lv_at hl 1 rfl) ?_
      refine fk_gn S E G x (by have := fk_Xlt hX; omega) (v := .ref (fk_a g (x + 1))) (congrArg (fk_ce g ov x (M x)) (fk_kx0 hX)) rfl 0 (by decide) rfl (List.mem_of_getElem? (i := 2) rfl) rfl d_C_resultOf_1 ?_
      refine lv_iload_n S.1 S.2.1 d_C_resultOf_4 rfl (lv_at hl 2 rfl) ?_
      refine fk_ia S E G (x + 1) (by have := fk_Xlt hX; omega) (congrArg (fk_ce g ov (x + 1) (M (x + 1))) (fk_kx1 hX)) i rfl (by omega) (by decide) (v := nI 8) (by rw [hb i hok.1, hk]) d_C_resultOf_5 ?_
      refine lv_tableIn (off := 168) (tgt := 174) S.1 S.2.1 d_C_resultOf_6 (by decide +kernel) (by decide +kernel) (by decide +kernel) rfl ?_
      refine lv_aload_n S.1 S.2.1 d_C_resultOf_174 rfl (lv_at hl 1 rfl) ?_
      refine fk_gn S E G x (by have := fk_Xlt hX; omega) (v := .ref (fk_a g (x + 1))) (congrArg (fk_ce g ov x (M x)) (fk_kx0 hX)) rfl 0 (by decide) rfl (List.mem_of_getElem? (i := 2) rfl) rfl d_C_resultOf_175 ?_
      refine lv_iload_n S.1 S.2.1 d_C_resultOf_178 rfl (lv_at hl 2 rfl) ?_
      refine fk_ia S E G (x + 1) (by have := fk_Xlt hX; omega) (congrArg (fk_ce g ov (x + 1) (M (x + 1))) (fk_kx1 hX)) i rfl (by omega) (by decide) (v := nI (bf i)) (hb i hok.1) d_C_resultOf_179 ?_
      refine lv_aload_n S.1 S.2.1 d_C_resultOf_180 rfl (lv_at hl 0 rfl) ?_
      refine lv_aload_n S.1 S.2.1 d_C_resultOf_181 rfl (lv_at hl 1 rfl) ?_
      refine lv_aload_n S.1 S.2.1 d_C_resultOf_182 rfl (lv_at hl 1 rfl) ?_
      refine lv_iload_n S.1 S.2.1 d_C_resultOf_183 rfl (lv_at hl 2 rfl) ?_
      refine fk_cni S E G x (by have := fk_Xlt hX; omega) (congrArg (fk_ce g ov x (M x)) (fk_kx0 hX)) rfl (rest := [.ref (fk_a g x), .ref (fk_a g 82), .int (nI (bf i))]) (c_E_firstPart l g ov M x hX i (bf i) (by omega) (by have := hok.2.1; omega) (hb i hok.1)) m_E_firstPart (List.mem_of_getElem? (i := 34) rfl) ⟨rfl, rfl⟩ ⟨by show 0 + 1 ≤ 2 * (r + 1) + 3; omega, by show 8 + (2 + 11) + 64 * (0) ≤ 64 * (2 * (r + 1) + 3); omega⟩ rfl rfl hl.1 (Nat.le_of_ble_eq_true rfl) d_C_resultOf_184 ⟨Nat.zero_le _, Nat.zero_le _⟩ (fun H locs G => ?_)
      refine fk_cvi S E G 82 (by decide) (congrArg (fk_ce g ov 82 (M 82)) kd_82) rfl (rest := [.int (nI (bf i))]) (ih _ _ t1) m_C_resultOf i_558 ⟨rfl, rfl⟩ ⟨by show 2 * r + 3 + 1 ≤ 2 * (r + 1) + 3; omega, by show 8 + (3 + 11) + 64 * (2 * r + 3) ≤ 64 * (2 * (r + 1) + 3); omega⟩ rfl rfl hl.1 (Nat.le_of_ble_eq_true rfl) d_C_resultOf_187 ⟨Nat.zero_le _, Nat.zero_le _⟩ (fun H locs G => ?_)
      refine lv_aload_n S.1 S.2.1 d_C_resultOf_190 rfl (lv_at hl 0 rfl) ?_
      refine lv_aload_n S.1 S.2.1 d_C_resultOf_191 rfl (lv_at hl 1 rfl) ?_
      refine lv_aload_n S.1 S.2.1 d_C_resultOf_192 rfl (lv_at hl 1 rfl) ?_
      refine lv_iload_n S.1 S.2.1 d_C_resultOf_193 rfl (lv_at hl 2 rfl) ?_
      refine fk_cni S E G x (by have := fk_Xlt hX; omega) (congrArg (fk_ce g ov x (M x)) (fk_kx0 hX)) rfl (rest := [.ref (fk_a g x), .ref (fk_a g 82), .int (fk_ev M x bf r (i + fk_hd (bf i))), .int (nI (bf i))]) (fk_T_E t1 ▸ c_E_secondPart l g ov M x hX i (bf i) (by omega) (by have := hok.2.1; omega) (hb i hok.1) (by omega)) m_E_secondPart (List.mem_of_getElem? (i := 35) rfl) ⟨rfl, rfl⟩ ⟨by show 1 + 1 ≤ 2 * (r + 1) + 3; omega, by show 8 + (2 + 11) + 64 * (1) ≤ 64 * (2 * (r + 1) + 3); omega⟩ rfl rfl hl.1 (Nat.le_of_ble_eq_true rfl) d_C_resultOf_194 ⟨Nat.zero_le _, Nat.zero_le _⟩ (fun H locs G => ?_)
      refine fk_cvi S E G 82 (by decide) (congrArg (fk_ce g ov 82 (M 82)) kd_82) rfl (rest := [.int (fk_ev M x bf r (i + fk_hd (bf i))), .int (nI (bf i))]) (ih _ _ t2) m_C_resultOf i_558 ⟨rfl, rfl⟩ ⟨by show 2 * r + 3 + 1 ≤ 2 * (r + 1) + 3; omega, by show 8 + (3 + 11) + 64 * (2 * r + 3) ≤ 64 * (2 * (r + 1) + 3); omega⟩ rfl rfl hl.1 (Nat.le_of_ble_eq_true rfl) d_C_resultOf_197 ⟨Nat.zero_le _, Nat.zero_le _⟩ (fun H locs G => ?_)
      refine fk_csi S E G (rest := []) (c_C_combine l g ov M (bf i) (by omega) (by omega) (fk_ev M x bf r (i + fk_hd (bf i))) (fk_ev M x bf r y1)) m_C_combine i_578 ⟨rfl, rfl⟩ ⟨by show 1 + 1 ≤ 2 * (r + 1) + 3; omega, by show 8 + (3 + 11) + 64 * (1) ≤ 64 * (2 * (r + 1) + 3); omega⟩ rfl rfl hl.1 (Nat.le_of_ble_eq_true rfl) d_C_resultOf_200 ⟨Nat.zero_le _, Nat.zero_le _⟩ (fun H locs G => ?_)
      exact fk_iret S hr hlk E G rfl (by show _ = fk_ek M x (bf i) (bf (i + 1)) i _ _ _; rw [n1, hk]; rfl) d_C_resultOf_203
    · have hts0 : fk_Ts (fk_T bf n cnt (M (x + 2)) r) 2 (i + fk_hd (bf i)) ee := by
        have h9 : fk_ar (bf i) = 2 := by rw [hk]; decide
        rw [h9] at hts
        exact hts
      obtain ⟨y1, t1, y2, t2, hz⟩ := hts0
      have l1 := fk_T_lt _ _ _ t1
      have n1 := fk_en_T hn40 t1
      have l2 := fk_T_lt _ _ _ t2
      have n2 := fk_en_T hn40 t2
      refine lv_aload_n S.1 S.2.1 d_C_resultOf_0 rfl (lv_at hl 1 rfl) ?_
      refine fk_gn S E G x (by have := fk_Xlt hX; omega) (v := .ref (fk_a g (x + 1))) (congrArg (fk_ce g ov x (M x)) (fk_kx0 hX)) rfl 0 (by decide) rfl (List.mem_of_getElem? (i := 2) rfl) rfl d_C_resultOf_1 ?_
      refine lv_iload_n S.1 S.2.1 d_C_resultOf_4 rfl (lv_at hl 2 rfl) ?_
      refine fk_ia S E G (x + 1) (by have := fk_Xlt hX; omega) (congrArg (fk_ce g ov (x + 1) (M (x + 1))) (fk_kx1 hX)) i rfl (by omega) (by decide) (v := nI 9) (by rw [hb i hok.1, hk]) d_C_resultOf_5 ?_
      refine lv_tableIn (off := 168) (tgt := 174) S.1 S.2.1 d_C_resultOf_6 (by decide +kernel) (by decide +kernel) (by decide +kernel) rfl ?_
      refine lv_aload_n S.1 S.2.1 d_C_resultOf_174 rfl (lv_at hl 1 rfl) ?_
      refine fk_gn S E G x (by have := fk_Xlt hX; omega) (v := .ref (fk_a g (x + 1))) (congrArg (fk_ce g ov x (M x)) (fk_kx0 hX)) rfl 0 (by decide) rfl (List.mem_of_getElem? (i := 2) rfl) rfl d_C_resultOf_175 ?_
      refine lv_iload_n S.1 S.2.1 d_C_resultOf_178 rfl (lv_at hl 2 rfl) ?_
      refine fk_ia S E G (x + 1) (by have := fk_Xlt hX; omega) (congrArg (fk_ce g ov (x + 1) (M (x + 1))) (fk_kx1 hX)) i rfl (by omega) (by decide) (v := nI (bf i)) (hb i hok.1) d_C_resultOf_179 ?_
      refine lv_aload_n S.1 S.2.1 d_C_resultOf_180 rfl (lv_at hl 0 rfl) ?_
      refine lv_aload_n S.1 S.2.1 d_C_resultOf_181 rfl (lv_at hl 1 rfl) ?_
      refine lv_aload_n S.1 S.2.1 d_C_resultOf_182 rfl (lv_at hl 1 rfl) ?_
      refine lv_iload_n S.1 S.2.1 d_C_resultOf_183 rfl (lv_at hl 2 rfl) ?_
      refine fk_cni S E G x (by have := fk_Xlt hX; omega) (congrArg (fk_ce g ov x (M x)) (fk_kx0 hX)) rfl (rest := [.ref (fk_a g x), .ref (fk_a g 82), .int (nI (bf i))]) (c_E_firstPart l g ov M x hX i (bf i) (by omega) (by have := hok.2.1; omega) (hb i hok.1)) m_E_firstPart (List.mem_of_getElem? (i := 34) rfl) ⟨rfl, rfl⟩ ⟨by show 0 + 1 ≤ 2 * (r + 1) + 3; omega, by show 8 + (2 + 11) + 64 * (0) ≤ 64 * (2 * (r + 1) + 3); omega⟩ rfl rfl hl.1 (Nat.le_of_ble_eq_true rfl) d_C_resultOf_184 ⟨Nat.zero_le _, Nat.zero_le _⟩ (fun H locs G => ?_)
      refine fk_cvi S E G 82 (by decide) (congrArg (fk_ce g ov 82 (M 82)) kd_82) rfl (rest := [.int (nI (bf i))]) (ih _ _ t1) m_C_resultOf i_558 ⟨rfl, rfl⟩ ⟨by show 2 * r + 3 + 1 ≤ 2 * (r + 1) + 3; omega, by show 8 + (3 + 11) + 64 * (2 * r + 3) ≤ 64 * (2 * (r + 1) + 3); omega⟩ rfl rfl hl.1 (Nat.le_of_ble_eq_true rfl) d_C_resultOf_187 ⟨Nat.zero_le _, Nat.zero_le _⟩ (fun H locs G => ?_)
      refine lv_aload_n S.1 S.2.1 d_C_resultOf_190 rfl (lv_at hl 0 rfl) ?_
      refine lv_aload_n S.1 S.2.1 d_C_resultOf_191 rfl (lv_at hl 1 rfl) ?_
      refine lv_aload_n S.1 S.2.1 d_C_resultOf_192 rfl (lv_at hl 1 rfl) ?_
      refine lv_iload_n S.1 S.2.1 d_C_resultOf_193 rfl (lv_at hl 2 rfl) ?_
      refine fk_cni S E G x (by have := fk_Xlt hX; omega) (congrArg (fk_ce g ov x (M x)) (fk_kx0 hX)) rfl (rest := [.ref (fk_a g x), .ref (fk_a g 82), .int (fk_ev M x bf r (i + fk_hd (bf i))), .int (nI (bf i))]) (fk_T_E t1 ▸ c_E_secondPart l g ov M x hX i (bf i) (by omega) (by have := hok.2.1; omega) (hb i hok.1) (by omega)) m_E_secondPart (List.mem_of_getElem? (i := 35) rfl) ⟨rfl, rfl⟩ ⟨by show 1 + 1 ≤ 2 * (r + 1) + 3; omega, by show 8 + (2 + 11) + 64 * (1) ≤ 64 * (2 * (r + 1) + 3); omega⟩ rfl rfl hl.1 (Nat.le_of_ble_eq_true rfl) d_C_resultOf_194 ⟨Nat.zero_le _, Nat.zero_le _⟩ (fun H locs G => ?_)
      refine fk_cvi S E G 82 (by decide) (congrArg (fk_ce g ov 82 (M 82)) kd_82) rfl (rest := [.int (fk_ev M x bf r (i + fk_hd (bf i))), .int (nI (bf i))]) (ih _ _ t2) m_C_resultOf i_558 ⟨rfl, rfl⟩ ⟨by show 2 * r + 3 + 1 ≤ 2 * (r + 1) + 3; omega, by show 8 + (3 + 11) + 64 * (2 * r + 3) ≤ 64 * (2 * (r + 1) + 3); omega⟩ rfl rfl hl.1 (Nat.le_of_ble_eq_true rfl) d_C_resultOf_197 ⟨Nat.zero_le _, Nat.zero_le _⟩ (fun H locs G => ?_)
      refine fk_csi S E G (rest := []) (c_C_combine l g ov M (bf i) (by omega) (by omega) (fk_ev M x bf r (i + fk_hd (bf i))) (fk_ev M x bf r y1)) m_C_combine i_578 ⟨rfl, rfl⟩ ⟨by show 1 + 1 ≤ 2 * (r + 1) + 3; omega, by show 8 + (3 + 11) + 64 * (1) ≤ 64 * (2 * (r + 1) + 3); omega⟩ rfl rfl hl.1 (Nat.le_of_ble_eq_true rfl) d_C_resultOf_200 ⟨Nat.zero_le _, Nat.zero_le _⟩ (fun H locs G => ?_)
      exact fk_iret S hr hlk E G rfl (by show _ = fk_ek M x (bf i) (bf (i + 1)) i _ _ _; rw [n1, hk]; rfl) d_C_resultOf_203
    · have hts0 : fk_Ts (fk_T bf n cnt (M (x + 2)) r) 2 (i + fk_hd (bf i)) ee := by
        have h9 : fk_ar (bf i) = 2 := by rw [hk]; decide
        rw [h9] at hts
        exact hts
      obtain ⟨y1, t1, y2, t2, hz⟩ := hts0
      have l1 := fk_T_lt _ _ _ t1
      have n1 := fk_en_T hn40 t1
      have l2 := fk_T_lt _ _ _ t2
      have n2 := fk_en_T hn40 t2
      refine lv_aload_n S.1 S.2.1 d_C_resultOf_0 rfl (lv_at hl 1 rfl) ?_
      refine fk_gn S E G x (by have := fk_Xlt hX; omega) (v := .ref (fk_a g (x + 1))) (congrArg (fk_ce g ov x (M x)) (fk_kx0 hX)) rfl 0 (by decide) rfl (List.mem_of_getElem? (i := 2) rfl) rfl d_C_resultOf_1 ?_
      refine lv_iload_n S.1 S.2.1 d_C_resultOf_4 rfl (lv_at hl 2 rfl) ?_
      refine fk_ia S E G (x + 1) (by have := fk_Xlt hX; omega) (congrArg (fk_ce g ov (x + 1) (M (x + 1))) (fk_kx1 hX)) i rfl (by omega) (by decide) (v := nI 10) (by rw [hb i hok.1, hk]) d_C_resultOf_5 ?_
      refine lv_tableIn (off := 168) (tgt := 174) S.1 S.2.1 d_C_resultOf_6 (by decide +kernel) (by decide +kernel) (by decide +kernel) rfl ?_
      refine lv_aload_n S.1 S.2.1 d_C_resultOf_174 rfl (lv_at hl 1 rfl) ?_
      refine fk_gn S E G x (by have := fk_Xlt hX; omega) (v := .ref (fk_a g (x + 1))) (congrArg (fk_ce g ov x (M x)) (fk_kx0 hX)) rfl 0 (by decide) rfl (List.mem_of_getElem? (i := 2) rfl) rfl d_C_resultOf_175 ?_
      refine lv_iload_n S.1 S.2.1 d_C_resultOf_178 rfl (lv_at hl 2 rfl) ?_
      refine fk_ia S E G (x + 1) (by have := fk_Xlt hX; omega) (congrArg (fk_ce g ov (x + 1) (M (x + 1))) (fk_kx1 hX)) i rfl (by omega) (by decide) (v := nI (bf i)) (hb i hok.1) d_C_resultOf_179 ?_
      refine lv_aload_n S.1 S.2.1 d_C_resultOf_180 rfl (lv_at hl 0 rfl) ?_
      refine lv_aload_n S.1 S.2.1 d_C_resultOf_181 rfl (lv_at hl 1 rfl) ?_
      refine lv_aload_n S.1 S.2.1 d_C_resultOf_182 rfl (lv_at hl 1 rfl) ?_
      refine lv_iload_n S.1 S.2.1 d_C_resultOf_183 rfl (lv_at hl 2 rfl) ?_
      refine fk_cni S E G x (by have := fk_Xlt hX; omega) (congrArg (fk_ce g ov x (M x)) (fk_kx0 hX)) rfl (rest := [.ref (fk_a g x), .ref (fk_a g 82), .int (nI (bf i))]) (c_E_firstPart l g ov M x hX i (bf i) (by omega) (by have := hok.2.1; omega) (hb i hok.1)) m_E_firstPart (List.mem_of_getElem? (i := 34) rfl) ⟨rfl, rfl⟩ ⟨by show 0 + 1 ≤ 2 * (r + 1) + 3; omega, by show 8 + (2 + 11) + 64 * (0) ≤ 64 * (2 * (r + 1) + 3); omega⟩ rfl rfl hl.1 (Nat.le_of_ble_eq_true rfl) d_C_resultOf_184 ⟨Nat.zero_le _, Nat.zero_le _⟩ (fun H locs G => ?_)
      refine fk_cvi S E G 82 (by decide) (congrArg (fk_ce g ov 82 (M 82)) kd_82) rfl (rest := [.int (nI (bf i))]) (ih _ _ t1) m_C_resultOf i_558 ⟨rfl, rfl⟩ ⟨by show 2 * r + 3 + 1 ≤ 2 * (r + 1) + 3; omega, by show 8 + (3 + 11) + 64 * (2 * r + 3) ≤ 64 * (2 * (r + 1) + 3); omega⟩ rfl rfl hl.1 (Nat.le_of_ble_eq_true rfl) d_C_resultOf_187 ⟨Nat.zero_le _, Nat.zero_le _⟩ (fun H locs G => ?_)
      refine lv_aload_n S.1 S.2.1 d_C_resultOf_190 rfl (lv_at hl 0 rfl) ?_
      refine lv_aload_n S.1 S.2.1 d_C_resultOf_191 rfl (lv_at hl 1 rfl) ?_
      refine lv_aload_n S.1 S.2.1 d_C_resultOf_192 rfl (lv_at hl 1 rfl) ?_
      refine lv_iload_n S.1 S.2.1 d_C_resultOf_193 rfl (lv_at hl 2 rfl) ?_
      refine fk_cni S E G x (by have := fk_Xlt hX; omega) (congrArg (fk_ce g ov x (M x)) (fk_kx0 hX)) rfl (rest := [.ref (fk_a g x), .ref (fk_a g 82), .int (fk_ev M x bf r (i + fk_hd (bf i))), .int (nI (bf i))]) (fk_T_E t1 ▸ c_E_secondPart l g ov M x hX i (bf i) (by omega) (by have := hok.2.1; omega) (hb i hok.1) (by omega)) m_E_secondPart (List.mem_of_getElem? (i := 35) rfl) ⟨rfl, rfl⟩ ⟨by show 1 + 1 ≤ 2 * (r + 1) + 3; omega, by show 8 + (2 + 11) + 64 * (1) ≤ 64 * (2 * (r + 1) + 3); omega⟩ rfl rfl hl.1 (Nat.le_of_ble_eq_true rfl) d_C_resultOf_194 ⟨Nat.zero_le _, Nat.zero_le _⟩ (fun H locs G => ?_)
      refine fk_cvi S E G 82 (by decide) (congrArg (fk_ce g ov 82 (M 82)) kd_82) rfl (rest := [.int (fk_ev M x bf r (i + fk_hd (bf i))), .int (nI (bf i))]) (ih _ _ t2) m_C_resultOf i_558 ⟨rfl, rfl⟩ ⟨by show 2 * r + 3 + 1 ≤ 2 * (r + 1) + 3; omega, by show 8 + (3 + 11) + 64 * (2 * r + 3) ≤ 64 * (2 * (r + 1) + 3); omega⟩ rfl rfl hl.1 (Nat.le_of_ble_eq_true rfl) d_C_resultOf_197 ⟨Nat.zero_le _, Nat.zero_le _⟩ (fun H locs G => ?_)
      refine fk_csi S E G (rest := []) (c_C_combine l g ov M (bf i) (by omega) (by omega) (fk_ev M x bf r (i + fk_hd (bf i))) (fk_ev M x bf r y1)) m_C_combine i_578 ⟨rfl, rfl⟩ ⟨by show 1 + 1 ≤ 2 * (r + 1) + 3; omega, by show 8 + (3 + 11) + 64 * (1) ≤ 64 * (2 * (r + 1) + 3); omega⟩ rfl rfl hl.1 (Nat.le_of_ble_eq_true rfl) d_C_resultOf_200 ⟨Nat.zero_le _, Nat.zero_le _⟩ (fun H locs G => ?_)
      exact fk_iret S hr hlk E G rfl (by show _ = fk_ek M x (bf i) (bf (i + 1)) i _ _ _; rw [n1, hk]; rfl) d_C_resultOf_203
    · have hts0 : fk_Ts (fk_T bf n cnt (M (x + 2)) r) 2 (i + fk_hd (bf i)) ee := by
        have h9 : fk_ar (bf i) = 2 := by rw [hk]; decide
        rw [h9] at hts
        exact hts
      obtain ⟨y1, t1, y2, t2, hz⟩ := hts0
      have l1 := fk_T_lt _ _ _ t1
      have n1 := fk_en_T hn40 t1
      have l2 := fk_T_lt _ _ _ t2
      have n2 := fk_en_T hn40 t2
      refine lv_aload_n S.1 S.2.1 d_C_resultOf_0 rfl (lv_at hl 1 rfl) ?_
      refine fk_gn S E G x (by have := fk_Xlt hX; omega) (v := .ref (fk_a g (x + 1))) (congrArg (fk_ce g ov x (M x)) (fk_kx0 hX)) rfl 0 (by decide) rfl (List.mem_of_getElem? (i := 2) rfl) rfl d_C_resultOf_1 ?_
      refine lv_iload_n S.1 S.2.1 d_C_resultOf_4 rfl (lv_at hl 2 rfl) ?_
      refine fk_ia S E G (x + 1) (by have := fk_Xlt hX; omega) (congrArg (fk_ce g ov (x + 1) (M (x + 1))) (fk_kx1 hX)) i rfl (by omega) (by decide) (v := nI 11) (by rw [hb i hok.1, hk]) d_C_resultOf_5 ?_
      refine lv_tableIn (off := 168) (tgt := 174) S.1 S.2.1 d_C_resultOf_6 (by decide +kernel) (by decide +kernel) (by decide +kernel) rfl ?_
      refine lv_aload_n S.1 S.2.1 d_C_resultOf_174 rfl (lv_at hl 1 rfl) ?_
      refine fk_gn S E G x (by have := fk_Xlt hX; omega) (v := .ref (fk_a g (x + 1))) (congrArg (fk_ce g ov x (M x)) (fk_kx0 hX)) rfl 0 (by decide) rfl (List.mem_of_getElem? (i := 2) rfl) rfl d_C_resultOf_175 ?_
      refine lv_iload_n S.1 S.2.1 d_C_resultOf_178 rfl (lv_at hl 2 rfl) ?_
      refine fk_ia S E G (x + 1) (by have := fk_Xlt hX; omega) (congrArg (fk_ce g ov (x + 1) (M (x + 1))) (fk_kx1 hX)) i rfl (by omega) (by decide) (v := nI (bf i)) (hb i hok.1) d_C_resultOf_179 ?_
      refine lv_aload_n S.1 S.2.1 d_C_resultOf_180 rfl (lv_at hl 0 rfl) ?_
      refine lv_aload_n S.1 S.2.1 d_C_resultOf_181 rfl (lv_at hl 1 rfl) ?_
      refine lv_aload_n S.1 S.2.1 d_C_resultOf_182 rfl (lv_at hl 1 rfl) ?_
      refine lv_iload_n S.1 S.2.1 d_C_resultOf_183 rfl (lv_at hl 2 rfl) ?_
      refine fk_cni S E G x (by have := fk_Xlt hX; omega) (congrArg (fk_ce g ov x (M x)) (fk_kx0 hX)) rfl (rest := [.ref (fk_a g x), .ref (fk_a g 82), .int (nI (bf i))]) (c_E_firstPart l g ov M x hX i (bf i) (by omega) (by have := hok.2.1; omega) (hb i hok.1)) m_E_firstPart (List.mem_of_getElem? (i := 34) rfl) ⟨rfl, rfl⟩ ⟨by show 0 + 1 ≤ 2 * (r + 1) + 3; omega, by show 8 + (2 + 11) + 64 * (0) ≤ 64 * (2 * (r + 1) + 3); omega⟩ rfl rfl hl.1 (Nat.le_of_ble_eq_true rfl) d_C_resultOf_184 ⟨Nat.zero_le _, Nat.zero_le _⟩ (fun H locs G => ?_)
      refine fk_cvi S E G 82 (by decide) (congrArg (fk_ce g ov 82 (M 82)) kd_82) rfl (rest := [.int (nI (bf i))]) (ih _ _ t1) m_C_resultOf i_558 ⟨rfl, rfl⟩ ⟨by show 2 * r + 3 + 1 ≤ 2 * (r + 1) + 3; omega, by show 8 + (3 + 11) + 64 * (2 * r + 3) ≤ 64 * (2 * (r + 1) + 3); omega⟩ rfl rfl hl.1 (Nat.le_of_ble_eq_true rfl) d_C_resultOf_187 ⟨Nat.zero_le _, Nat.zero_le _⟩ (fun H locs G => ?_)
      refine lv_aload_n S.1 S.2.1 d_C_resultOf_190 rfl (lv_at hl 0 rfl) ?_
      refine lv_aload_n S.1 S.2.1 d_C_resultOf_191 rfl (lv_at hl 1 rfl) ?_
      refine lv_aload_n S.1 S.2.1 d_C_resultOf_192 rfl (lv_at hl 1 rfl) ?_
      refine lv_iload_n S.1 S.2.1 d_C_resultOf_193 rfl (lv_at hl 2 rfl) ?_
      refine fk_cni S E G x (by have := fk_Xlt hX; omega) (congrArg (fk_ce g ov x (M x)) (fk_kx0 hX)) rfl (rest := [.ref (fk_a g x), .ref (fk_a g 82), .int (fk_ev M x bf r (i + fk_hd (bf i))), .int (nI (bf i))]) (fk_T_E t1 ▸ c_E_secondPart l g ov M x hX i (bf i) (by omega) (by have := hok.2.1; omega) (hb i hok.1) (by omega)) m_E_secondPart (List.mem_of_getElem? (i := 35) rfl) ⟨rfl, rfl⟩ ⟨by show 1 + 1 ≤ 2 * (r + 1) + 3; omega, by show 8 + (2 + 11) + 64 * (1) ≤ 64 * (2 * (r + 1) + 3); omega⟩ rfl rfl hl.1 (Nat.le_of_ble_eq_true rfl) d_C_resultOf_194 ⟨Nat.zero_le _, Nat.zero_le _⟩ (fun H locs G => ?_)
      refine fk_cvi S E G 82 (by decide) (congrArg (fk_ce g ov 82 (M 82)) kd_82) rfl (rest := [.int (fk_ev M x bf r (i + fk_hd (bf i))), .int (nI (bf i))]) (ih _ _ t2) m_C_resultOf i_558 ⟨rfl, rfl⟩ ⟨by show 2 * r + 3 + 1 ≤ 2 * (r + 1) + 3; omega, by show 8 + (3 + 11) + 64 * (2 * r + 3) ≤ 64 * (2 * (r + 1) + 3); omega⟩ rfl rfl hl.1 (Nat.le_of_ble_eq_true rfl) d_C_resultOf_197 ⟨Nat.zero_le _, Nat.zero_le _⟩ (fun H locs G => ?_)
      refine fk_csi S E G (rest := []) (c_C_combine l g ov M (bf i) (by omega) (by omega) (fk_ev M x bf r (i + fk_hd (bf i))) (fk_ev M x bf r y1)) m_C_combine i_578 ⟨rfl, rfl⟩ ⟨by show 1 + 1 ≤ 2 * (r + 1) + 3; omega, by show 8 + (3 + 11) + 64 * (1) ≤ 64 * (2 * (r + 1) + 3); omega⟩ rfl rfl hl.1 (Nat.le_of_ble_eq_true rfl) d_C_resultOf_200 ⟨Nat.zero_le _, Nat.zero_le _⟩ (fun H locs G => ?_)
      exact fk_iret S hr hlk E G rfl (by show _ = fk_ek M x (bf i) (bf (i + 1)) i _ _ _; rw [n1, hk]; rfl) d_C_resultOf_203
    · have hts0 : fk_Ts (fk_T bf n cnt (M (x + 2)) r) 2 (i + fk_hd (bf i)) ee := by
        have h9 : fk_ar (bf i) = 2 := by rw [hk]; decide
        rw [h9] at hts
        exact hts
      obtain ⟨y1, t1, y2, t2, hz⟩ := hts0
      have l1 := fk_T_lt _ _ _ t1
      have n1 := fk_en_T hn40 t1
      have l2 := fk_T_lt _ _ _ t2
      have n2 := fk_en_T hn40 t2
      refine lv_aload_n S.1 S.2.1 d_C_resultOf_0 rfl (lv_at hl 1 rfl) ?_
      refine fk_gn S E G x (by have := fk_Xlt hX; omega) (v := .ref (fk_a g (x + 1))) (congrArg (fk_ce g ov x (M x)) (fk_kx0 hX)) rfl 0 (by decide) rfl (List.mem_of_getElem? (i := 2) rfl) rfl d_C_resultOf_1 ?_
      refine lv_iload_n S.1 S.2.1 d_C_resultOf_4 rfl (lv_at hl 2 rfl) ?_
      refine fk_ia S E G (x + 1) (by have := fk_Xlt hX; omega) (congrArg (fk_ce g ov (x + 1) (M (x + 1))) (fk_kx1 hX)) i rfl (by omega) (by decide) (v := nI 12) (by rw [hb i hok.1, hk]) d_C_resultOf_5 ?_
      refine lv_tableIn (off := 168) (tgt := 174) S.1 S.2.1 d_C_resultOf_6 (by decide +kernel) (by decide +kernel) (by decide +kernel) rfl ?_
      refine lv_aload_n S.1 S.2.1 d_C_resultOf_174 rfl (lv_at hl 1 rfl) ?_
      refine fk_gn S E G x (by have := fk_Xlt hX; omega) (v := .ref (fk_a g (x + 1))) (congrArg (fk_ce g ov x (M x)) (fk_kx0 hX)) rfl 0 (by decide) rfl (List.mem_of_getElem? (i := 2) rfl) rfl d_C_resultOf_175 ?_
      refine lv_iload_n S.1 S.2.1 d_C_resultOf_178 rfl (lv_at hl 2 rfl) ?_
      refine fk_ia S E G (x + 1) (by have := fk_Xlt hX; omega) (congrArg (fk_ce g ov (x + 1) (M (x + 1))) (fk_kx1 hX)) i rfl (by omega) (by decide) (v := nI (bf i)) (hb i hok.1) d_C_resultOf_179 ?_
      refine lv_aload_n S.1 S.2.1 d_C_resultOf_180 rfl (lv_at hl 0 rfl) ?_
      refine lv_aload_n S.1 S.2.1 d_C_resultOf_181 rfl (lv_at hl 1 rfl) ?_
      refine lv_aload_n S.1 S.2.1 d_C_resultOf_182 rfl (lv_at hl 1 rfl) ?_
      refine lv_iload_n S.1 S.2.1 d_C_resultOf_183 rfl (lv_at hl 2 rfl) ?_
      refine fk_cni S E G x (by have := fk_Xlt hX; omega) (congrArg (fk_ce g ov x (M x)) (fk_kx0 hX)) rfl (rest := [.ref (fk_a g x), .ref (fk_a g 82), .int (nI (bf i))]) (c_E_firstPart l g ov M x hX i (bf i) (by omega) (by have := hok.2.1; omega) (hb i hok.1)) m_E_firstPart (List.mem_of_getElem? (i := 34) rfl) ⟨rfl, rfl⟩ ⟨by show 0 + 1 ≤ 2 * (r + 1) + 3; omega, by show 8 + (2 + 11) + 64 * (0) ≤ 64 * (2 * (r + 1) + 3); omega⟩ rfl rfl hl.1 (Nat.le_of_ble_eq_true rfl) d_C_resultOf_184 ⟨Nat.zero_le _, Nat.zero_le _⟩ (fun H locs G => ?_)
      refine fk_cvi S E G 82 (by decide) (congrArg (fk_ce g ov 82 (M 82)) kd_82) rfl (rest := [.int (nI (bf i))]) (ih _ _ t1) m_C_resultOf i_558 ⟨rfl, rfl⟩ ⟨by show 2 * r + 3 + 1 ≤ 2 * (r + 1) + 3; omega, by show 8 + (3 + 11) + 64 * (2 * r + 3) ≤ 64 * (2 * (r + 1) + 3); omega⟩ rfl rfl hl.1 (Nat.le_of_ble_eq_true rfl) d_C_resultOf_187 ⟨Nat.zero_le _, Nat.zero_le _⟩ (fun H locs G => ?_)
      refine lv_aload_n S.1 S.2.1 d_C_resultOf_190 rfl (lv_at hl 0 rfl) ?_
      refine lv_aload_n S.1 S.2.1 d_C_resultOf_191 rfl (lv_at hl 1 rfl) ?_
      refine lv_aload_n S.1 S.2.1 d_C_resultOf_192 rfl (lv_at hl 1 rfl) ?_
      refine lv_iload_n S.1 S.2.1 d_C_resultOf_193 rfl (lv_at hl 2 rfl) ?_
      refine fk_cni S E G x (by have := fk_Xlt hX; omega) (congrArg (fk_ce g ov x (M x)) (fk_kx0 hX)) rfl (rest := [.ref (fk_a g x), .ref (fk_a g 82), .int (fk_ev M x bf r (i + fk_hd (bf i))), .int (nI (bf i))]) (fk_T_E t1 ▸ c_E_secondPart l g ov M x hX i (bf i) (by omega) (by have := hok.2.1; omega) (hb i hok.1) (by omega)) m_E_secondPart (List.mem_of_getElem? (i := 35) rfl) ⟨rfl, rfl⟩ ⟨by show 1 + 1 ≤ 2 * (r + 1) + 3; omega, by show 8 + (2 + 11) + 64 * (1) ≤ 64 * (2 * (r + 1) + 3); omega⟩ rfl rfl hl.1 (Nat.le_of_ble_eq_true rfl) d_C_resultOf_194 ⟨Nat.zero_le _, Nat.zero_le _⟩ (fun H locs G => ?_)
      refine fk_cvi S E G 82 (by decide) (congrArg (fk_ce g ov 82 (M 82)) kd_82) rfl (rest := [.int (fk_ev M x bf r (i + fk_hd (bf i))), .int (nI (bf i))]) (ih _ _ t2) m_C_resultOf i_558 ⟨rfl, rfl⟩ ⟨by show 2 * r + 3 + 1 ≤ 2 * (r + 1) + 3; omega, by show 8 + (3 + 11) + 64 * (2 * r + 3) ≤ 64 * (2 * (r + 1) + 3); omega⟩ rfl rfl hl.1 (Nat.le_of_ble_eq_true rfl) d_C_resultOf_197 ⟨Nat.zero_le _, Nat.zero_le _⟩ (fun H locs G => ?_)
      refine fk_csi S E G (rest := []) (c_C_combine l g ov M (bf i) (by omega) (by omega) (fk_ev M x bf r (i + fk_hd (bf i))) (fk_ev M x bf r y1)) m_C_combine i_578 ⟨rfl, rfl⟩ ⟨by show 1 + 1 ≤ 2 * (r + 1) + 3; omega, by show 8 + (3 + 11) + 64 * (1) ≤ 64 * (2 * (r + 1) + 3); omega⟩ rfl rfl hl.1 (Nat.le_of_ble_eq_true rfl) d_C_resultOf_200 ⟨Nat.zero_le _, Nat.zero_le _⟩ (fun H locs G => ?_)
      exact fk_iret S hr hlk E G rfl (by show _ = fk_ek M x (bf i) (bf (i + 1)) i _ _ _; rw [n1, hk]; rfl) d_C_resultOf_203
    · have hts0 : fk_Ts (fk_T bf n cnt (M (x + 2)) r) 3 (i + fk_hd (bf i)) ee := by
        have h9 : fk_ar (bf i) = 3 := by rw [hk]; decide
        rw [h9] at hts
        exact hts
      obtain ⟨y1, t1, y2, t2, y3, t3, hz⟩ := hts0
      have l1 := fk_T_lt _ _ _ t1
      have n1 := fk_en_T hn40 t1
      have l2 := fk_T_lt _ _ _ t2
      have n2 := fk_en_T hn40 t2
      have l3 := fk_T_lt _ _ _ t3
      have n3 := fk_en_T hn40 t3
      refine lv_aload_n S.1 S.2.1 d_C_resultOf_0 rfl (lv_at hl 1 rfl) ?_
      refine fk_gn S E G x (by have := fk_Xlt hX; omega) (v := .ref (fk_a g (x + 1))) (congrArg (fk_ce g ov x (M x)) (fk_kx0 hX)) rfl 0 (by decide) rfl (List.mem_of_getElem? (i := 2) rfl) rfl d_C_resultOf_1 ?_
      refine lv_iload_n S.1 S.2.1 d_C_resultOf_4 rfl (lv_at hl 2 rfl) ?_
      refine fk_ia S E G (x + 1) (by have := fk_Xlt hX; omega) (congrArg (fk_ce g ov (x + 1) (M (x + 1))) (fk_kx1 hX)) i rfl (by omega) (by decide) (v := nI 13) (by rw [hb i hok.1, hk]) d_C_resultOf_5 ?_
      refine lv_tableIn (off := 131) (tgt := 137) S.1 S.2.1 d_C_resultOf_6 (by decide +kernel) (by decide +kernel) (by decide +kernel) rfl ?_
      refine lv_aload_n S.1 S.2.1 d_C_resultOf_137 rfl (lv_at hl 0 rfl) ?_
      refine lv_aload_n S.1 S.2.1 d_C_resultOf_138 rfl (lv_at hl 1 rfl) ?_
      refine lv_aload_n S.1 S.2.1 d_C_resultOf_139 rfl (lv_at hl 0 rfl) ?_
      refine lv_aload_n S.1 S.2.1 d_C_resultOf_140 rfl (lv_at hl 1 rfl) ?_
      refine lv_iload_n S.1 S.2.1 d_C_resultOf_141 rfl (lv_at hl 2 rfl) ?_
      have hcp := c_C_chosenPart l g ov M x hX bf n cnt hn40 h12 hb hck r i ee ht0 (by omega) ih
      refine fk_cvi S E G 82 (by decide) (congrArg (fk_ce g ov 82 (M 82)) kd_82) rfl (rest := [.ref (fk_a g x), .ref (fk_a g 82)]) hcp m_C_chosenPart i_563 ⟨rfl, rfl⟩ ⟨by show 2 * r + 4 + 1 ≤ 2 * (r + 1) + 3; omega, by show 8 + (6 + 11) + 64 * (2 * r + 4) ≤ 64 * (2 * (r + 1) + 3); omega⟩ rfl rfl hl.1 (Nat.le_of_ble_eq_true rfl) d_C_resultOf_142 ⟨Nat.zero_le _, Nat.zero_le _⟩ (fun H locs G => ?_)
      by_cases hif : fk_ev M x bf r (i + fk_hd (bf i)) = nI 1
      · have hcq : fk_cp M x bf r i = y1 := by
          show fk_cq M x (bf i) _ i _ _ _ _ = _
          rw [n1]
          rw [hk] at hif ⊢
          exact if_pos hif
        rw [hcq]
        refine fk_cvi S E G 82 (by decide) (congrArg (fk_ce g ov 82 (M 82)) kd_82) rfl (rest := []) (ih _ _ t2) m_C_resultOf i_558 ⟨rfl, rfl⟩ ⟨by show 2 * r + 3 + 1 ≤ 2 * (r + 1) + 3; omega, by show 8 + (3 + 11) + 64 * (2 * r + 3) ≤ 64 * (2 * (r + 1) + 3); omega⟩ rfl rfl hl.1 (Nat.le_of_ble_eq_true rfl) d_C_resultOf_145 ⟨Nat.zero_le _, Nat.zero_le _⟩ (fun H locs G => ?_)
        exact fk_iret S hr hlk E G rfl (by show _ = fk_ek M x (bf i) (bf (i + 1)) i _ _ _; rw [n1, hk]; rw [hk] at hif; show _ = (if _ then _ else _); rw [if_pos hif]) d_C_resultOf_148
      · have hcq : fk_cp M x bf r i = y2 := by
          show fk_cq M x (bf i) _ i _ _ _ _ = _
          rw [n1, n2]
          rw [hk] at hif ⊢
          exact if_neg hif
        rw [hcq]
        refine fk_cvi S E G 82 (by decide) (congrArg (fk_ce g ov 82 (M 82)) kd_82) rfl (rest := []) (ih _ _ t3) m_C_resultOf i_558 ⟨rfl, rfl⟩ ⟨by show 2 * r + 3 + 1 ≤ 2 * (r + 1) + 3; omega, by show 8 + (3 + 11) + 64 * (2 * r + 3) ≤ 64 * (2 * (r + 1) + 3); omega⟩ rfl rfl hl.1 (Nat.le_of_ble_eq_true rfl) d_C_resultOf_145 ⟨Nat.zero_le _, Nat.zero_le _⟩ (fun H locs G => ?_)
        exact fk_iret S hr hlk E G rfl (by show _ = fk_ek M x (bf i) (bf (i + 1)) i _ _ _; rw [n1, n2, hk]; rw [hk] at hif; show _ = (if _ then _ else _); rw [if_neg hif]) d_C_resultOf_148
    · have hts0 : fk_Ts (fk_T bf n cnt (M (x + 2)) r) 1 (i + fk_hd (bf i)) ee := by
        have h9 : fk_ar (bf i) = 1 := by rw [hk]; decide
        rw [h9] at hts
        exact hts
      obtain ⟨y1, t1, hz⟩ := hts0
      have l1 := fk_T_lt _ _ _ t1
      have n1 := fk_en_T hn40 t1
      refine lv_aload_n S.1 S.2.1 d_C_resultOf_0 rfl (lv_at hl 1 rfl) ?_
      refine fk_gn S E G x (by have := fk_Xlt hX; omega) (v := .ref (fk_a g (x + 1))) (congrArg (fk_ce g ov x (M x)) (fk_kx0 hX)) rfl 0 (by decide) rfl (List.mem_of_getElem? (i := 2) rfl) rfl d_C_resultOf_1 ?_
      refine lv_iload_n S.1 S.2.1 d_C_resultOf_4 rfl (lv_at hl 2 rfl) ?_
      refine fk_ia S E G (x + 1) (by have := fk_Xlt hX; omega) (congrArg (fk_ce g ov (x + 1) (M (x + 1))) (fk_kx1 hX)) i rfl (by omega) (by decide) (v := nI 14) (by rw [hb i hok.1, hk]) d_C_resultOf_5 ?_
      refine lv_tableIn (off := 124) (tgt := 130) S.1 S.2.1 d_C_resultOf_6 (by decide +kernel) (by decide +kernel) (by decide +kernel) rfl ?_
      refine lv_aload_n S.1 S.2.1 d_C_resultOf_130 rfl (lv_at hl 1 rfl) ?_
      refine fk_gn S E G x (by have := fk_Xlt hX; omega) (v := .ref (fk_a g (x + 4))) (congrArg (fk_ce g ov x (M x)) (fk_kx0 hX)) rfl 3 (by decide) rfl (List.mem_of_getElem? (i := 7) rfl) rfl d_C_resultOf_131 ?_
      refine lv_iload_n S.1 S.2.1 d_C_resultOf_134 rfl (lv_at hl 2 rfl) ?_
      refine fk_ia S E G (x + 4) (by have := fk_Xlt hX; omega) (congrArg (fk_ce g ov (x + 4) (M (x + 4))) (fk_kx4 hX)) i rfl (by omega) (by decide) (v := M (x + 4) i) rfl d_C_resultOf_135 ?_
      exact fk_iret S hr hlk E G rfl (by show _ = fk_ek M x (bf i) (bf (i + 1)) i _ _ _; rw [hk]; rfl) d_C_resultOf_136
    · have hts0 : fk_Ts (fk_T bf n cnt (M (x + 2)) r) 2 (i + fk_hd (bf i)) ee := by
        have h9 : fk_ar (bf i) = 2 := by rw [hk]; decide
        rw [h9] at hts
        exact hts
      obtain ⟨y1, t1, y2, t2, hz⟩ := hts0
      have l1 := fk_T_lt _ _ _ t1
      have n1 := fk_en_T hn40 t1
      have l2 := fk_T_lt _ _ _ t2
      have n2 := fk_en_T hn40 t2
      refine lv_aload_n S.1 S.2.1 d_C_resultOf_0 rfl (lv_at hl 1 rfl) ?_
      refine fk_gn S E G x (by have := fk_Xlt hX; omega) (v := .ref (fk_a g (x + 1))) (congrArg (fk_ce g ov x (M x)) (fk_kx0 hX)) rfl 0 (by decide) rfl (List.mem_of_getElem? (i := 2) rfl) rfl d_C_resultOf_1 ?_
      refine lv_iload_n S.1 S.2.1 d_C_resultOf_4 rfl (lv_at hl 2 rfl) ?_
      refine fk_ia S E G (x + 1) (by have := fk_Xlt hX; omega) (congrArg (fk_ce g ov (x + 1) (M (x + 1))) (fk_kx1 hX)) i rfl (by omega) (by decide) (v := nI 15) (by rw [hb i hok.1, hk]) d_C_resultOf_5 ?_
      refine lv_tableIn (off := 131) (tgt := 137) S.1 S.2.1 d_C_resultOf_6 (by decide +kernel) (by decide +kernel) (by decide +kernel) rfl ?_
      refine lv_aload_n S.1 S.2.1 d_C_resultOf_137 rfl (lv_at hl 0 rfl) ?_
      refine lv_aload_n S.1 S.2.1 d_C_resultOf_138 rfl (lv_at hl 1 rfl) ?_
      refine lv_aload_n S.1 S.2.1 d_C_resultOf_139 rfl (lv_at hl 0 rfl) ?_
      refine lv_aload_n S.1 S.2.1 d_C_resultOf_140 rfl (lv_at hl 1 rfl) ?_
      refine lv_iload_n S.1 S.2.1 d_C_resultOf_141 rfl (lv_at hl 2 rfl) ?_
      have hcp := c_C_chosenPart l g ov M x hX bf n cnt hn40 h12 hb hck r i ee ht0 (by omega) ih
      refine fk_cvi S E G 82 (by decide) (congrArg (fk_ce g ov 82 (M 82)) kd_82) rfl (rest := [.ref (fk_a g x), .ref (fk_a g 82)]) hcp m_C_chosenPart i_563 ⟨rfl, rfl⟩ ⟨by show 2 * r + 4 + 1 ≤ 2 * (r + 1) + 3; omega, by show 8 + (6 + 11) + 64 * (2 * r + 4) ≤ 64 * (2 * (r + 1) + 3); omega⟩ rfl rfl hl.1 (Nat.le_of_ble_eq_true rfl) d_C_resultOf_142 ⟨Nat.zero_le _, Nat.zero_le _⟩ (fun H locs G => ?_)
      by_cases hif : M 83 (M (x + 3) i).toNatClampNeg = 0
      · have hcq : fk_cp M x bf r i = i + fk_hd (bf i) := by
          show fk_cq M x (bf i) _ i _ _ _ _ = _
          rw [hk]
          exact if_pos hif
        rw [hcq]
        refine fk_cvi S E G 82 (by decide) (congrArg (fk_ce g ov 82 (M 82)) kd_82) rfl (rest := []) (ih _ _ t1) m_C_resultOf i_558 ⟨rfl, rfl⟩ ⟨by show 2 * r + 3 + 1 ≤ 2 * (r + 1) + 3; omega, by show 8 + (3 + 11) + 64 * (2 * r + 3) ≤ 64 * (2 * (r + 1) + 3); omega⟩ rfl rfl hl.1 (Nat.le_of_ble_eq_true rfl) d_C_resultOf_145 ⟨Nat.zero_le _, Nat.zero_le _⟩ (fun H locs G => ?_)
        exact fk_iret S hr hlk E G rfl (by show _ = fk_ek M x (bf i) (bf (i + 1)) i _ _ _; rw [hk]; show _ = (if M 83 (M (x + 3) i).toNatClampNeg = 0 then _ else _); rw [if_pos hif]) d_C_resultOf_148
      · have hcq : fk_cp M x bf r i = y1 := by
          show fk_cq M x (bf i) _ i _ _ _ _ = _
          rw [n1, hk]
          exact if_neg hif
        rw [hcq]
        refine fk_cvi S E G 82 (by decide) (congrArg (fk_ce g ov 82 (M 82)) kd_82) rfl (rest := []) (ih _ _ t2) m_C_resultOf i_558 ⟨rfl, rfl⟩ ⟨by show 2 * r + 3 + 1 ≤ 2 * (r + 1) + 3; omega, by show 8 + (3 + 11) + 64 * (2 * r + 3) ≤ 64 * (2 * (r + 1) + 3); omega⟩ rfl rfl hl.1 (Nat.le_of_ble_eq_true rfl) d_C_resultOf_145 ⟨Nat.zero_le _, Nat.zero_le _⟩ (fun H locs G => ?_)
        exact fk_iret S hr hlk E G rfl (by show _ = fk_ek M x (bf i) (bf (i + 1)) i _ _ _; rw [n1, hk]; show _ = (if M 83 (M (x + 3) i).toNatClampNeg = 0 then _ else _); rw [if_neg hif]) d_C_resultOf_148
    · have hts0 : fk_Ts (fk_T bf n cnt (M (x + 2)) r) 1 (i + fk_hd (bf i)) ee := by
        have h9 : fk_ar (bf i) = 1 := by rw [hk]; decide
        rw [h9] at hts
        exact hts
      obtain ⟨y1, t1, hz⟩ := hts0
      have l1 := fk_T_lt _ _ _ t1
      have n1 := fk_en_T hn40 t1
      refine lv_aload_n S.1 S.2.1 d_C_resultOf_0 rfl (lv_at hl 1 rfl) ?_
      refine fk_gn S E G x (by have := fk_Xlt hX; omega) (v := .ref (fk_a g (x + 1))) (congrArg (fk_ce g ov x (M x)) (fk_kx0 hX)) rfl 0 (by decide) rfl (List.mem_of_getElem? (i := 2) rfl) rfl d_C_resultOf_1 ?_
      refine lv_iload_n S.1 S.2.1 d_C_resultOf_4 rfl (lv_at hl 2 rfl) ?_
      refine fk_ia S E G (x + 1) (by have := fk_Xlt hX; omega) (congrArg (fk_ce g ov (x + 1) (M (x + 1))) (fk_kx1 hX)) i rfl (by omega) (by decide) (v := nI 16) (by rw [hb i hok.1, hk]) d_C_resultOf_5 ?_
      refine lv_tableIn (off := 131) (tgt := 137) S.1 S.2.1 d_C_resultOf_6 (by decide +kernel) (by decide +kernel) (by decide +kernel) rfl ?_
      refine lv_aload_n S.1 S.2.1 d_C_resultOf_137 rfl (lv_at hl 0 rfl) ?_
      refine lv_aload_n S.1 S.2.1 d_C_resultOf_138 rfl (lv_at hl 1 rfl) ?_
      refine lv_aload_n S.1 S.2.1 d_C_resultOf_139 rfl (lv_at hl 0 rfl) ?_
      refine lv_aload_n S.1 S.2.1 d_C_resultOf_140 rfl (lv_at hl 1 rfl) ?_
      refine lv_iload_n S.1 S.2.1 d_C_resultOf_141 rfl (lv_at hl 2 rfl) ?_
      have hcp := c_C_chosenPart l g ov M x hX bf n cnt hn40 h12 hb hck r i ee ht0 (by omega) ih
      refine fk_cvi S E G 82 (by decide) (congrArg (fk_ce g ov 82 (M 82)) kd_82) rfl (rest := [.ref (fk_a g x), .ref (fk_a g 82)]) hcp m_C_chosenPart i_563 ⟨rfl, rfl⟩ ⟨by show 2 * r + 4 + 1 ≤ 2 * (r + 1) + 3; omega, by show 8 + (6 + 11) + 64 * (2 * r + 4) ≤ 64 * (2 * (r + 1) + 3); omega⟩ rfl rfl hl.1 (Nat.le_of_ble_eq_true rfl) d_C_resultOf_142 ⟨Nat.zero_le _, Nat.zero_le _⟩ (fun H locs G => ?_)
      have hcq : fk_cp M x bf r i = i + fk_hd (bf i) := by
        show fk_cq M x (bf i) _ i _ _ _ _ = _
        rw [hk]
        rfl
      rw [hcq]
      refine fk_cvi S E G 82 (by decide) (congrArg (fk_ce g ov 82 (M 82)) kd_82) rfl (rest := []) (ih _ _ t1) m_C_resultOf i_558 ⟨rfl, rfl⟩ ⟨by show 2 * r + 3 + 1 ≤ 2 * (r + 1) + 3; omega, by show 8 + (3 + 11) + 64 * (2 * r + 3) ≤ 64 * (2 * (r + 1) + 3); omega⟩ rfl rfl hl.1 (Nat.le_of_ble_eq_true rfl) d_C_resultOf_145 ⟨Nat.zero_le _, Nat.zero_le _⟩ (fun H locs G => ?_)
      exact fk_iret S hr hlk E G rfl (by show _ = fk_ek M x (bf i) (bf (i + 1)) i _ _ _; rw [hk]; rfl) d_C_resultOf_148
    · have hts0 : fk_Ts (fk_T bf n cnt (M (x + 2)) r) 1 (i + fk_hd (bf i)) ee := by
        have h9 : fk_ar (bf i) = 1 := by rw [hk]; decide
        rw [h9] at hts
        exact hts
      obtain ⟨y1, t1, hz⟩ := hts0
      have l1 := fk_T_lt _ _ _ t1
      have n1 := fk_en_T hn40 t1
      refine lv_aload_n S.1 S.2.1 d_C_resultOf_0 rfl (lv_at hl 1 rfl) ?_
      refine fk_gn S E G x (by have := fk_Xlt hX; omega) (v := .ref (fk_a g (x + 1))) (congrArg (fk_ce g ov x (M x)) (fk_kx0 hX)) rfl 0 (by decide) rfl (List.mem_of_getElem? (i := 2) rfl) rfl d_C_resultOf_1 ?_
      refine lv_iload_n S.1 S.2.1 d_C_resultOf_4 rfl (lv_at hl 2 rfl) ?_
      refine fk_ia S E G (x + 1) (by have := fk_Xlt hX; omega) (congrArg (fk_ce g ov (x + 1) (M (x + 1))) (fk_kx1 hX)) i rfl (by omega) (by decide) (v := nI 17) (by rw [hb i hok.1, hk]) d_C_resultOf_5 ?_
      refine lv_tableIn (off := 131) (tgt := 137) S.1 S.2.1 d_C_resultOf_6 (by decide +kernel) (by decide +kernel) (by decide +kernel) rfl ?_
      refine lv_aload_n S.1 S.2.1 d_C_resultOf_137 rfl (lv_at hl 0 rfl) ?_
      refine lv_aload_n S.1 S.2.1 d_C_resultOf_138 rfl (lv_at hl 1 rfl) ?_
      refine lv_aload_n S.1 S.2.1 d_C_resultOf_139 rfl (lv_at hl 0 rfl) ?_
      refine lv_aload_n S.1 S.2.1 d_C_resultOf_140 rfl (lv_at hl 1 rfl) ?_
      refine lv_iload_n S.1 S.2.1 d_C_resultOf_141 rfl (lv_at hl 2 rfl) ?_
      have hcp := c_C_chosenPart l g ov M x hX bf n cnt hn40 h12 hb hck r i ee ht0 (by omega) ih
      refine fk_cvi S E G 82 (by decide) (congrArg (fk_ce g ov 82 (M 82)) kd_82) rfl (rest := [.ref (fk_a g x), .ref (fk_a g 82)]) hcp m_C_chosenPart i_563 ⟨rfl, rfl⟩ ⟨by show 2 * r + 4 + 1 ≤ 2 * (r + 1) + 3; omega, by show 8 + (6 + 11) + 64 * (2 * r + 4) ≤ 64 * (2 * (r + 1) + 3); omega⟩ rfl rfl hl.1 (Nat.le_of_ble_eq_true rfl) d_C_resultOf_142 ⟨Nat.zero_le _, Nat.zero_le _⟩ (fun H locs G => ?_)
      have hcq : fk_cp M x bf r i = i + fk_hd (bf i) := by
        show fk_cq M x (bf i) _ i _ _ _ _ = _
        rw [hk]
        rfl
      rw [hcq]
      refine fk_cvi S E G 82 (by decide) (congrArg (fk_ce g ov 82 (M 82)) kd_82) rfl (rest := []) (ih _ _ t1) m_C_resultOf i_558 ⟨rfl, rfl⟩ ⟨by show 2 * r + 3 + 1 ≤ 2 * (r + 1) + 3; omega, by show 8 + (3 + 11) + 64 * (2 * r + 3) ≤ 64 * (2 * (r + 1) + 3); omega⟩ rfl rfl hl.1 (Nat.le_of_ble_eq_true rfl) d_C_resultOf_145 ⟨Nat.zero_le _, Nat.zero_le _⟩ (fun H locs G => ?_)
      exact fk_iret S hr hlk E G rfl (by show _ = fk_ek M x (bf i) (bf (i + 1)) i _ _ _; rw [hk]; rfl) d_C_resultOf_148
    · have hts0 : fk_Ts (fk_T bf n cnt (M (x + 2)) r) 2 (i + fk_hd (bf i)) ee := by
        have h9 : fk_ar (bf i) = 2 := by rw [hk]; decide
        rw [h9] at hts
        exact hts
      obtain ⟨y1, t1, y2, t2, hz⟩ := hts0
      have l1 := fk_T_lt _ _ _ t1
      have n1 := fk_en_T hn40 t1
      have l2 := fk_T_lt _ _ _ t2
      have n2 := fk_en_T hn40 t2
      refine lv_aload_n S.1 S.2.1 d_C_resultOf_0 rfl (lv_at hl 1 rfl) ?_
      refine fk_gn S E G x (by have := fk_Xlt hX; omega) (v := .ref (fk_a g (x + 1))) (congrArg (fk_ce g ov x (M x)) (fk_kx0 hX)) rfl 0 (by decide) rfl (List.mem_of_getElem? (i := 2) rfl) rfl d_C_resultOf_1 ?_
      refine lv_iload_n S.1 S.2.1 d_C_resultOf_4 rfl (lv_at hl 2 rfl) ?_
      refine fk_ia S E G (x + 1) (by have := fk_Xlt hX; omega) (congrArg (fk_ce g ov (x + 1) (M (x + 1))) (fk_kx1 hX)) i rfl (by omega) (by decide) (v := nI 18) (by rw [hb i hok.1, hk]) d_C_resultOf_5 ?_
      refine lv_tableIn (off := 131) (tgt := 137) S.1 S.2.1 d_C_resultOf_6 (by decide +kernel) (by decide +kernel) (by decide +kernel) rfl ?_
      refine lv_aload_n S.1 S.2.1 d_C_resultOf_137 rfl (lv_at hl 0 rfl) ?_
      refine lv_aload_n S.1 S.2.1 d_C_resultOf_138 rfl (lv_at hl 1 rfl) ?_
      refine lv_aload_n S.1 S.2.1 d_C_resultOf_139 rfl (lv_at hl 0 rfl) ?_
      refine lv_aload_n S.1 S.2.1 d_C_resultOf_140 rfl (lv_at hl 1 rfl) ?_
      refine lv_iload_n S.1 S.2.1 d_C_resultOf_141 rfl (lv_at hl 2 rfl) ?_
      have hcp := c_C_chosenPart l g ov M x hX bf n cnt hn40 h12 hb hck r i ee ht0 (by omega) ih
      refine fk_cvi S E G 82 (by decide) (congrArg (fk_ce g ov 82 (M 82)) kd_82) rfl (rest := [.ref (fk_a g x), .ref (fk_a g 82)]) hcp m_C_chosenPart i_563 ⟨rfl, rfl⟩ ⟨by show 2 * r + 4 + 1 ≤ 2 * (r + 1) + 3; omega, by show 8 + (6 + 11) + 64 * (2 * r + 4) ≤ 64 * (2 * (r + 1) + 3); omega⟩ rfl rfl hl.1 (Nat.le_of_ble_eq_true rfl) d_C_resultOf_142 ⟨Nat.zero_le _, Nat.zero_le _⟩ (fun H locs G => ?_)
      by_cases hif : M (3 + 6 * bf (i + 1)) 6 = nI 1
      · have hcq : fk_cp M x bf r i = i + fk_hd (bf i) := by
          show fk_cq M x (bf i) _ i _ _ _ _ = _
          rw [hk]
          exact if_pos hif
        rw [hcq]
        refine fk_cvi S E G 82 (by decide) (congrArg (fk_ce g ov 82 (M 82)) kd_82) rfl (rest := []) (ih _ _ t1) m_C_resultOf i_558 ⟨rfl, rfl⟩ ⟨by show 2 * r + 3 + 1 ≤ 2 * (r + 1) + 3; omega, by show 8 + (3 + 11) + 64 * (2 * r + 3) ≤ 64 * (2 * (r + 1) + 3); omega⟩ rfl rfl hl.1 (Nat.le_of_ble_eq_true rfl) d_C_resultOf_145 ⟨Nat.zero_le _, Nat.zero_le _⟩ (fun H locs G => ?_)
        exact fk_iret S hr hlk E G rfl (by show _ = fk_ek M x (bf i) (bf (i + 1)) i _ _ _; rw [hk]; show _ = (if _ then _ else _); rw [if_pos hif]) d_C_resultOf_148
      · have hcq : fk_cp M x bf r i = y1 := by
          show fk_cq M x (bf i) _ i _ _ _ _ = _
          rw [n1, hk]
          exact if_neg hif
        rw [hcq]
        refine fk_cvi S E G 82 (by decide) (congrArg (fk_ce g ov 82 (M 82)) kd_82) rfl (rest := []) (ih _ _ t2) m_C_resultOf i_558 ⟨rfl, rfl⟩ ⟨by show 2 * r + 3 + 1 ≤ 2 * (r + 1) + 3; omega, by show 8 + (3 + 11) + 64 * (2 * r + 3) ≤ 64 * (2 * (r + 1) + 3); omega⟩ rfl rfl hl.1 (Nat.le_of_ble_eq_true rfl) d_C_resultOf_145 ⟨Nat.zero_le _, Nat.zero_le _⟩ (fun H locs G => ?_)
        exact fk_iret S hr hlk E G rfl (by show _ = fk_ek M x (bf i) (bf (i + 1)) i _ _ _; rw [n1, hk]; show _ = (if _ then _ else _); rw [if_neg hif]) d_C_resultOf_148
end
section
/-! The shape of the class's state; Clockwork: restart, workOut, remember, step. Written by wip/gen/s_step.py. -/
/-- n flows; of each its clock, the cell of its expression, that one's length and bytes -/
def fk_Sh (n : Nat) (ck P sz : Nat → Nat) (bb : Nat → Nat → Nat) (M : fk_M) : Prop :=
  M 1 1 = nI n ∧ n ≤ 12 ∧ ∀ j, j < 12 → fk_X (P j) ∧ M (3 + 6 * j) 0 = nI (P j) ∧ M (3 + 6 * j) 3 = nI (ck j) ∧ ck j < 25 ∧ M (P j) 4 = nI (sz j) ∧ sz j ≤ 40 ∧ (∀ i, i < sz j → M (P j + 1) i = nI (bb j i) ∧ bb j i < 256) ∧ (∀ i, i < 40 → ∃ q, q < 25 ∧ M (P j + 3) i = nI q) ∧ (0 < sz j → fk_T (bb j) (sz j) n (M (P j + 2)) 11 0 (sz j)) ∧ (M (3 + 6 * j) 1 = 0 ∨ M (3 + 6 * j) 1 = 1) ∧ (M (3 + 6 * j) 2 = 0 ∨ M (3 + 6 * j) 2 = 1) ∧ (¬ M (3 + 6 * j) 2 = 0 → sz j = 0)
/-- what the shape speaks of is the same -/
def fk_Eq (M M' : fk_M) : Prop := M' 1 = M 1 ∧ (∀ j, j < 12 → ∀ t, t < 4 → M' (3 + 6 * j) t = M (3 + 6 * j) t) ∧ ∀ x, fk_X x → M' x = M x ∧ M' (x + 1) = M (x + 1) ∧ M' (x + 2) = M (x + 2) ∧ M' (x + 3) = M (x + 3)
theorem fk_Eq.rf (M : fk_M) : fk_Eq M M := ⟨rfl, fun _ _ _ _ => rfl, fun _ _ => ⟨rfl, rfl, rfl, rfl⟩⟩
theorem fk_Eq.tr {M M' M'' : fk_M} (h : fk_Eq M M') (h' : fk_Eq M' M'') : fk_Eq M M'' := by
  refine ⟨h'.1.trans h.1, fun j hj t ht => (h'.2.1 j hj t ht).trans (h.2.1 j hj t ht), fun x hx => ?_⟩
  obtain ⟨a1, a2, a3, a4⟩ := h.2.2 x hx
  obtain ⟨b1, b2, b3, b4⟩ := h'.2.2 x hx
  exact ⟨b1.trans a1, b2.trans a2, b3.trans a3, b4.trans a4⟩
theorem fk_Sh.to {n : Nat} {ck P sz : Nat → Nat} {bb : Nat → Nat → Nat} {M M' : fk_M} (h : fk_Sh n ck P sz bb M) (q : fk_Eq M M') : fk_Sh n ck P sz bb M' := by
  obtain ⟨h1, h2, h3⟩ := h
  obtain ⟨q1, q2, q3⟩ := q
  refine ⟨by rw [q1]; exact h1, h2, fun j hj => ?_⟩
  obtain ⟨a1, a2, a3, a4, a5, a6, a7, a8, a9, a10, a11, a12⟩ := h3 j hj
  obtain ⟨b1, b2, b3, b4⟩ := q3 _ a1
  have q2' := q2 j hj
  refine ⟨a1, by rw [q2' 0 (by decide)]; exact a2, by rw [q2' 3 (by decide)]; exact a3, a4, by rw [b1]; exact a5, a6, by rw [b2]; exact a7, by rw [b4]; exact a8, by rw [b3]; exact a9, by rw [q2' 1 (by decide)]; exact a10, by rw [q2' 2 (by decide)]; exact a11, by rw [q2' 2 (by decide)]; exact a12⟩
theorem fk_Eq_f {M : fk_M} {j t : Nat} (hj : j < 12) (ht : 4 ≤ t) (v : Int32) : fk_Eq M (va_up M (3 + 6 * j) (upd (M (3 + 6 * j)) t v)) := by
  refine ⟨va_up_ne _ _ (by omega), fun i hi u hu => ?_, fun x hX => ?_⟩
  · by_cases h : i = j
    · subst h
      rw [va_up_self, pk_un (by omega)]
    · rw [va_up_ne _ _ (by omega)]
  · rcases hX with rfl | ⟨i, hi, rfl⟩
    · exact ⟨va_up_ne _ _ (by omega), va_up_ne _ _ (by omega), va_up_ne _ _ (by omega), va_up_ne _ _ (by omega)⟩
    · exact ⟨va_up_ne _ _ (by omega), va_up_ne _ _ (by omega), va_up_ne _ _ (by omega), va_up_ne _ _ (by omega)⟩
theorem fk_Eq_p {M : fk_M} {x : Nat} (hX : fk_X x) (w : Nat → Int32) : fk_Eq M (va_up M (x + 4) w) := by
  rcases hX with rfl | ⟨t, ht, rfl⟩
  · refine ⟨va_up_ne _ _ (by omega), fun i hi u hu => by rw [va_up_ne _ _ (by omega)], fun y hY => ?_⟩
    rcases hY with rfl | ⟨i, hi, rfl⟩
    · exact ⟨va_up_ne _ _ (by omega), va_up_ne _ _ (by omega), va_up_ne _ _ (by omega), va_up_ne _ _ (by omega)⟩
    · exact ⟨va_up_ne _ _ (by omega), va_up_ne _ _ (by omega), va_up_ne _ _ (by omega), va_up_ne _ _ (by omega)⟩
  · refine ⟨va_up_ne _ _ (by omega), fun i hi u hu => by rw [va_up_ne _ _ (by omega)], fun y hY => ?_⟩
    rcases hY with rfl | ⟨i, hi, rfl⟩
    · exact ⟨va_up_ne _ _ (by omega), va_up_ne _ _ (by omega), va_up_ne _ _ (by omega), va_up_ne _ _ (by omega)⟩
    · exact ⟨va_up_ne _ _ (by omega), va_up_ne _ _ (by omega), va_up_ne _ _ (by omega), va_up_ne _ _ (by omega)⟩
/-- a cell that the shape doesn't speak of -/
theorem fk_Eq_k {M : fk_M} {k : Nat} (hk : k = 0 ∨ k = 2 ∨ (75 ≤ k ∧ k < 84) ∨ 89 ≤ k) (w : Nat → Int32) : fk_Eq M (va_up M k w) := by
  refine ⟨va_up_ne _ _ (by omega), fun i hi u hu => by rw [va_up_ne _ _ (by omega)], fun y hY => ?_⟩
  rcases hY with rfl | ⟨i, hi, rfl⟩
  · exact ⟨va_up_ne _ _ (by omega), va_up_ne _ _ (by omega), va_up_ne _ _ (by omega), va_up_ne _ _ (by omega)⟩
  · exact ⟨va_up_ne _ _ (by omega), va_up_ne _ _ (by omega), va_up_ne _ _ (by omega), va_up_ne _ _ (by omega)⟩
/-- the instants begin anew -/
def fk_rs (P : Nat → Nat) (M : fk_M) : Nat → fk_M
  | 0 => va_up M 83 (fk_fl (M 83) 25 0)
  | i + 1 => va_up (va_up (fk_rs P M i) (3 + 6 * i) (upd (fk_rs P M i (3 + 6 * i)) 5 0)) (P i + 4) (fk_fl (va_up (fk_rs P M i) (3 + 6 * i) (upd (fk_rs P M i (3 + 6 * i)) 5 0) (P i + 4)) 40 0)
theorem fk_rs_Eq {P : Nat → Nat} (hP : ∀ j, j < 12 → fk_X (P j)) (M : fk_M) : ∀ i, i ≤ 12 → fk_Eq M (fk_rs P M i) := by
  intro i
  induction i with
  | zero => intro _; exact fk_Eq_k (by omega) _
  | succ i ih => intro hi; exact ((ih (by omega)).tr (fk_Eq_f (by omega) (by decide) _)).tr (fk_Eq_p (hP i (by omega)) _)
/-- a flow is worked out -/
def fk_w1 (M : fk_M) (ck : Nat → Nat) (j : Nat) : fk_M := va_up M (3 + 6 * j) (upd (M (3 + 6 * j)) 5 (nI (fk_hi M (ck j)).toNat))
def fk_wo (ck P : Nat → Nat) (bb : Nat → Nat → Nat) (M : fk_M) (j : Nat) : fk_M :=
  if fk_hi M (ck j) = true then va_up (fk_w1 M ck j) (3 + 6 * j) (upd (fk_w1 M ck j (3 + 6 * j)) 6 (if M (3 + 6 * j) 2 = 0 then fk_ev (fk_w1 M ck j) (P j) (bb j) 11 0 else M (3 + 6 * j) 4)) else fk_w1 M ck j
theorem fk_wo_Eq {ck P : Nat → Nat} {bb : Nat → Nat → Nat} (M : fk_M) {j : Nat} (hj : j < 12) : fk_Eq M (fk_wo ck P bb M j) := by
  unfold fk_wo
  by_cases h : fk_hi M (ck j) = true
  · rw [if_pos h]
    exact (fk_Eq_f hj (by decide) _).tr (fk_Eq_f hj (by decide) _)
  · rw [if_neg h]
    exact fk_Eq_f hj (by decide) _
theorem d_C_restart_0 : decode b_C_restart 0 = .ok (.aload_n 0, 1) := by decide +kernel
theorem d_C_restart_1 : decode b_C_restart 1 = .ok (.getfield 9, 3) := by decide +kernel
theorem d_C_restart_4 : decode b_C_restart 4 = .ok (.iconst 0, 1) := by decide +kernel
theorem d_C_restart_5 : decode b_C_restart 5 = .ok (.invokestatic 23, 3) := by decide +kernel
theorem d_C_restart_8 : decode b_C_restart 8 = .ok (.iconst 0, 1) := by decide +kernel
theorem d_C_restart_9 : decode b_C_restart 9 = .ok (.istore_n 1, 1) := by decide +kernel
theorem d_C_restart_10 : decode b_C_restart 10 = .ok (.iload_n 1, 1) := by decide +kernel
theorem d_C_restart_11 : decode b_C_restart 11 = .ok (.aload_n 0, 1) := by decide +kernel
theorem d_C_restart_12 : decode b_C_restart 12 = .ok (.getfield 15, 3) := by decide +kernel
theorem d_C_restart_15 : decode b_C_restart 15 = .ok (.getfield 29, 3) := by decide +kernel
theorem d_C_restart_18 : decode b_C_restart 18 = .ok (.if_icmp .ge 35, 3) := by decide +kernel
theorem d_C_restart_21 : decode b_C_restart 21 = .ok (.aload_n 0, 1) := by decide +kernel
theorem d_C_restart_22 : decode b_C_restart 22 = .ok (.getfield 15, 3) := by decide +kernel
theorem d_C_restart_25 : decode b_C_restart 25 = .ok (.getfield 35, 3) := by decide +kernel
theorem d_C_restart_28 : decode b_C_restart 28 = .ok (.iload_n 1, 1) := by decide +kernel
theorem d_C_restart_29 : decode b_C_restart 29 = .ok (.aaload, 1) := by decide +kernel
theorem d_C_restart_30 : decode b_C_restart 30 = .ok (.astore_n 2, 1) := by decide +kernel
theorem d_C_restart_31 : decode b_C_restart 31 = .ok (.aload_n 2, 1) := by decide +kernel
theorem d_C_restart_32 : decode b_C_restart 32 = .ok (.iconst 0, 1) := by decide +kernel
theorem d_C_restart_33 : decode b_C_restart 33 = .ok (.putfield 39, 3) := by decide +kernel
theorem d_C_restart_36 : decode b_C_restart 36 = .ok (.aload_n 2, 1) := by decide +kernel
theorem d_C_restart_37 : decode b_C_restart 37 = .ok (.getfield 45, 3) := by decide +kernel
theorem d_C_restart_40 : decode b_C_restart 40 = .ok (.getfield 49, 3) := by decide +kernel
theorem d_C_restart_43 : decode b_C_restart 43 = .ok (.iconst 0, 1) := by decide +kernel
theorem d_C_restart_44 : decode b_C_restart 44 = .ok (.invokestatic 23, 3) := by decide +kernel
theorem d_C_restart_47 : decode b_C_restart 47 = .ok (.iinc 1 1, 3) := by decide +kernel
theorem d_C_restart_50 : decode b_C_restart 50 = .ok (.goto (-40), 3) := by decide +kernel
theorem d_C_restart_53 : decode b_C_restart 53 = .ok (.return_, 1) := by decide +kernel
theorem m_C_restart : fk_MI y_C_restart b_C_restart 3 none 0 := ⟨i_224, i_223, fk_mp (q := (y_C_restart, 3)) (by decide +kernel), i_7, by decide +kernel⟩
set_option maxHeartbeats 4000000 in
set_option maxRecDepth 100000 in
theorem c_C_restart (l : Launch) (g : fk_G) (ov : Int64) (M : fk_M) (n : Nat) (ck P sz : Nat → Nat) (bb : Nat → Nat → Nat) (hs : fk_Sh n ck P sz bb M) : fk_CV l y_C_restart b_C_restart 3 (fk_rm 1) g ov M (fk_rs P M n) [.ref (fk_a g 82)] := by
  refine fk_ofV rfl (Nat.le_of_ble_eq_true rfl) ?_
  intro p e s m args below meth c ls S hr hlk E G hl
  have hl : lv_has ls 3 [(0, .ref (fk_a g 82))] := hl
  have h12 := hs.2.1
  have hP : ∀ j, j < 12 → fk_X (P j) := fun j hj => (hs.2.2 j hj).1
  refine lv_aload_n S.1 S.2.1 d_C_restart_0 rfl (lv_at hl 0 rfl) ?_
  refine fk_gf S E G 82 (by decide) (v := .ref (fk_a g 83)) (congrArg (fk_ce g ov 82 (M 82)) kd_82) rfl 2 (by decide) rfl i_190 rfl d_C_restart_1 ?_
  refine lv_iconst (v := nI 0) S.1 S.2.1 d_C_restart_4 (by decide +kernel) ?_
  refine fk_csv S E G (rest := []) (c_A_fill l g ov M 83 25 (by decide) (by decide) (nI 0) (fun r => congrArg (fk_ce g ov 83 r) kd_83)) m_A_fill i_225 ⟨rfl, rfl⟩ ⟨by decide, by decide⟩ rfl rfl hl.1 (Nat.le_of_ble_eq_true rfl) d_C_restart_5 ⟨Nat.zero_le _, Nat.zero_le _⟩ (fun H locs G => ?_)
  rw [nI_0] at G
  refine lv_iconst (v := nI 0) S.1 S.2.1 d_C_restart_8 (by decide +kernel) ?_
  refine lv_istore_n (lv' := [(1, .int (nI 0)), (0, .ref (fk_a g 82))]) S.1 S.2.1 d_C_restart_9 rfl hl (by decide) rfl (fun ls hl => ?_)
  have loop : ∀ (d i : Nat) (H : Heap) (locs : List Loc) (ls : Array Slot), i + d = n → fk_H g ov (fk_rs P M i) s H locs → lv_has ls 3 [(1, .int (nI i)), (0, .ref (fk_a g 82))] → W p l e (fk_rm 1) s m args below meth c H locs 0 0 (MQ below (va_Qv (fun (_ : Unit) => True) (fun _ t => fk_Wd g ov (fk_rs P M n) t) (fk_A g)) args s 0 0 (fk_A g)) (F0 m 10 ls []) := by
    intro d
    induction d with
    | zero =>
      intro i H locs ls hi G hl
      have hE := fk_rs_Eq hP M i (by omega)
      have hs1 := hs.to hE
      obtain ⟨M1, hM1⟩ : ∃ z : fk_M, z = fk_rs P M i := ⟨_, rfl⟩
      rw [← hM1] at G
      rw [← hM1] at hE hs1
      refine lv_iload_n S.1 S.2.1 d_C_restart_10 rfl (lv_at hl 0 rfl) ?_
      refine lv_aload_n S.1 S.2.1 d_C_restart_11 rfl (lv_at hl 1 rfl) ?_
      refine fk_gf S E G 82 (by decide) (v := .ref (fk_a g 1)) (congrArg (fk_ce g ov 82 (M1 82)) kd_82) rfl 0 (by decide) rfl i_188 rfl d_C_restart_12 ?_
      refine fk_gn S E G 1 (by decide) (v := .int (M1 1 1)) (congrArg (fk_ce g ov 1 (M1 1)) kd_1) rfl 1 (by decide) rfl (List.mem_of_getElem? (i := 39) rfl) rfl d_C_restart_15 ?_
      rw [hs1.1]
      refine fk_cge (tgt := 53) S.1 S.2.1 (by omega) (by omega) d_C_restart_18 rfl (fun hc1 => ?_) (fun hc1 => ?_)
      · have hin : i = n := by omega
        subst hin
        exact fk_vret S hr hlk E G hM1 d_C_restart_53
      · exact absurd hi (by omega)
    | succ d ih =>
      intro i H locs ls hi G hl
      have hE := fk_rs_Eq hP M i (by omega)
      have hs1 := hs.to hE
      obtain ⟨M1, hM1⟩ : ∃ z : fk_M, z = fk_rs P M i := ⟨_, rfl⟩
      rw [← hM1] at G
      rw [← hM1] at hE hs1
      refine lv_iload_n S.1 S.2.1 d_C_restart_10 rfl (lv_at hl 0 rfl) ?_
      refine lv_aload_n S.1 S.2.1 d_C_restart_11 rfl (lv_at hl 1 rfl) ?_
      refine fk_gf S E G 82 (by decide) (v := .ref (fk_a g 1)) (congrArg (fk_ce g ov 82 (M1 82)) kd_82) rfl 0 (by decide) rfl i_188 rfl d_C_restart_12 ?_
      refine fk_gn S E G 1 (by decide) (v := .int (M1 1 1)) (congrArg (fk_ce g ov 1 (M1 1)) kd_1) rfl 1 (by decide) rfl (List.mem_of_getElem? (i := 39) rfl) rfl d_C_restart_15 ?_
      rw [hs1.1]
      refine fk_cge (tgt := 53) S.1 S.2.1 (by omega) (by omega) d_C_restart_18 rfl (fun hc2 => ?_) (fun hc2 => ?_)
      · exact absurd hi (by omega)
      · have hX := hP i (by omega)
        obtain ⟨-, hq, -⟩ := hs1.2.2 i (by omega)
        refine lv_aload_n S.1 S.2.1 d_C_restart_21 rfl (lv_at hl 1 rfl) ?_
        refine fk_gf S E G 82 (by decide) (v := .ref (fk_a g 1)) (congrArg (fk_ce g ov 82 (M1 82)) kd_82) rfl 0 (by decide) rfl i_188 rfl d_C_restart_22 ?_
        refine fk_gn S E G 1 (by decide) (v := .ref (fk_a g 2)) (congrArg (fk_ce g ov 1 (M1 1)) kd_1) rfl 0 (by decide) rfl (List.mem_of_getElem? (i := 35) rfl) rfl d_C_restart_25 ?_
        refine lv_iload_n S.1 S.2.1 d_C_restart_28 rfl (lv_at hl 0 rfl) ?_
        refine fk_rw S E G i rfl (by omega) d_C_restart_29 ?_
        refine lv_astore_n (lv' := [(2, .ref (fk_a g (3 + 6 * i))), (1, .int (nI i)), (0, .ref (fk_a g 82))]) S.1 S.2.1 d_C_restart_30 rfl hl (by decide) rfl (fun ls hl => ?_)
        refine lv_aload_n S.1 S.2.1 d_C_restart_31 rfl (lv_at hl 0 rfl) ?_
        refine lv_iconst (v := nI 0) S.1 S.2.1 d_C_restart_32 (by decide +kernel) ?_
        refine fk_pn S E G (3 + 6 * i) (by omega) (congrArg (fk_ce g ov (3 + 6 * i) (M1 (3 + 6 * i))) (fk_kf (show i < 12 by omega))) rfl 5 (by decide) rfl (List.mem_of_getElem? (i := 30) rfl) (upd (M1 (3 + 6 * i)) 5 (nI 0)) (congrArg (fk_ce g ov (3 + 6 * i) (upd (M1 (3 + 6 * i)) 5 (nI 0))) (fk_kf (show i < 12 by omega))) rfl (ty := (.boolean)) (by decide +kernel) (fk_nb (Or.inl nI_0)) (fk_fb (Or.inl nI_0)) (Nat.le_of_ble_eq_true rfl) d_C_restart_33 (fun H locs G => ?_)
        obtain ⟨M3, hM3⟩ : ∃ z : fk_M, z = va_up M1 (3 + 6 * i) (upd (M1 (3 + 6 * i)) 5 (nI 0)) := ⟨_, rfl⟩
        rw [← hM3] at G
        have hq2 : M3 (3 + 6 * i) 0 = nI (P i) := by rw [hM3, va_up_self, pk_un (by decide)]; exact hq
        refine lv_aload_n S.1 S.2.1 d_C_restart_36 rfl (lv_at hl 0 rfl) ?_
        refine fk_gn S E G (3 + 6 * i) (by omega) (v := .ref (fk_a g (P i))) (fk_flow (show i < 12 by omega) hq2 (fk_Xb hX)) rfl 0 (by decide) rfl (List.mem_of_getElem? (i := 13) rfl) rfl d_C_restart_37 ?_
        refine fk_gn S E G (P i) (by have := fk_Xlt hX; omega) (v := .ref (fk_a g (P i + 4))) (congrArg (fk_ce g ov (P i) (M3 (P i))) (fk_kx0 hX)) rfl 3 (by decide) rfl (List.mem_of_getElem? (i := 7) rfl) rfl d_C_restart_40 ?_
        refine lv_iconst (v := nI 0) S.1 S.2.1 d_C_restart_43 (by decide +kernel) ?_
        refine fk_csv S E G (rest := []) (c_A_fill l g ov M3 (P i + 4) 40 (by have := fk_Xlt hX; omega) (by decide) (nI 0) (fun r => congrArg (fk_ce g ov (P i + 4) r) (fk_kx4 hX))) m_A_fill i_225 ⟨rfl, rfl⟩ ⟨by decide, by decide⟩ rfl rfl hl.1 (Nat.le_of_ble_eq_true rfl) d_C_restart_44 ⟨Nat.zero_le _, Nat.zero_le _⟩ (fun H locs G => ?_)
        refine lv_iinc (k := 1) (v := nI (i + 1)) (lv' := [(1, .int (nI (i + 1))), (2, .ref (fk_a g (3 + 6 * i))), (0, .ref (fk_a g 82))]) S.1 S.2.1 d_C_restart_47 hl rfl (nI_1 i) (by decide) rfl (fun ls hl => ?_)
        refine lv_goto (tgt := 10) S.1 S.2.1 d_C_restart_50 rfl ?_
        refine ih (i + 1) H locs ls (by omega) ?_ (lv_sub hl [0, 2] rfl)
        rw [hM3, hM1, nI_0] at G
        exact G
  exact loop n 0 H locs ls (by omega) G (lv_sub hl [0, 1] rfl)
theorem d_C_workOut_0 : decode b_C_workOut 0 = .ok (.aload_n 1, 1) := by decide +kernel
theorem d_C_workOut_1 : decode b_C_workOut 1 = .ok (.aload_n 0, 1) := by decide +kernel
theorem d_C_workOut_2 : decode b_C_workOut 2 = .ok (.aload_n 1, 1) := by decide +kernel
theorem d_C_workOut_3 : decode b_C_workOut 3 = .ok (.getfield 54, 3) := by decide +kernel
theorem d_C_workOut_6 : decode b_C_workOut 6 = .ok (.invokevirtual 70, 3) := by decide +kernel
theorem d_C_workOut_9 : decode b_C_workOut 9 = .ok (.putfield 39, 3) := by decide +kernel
theorem d_C_workOut_12 : decode b_C_workOut 12 = .ok (.aload_n 1, 1) := by decide +kernel
theorem d_C_workOut_13 : decode b_C_workOut 13 = .ok (.getfield 39, 3) := by decide +kernel
theorem d_C_workOut_16 : decode b_C_workOut 16 = .ok (.ifCond .eq 30, 3) := by decide +kernel
theorem d_C_workOut_19 : decode b_C_workOut 19 = .ok (.aload_n 1, 1) := by decide +kernel
theorem d_C_workOut_20 : decode b_C_workOut 20 = .ok (.aload_n 1, 1) := by decide +kernel
theorem d_C_workOut_21 : decode b_C_workOut 21 = .ok (.getfield 78, 3) := by decide +kernel
theorem d_C_workOut_24 : decode b_C_workOut 24 = .ok (.ifCond .eq 10, 3) := by decide +kernel
theorem d_C_workOut_27 : decode b_C_workOut 27 = .ok (.aload_n 1, 1) := by decide +kernel
theorem d_C_workOut_28 : decode b_C_workOut 28 = .ok (.getfield 81, 3) := by decide +kernel
theorem d_C_workOut_31 : decode b_C_workOut 31 = .ok (.goto 12, 3) := by decide +kernel
theorem d_C_workOut_34 : decode b_C_workOut 34 = .ok (.aload_n 0, 1) := by decide +kernel
theorem d_C_workOut_35 : decode b_C_workOut 35 = .ok (.aload_n 1, 1) := by decide +kernel
theorem d_C_workOut_36 : decode b_C_workOut 36 = .ok (.getfield 45, 3) := by decide +kernel
theorem d_C_workOut_39 : decode b_C_workOut 39 = .ok (.iconst 0, 1) := by decide +kernel
theorem d_C_workOut_40 : decode b_C_workOut 40 = .ok (.invokevirtual 84, 3) := by decide +kernel
theorem d_C_workOut_43 : decode b_C_workOut 43 = .ok (.putfield 88, 3) := by decide +kernel
theorem d_C_workOut_46 : decode b_C_workOut 46 = .ok (.return_, 1) := by decide +kernel
theorem m_C_workOut : fk_MI y_C_workOut b_C_workOut 2 none 1 := ⟨i_552, i_551, fk_mp (q := (y_C_workOut, 3)) (by decide +kernel), i_7, by decide +kernel⟩
set_option maxHeartbeats 4000000 in
set_option maxRecDepth 100000 in
theorem c_C_workOut (l : Launch) (g : fk_G) (ov : Int64) (M : fk_M) (n : Nat) (ck P sz : Nat → Nat) (bb : Nat → Nat → Nat) (hs : fk_Sh n ck P sz bb M) (j : Nat) (hj : j < 12) (h0 : M (3 + 6 * j) 2 = 0 → 0 < sz j) : fk_CV l y_C_workOut b_C_workOut 2 (fk_rm 26) g ov M (fk_wo ck P bb M j) [.ref (fk_a g 82), .ref (fk_a g (3 + 6 * j))] := by
  refine fk_ofV rfl (Nat.le_of_ble_eq_true rfl) ?_
  intro p e s m args below meth c ls S hr hlk E G hl
  have hl : lv_has ls 2 [(0, .ref (fk_a g 82)), (1, .ref (fk_a g (3 + 6 * j)))] := hl
  obtain ⟨hX, hq, hck, h25, hsz, h40, hb, hcl, hT, hz1, hz2, -⟩ := hs.2.2 j hj
  have h12 := hs.2.1
  refine lv_aload_n S.1 S.2.1 d_C_workOut_0 rfl (lv_at hl 1 rfl) ?_
  refine lv_aload_n S.1 S.2.1 d_C_workOut_1 rfl (lv_at hl 0 rfl) ?_
  refine lv_aload_n S.1 S.2.1 d_C_workOut_2 rfl (lv_at hl 1 rfl) ?_
  refine fk_gn S E G (3 + 6 * j) (by omega) (v := .int (M (3 + 6 * j) 3)) (congrArg (fk_ce g ov (3 + 6 * j) (M (3 + 6 * j))) (fk_kf hj)) rfl 3 (by decide) rfl (List.mem_of_getElem? (i := 25) rfl) rfl d_C_workOut_3 ?_
  rw [hck]
  refine fk_cvi S E G 82 (by decide) (congrArg (fk_ce g ov 82 (M 82)) kd_82) rfl (rest := [.ref (fk_a g (3 + 6 * j))]) (c_C_hasInstant l g ov M (ck j) h25) m_C_hasInstant i_553 ⟨rfl, rfl⟩ ⟨by decide, by decide⟩ rfl rfl hl.1 (Nat.le_of_ble_eq_true rfl) d_C_workOut_6 ⟨Nat.zero_le _, Nat.zero_le _⟩ (fun H locs G => ?_)
  refine fk_pn S E G (3 + 6 * j) (by omega) (congrArg (fk_ce g ov (3 + 6 * j) (M (3 + 6 * j))) (fk_kf hj)) rfl 5 (by decide) rfl (List.mem_of_getElem? (i := 30) rfl) (upd (M (3 + 6 * j)) 5 (nI ((fk_hi M (ck j)).toNat))) (congrArg (fk_ce g ov (3 + 6 * j) (upd (M (3 + 6 * j)) 5 (nI ((fk_hi M (ck j)).toNat)))) (fk_kf hj)) rfl (ty := (.boolean)) (by decide +kernel) (fk_nb (fk_bz _)) (fk_fb (fk_bz _)) (Nat.le_of_ble_eq_true rfl) d_C_workOut_9 (fun H locs G => ?_)
  obtain ⟨M1, hM1⟩ : ∃ z : fk_M, z = va_up M (3 + 6 * j) (upd (M (3 + 6 * j)) 5 (nI ((fk_hi M (ck j)).toNat))) := ⟨_, rfl⟩
  rw [← hM1] at G
  have hm1 : M1 = fk_w1 M ck j := hM1
  have hs1 : fk_Sh n ck P sz bb M1 := hs.to (by rw [hm1]; exact fk_Eq_f hj (by decide) _)
  have h5 : M1 (3 + 6 * j) 5 = nI (fk_hi M (ck j)).toNat := by rw [hM1, va_up_self, pk_us]
  have h2 : M1 (3 + 6 * j) 2 = M (3 + 6 * j) 2 := by rw [hM1, va_up_self, pk_un (by decide)]
  have h4 : M1 (3 + 6 * j) 4 = M (3 + 6 * j) 4 := by rw [hM1, va_up_self, pk_un (by decide)]
  refine lv_aload_n S.1 S.2.1 d_C_workOut_12 rfl (lv_at hl 1 rfl) ?_
  refine fk_gn S E G (3 + 6 * j) (by omega) (v := .int (M1 (3 + 6 * j) 5)) (congrArg (fk_ce g ov (3 + 6 * j) (M1 (3 + 6 * j))) (fk_kf hj)) rfl 5 (by decide) rfl (List.mem_of_getElem? (i := 30) rfl) rfl d_C_workOut_13 ?_
  rw [h5]
  refine fk_zeq (tgt := 46) S.1 S.2.1 (fk_bl _) d_C_workOut_16 rfl (fun hc2 => ?_) (fun hc2 => ?_)
  · have hf := fk_bf hc2
    exact fk_vret S hr hlk E G (by rw [hm1]; unfold fk_wo; rw [if_neg (by rw [hf]; decide)]) d_C_workOut_46
  · have hf := fk_bt hc2
    refine lv_aload_n S.1 S.2.1 d_C_workOut_19 rfl (lv_at hl 1 rfl) ?_
    refine lv_aload_n S.1 S.2.1 d_C_workOut_20 rfl (lv_at hl 1 rfl) ?_
    refine fk_gn S E G (3 + 6 * j) (by omega) (v := .int (M1 (3 + 6 * j) 2)) (congrArg (fk_ce g ov (3 + 6 * j) (M1 (3 + 6 * j))) (fk_kf hj)) rfl 2 (by decide) rfl (List.mem_of_getElem? (i := 21) rfl) rfl d_C_workOut_21 ?_
    rw [h2]
    refine lv_if_eq (tgt := 34) S.1 S.2.1 d_C_workOut_24 rfl (fun hc3 => ?_) (fun hc3 => ?_)
    · obtain ⟨-, hq1, -, -, -, -, hb1, hcl1, hT1, -⟩ := hs1.2.2 j hj
      have hpos := h0 hc3
      refine lv_aload_n S.1 S.2.1 d_C_workOut_34 rfl (lv_at hl 0 rfl) ?_
      refine lv_aload_n S.1 S.2.1 d_C_workOut_35 rfl (lv_at hl 1 rfl) ?_
      refine fk_gn S E G (3 + 6 * j) (by omega) (v := .ref (fk_a g (P j))) (fk_flow hj hq1 (fk_Xb hX)) rfl 0 (by decide) rfl (List.mem_of_getElem? (i := 13) rfl) rfl d_C_workOut_36 ?_
      refine lv_iconst (v := nI 0) S.1 S.2.1 d_C_workOut_39 (by decide +kernel) ?_
      refine fk_cvi S E G 82 (by decide) (congrArg (fk_ce g ov 82 (M1 82)) kd_82) rfl (rest := [.ref (fk_a g (3 + 6 * j))]) (c_C_resultOf l g ov M1 (P j) hX (bb j) (sz j) n h40 h12 (fun i hi => (hb1 i hi).1) hcl1 11 0 (sz j) (hT1 hpos)) m_C_resultOf i_558 ⟨rfl, rfl⟩ ⟨by decide, by decide⟩ rfl rfl hl.1 (Nat.le_of_ble_eq_true rfl) d_C_workOut_40 ⟨Nat.zero_le _, Nat.zero_le _⟩ (fun H locs G => ?_)
      refine fk_pn S E G (3 + 6 * j) (by omega) (congrArg (fk_ce g ov (3 + 6 * j) (M1 (3 + 6 * j))) (fk_kf hj)) rfl 6 (by decide) rfl (List.mem_of_getElem? (i := 32) rfl) (upd (M1 (3 + 6 * j)) 6 (fk_ev M1 (P j) (bb j) 11 0)) (congrArg (fk_ce g ov (3 + 6 * j) (upd (M1 (3 + 6 * j)) 6 (fk_ev M1 (P j) (bb j) 11 0))) (fk_kf hj)) rfl (ty := (.int)) (by decide +kernel) rfl rfl (Nat.le_of_ble_eq_true rfl) d_C_workOut_43 (fun H locs G => ?_)
      obtain ⟨M4, hM4⟩ : ∃ z : fk_M, z = va_up M1 (3 + 6 * j) (upd (M1 (3 + 6 * j)) 6 (fk_ev M1 (P j) (bb j) 11 0)) := ⟨_, rfl⟩
      rw [← hM4] at G
      exact fk_vret S hr hlk E G (by rw [hM4]; unfold fk_wo; rw [if_pos hf, if_pos hc3, hm1]) d_C_workOut_46
    · refine lv_aload_n S.1 S.2.1 d_C_workOut_27 rfl (lv_at hl 1 rfl) ?_
      refine fk_gn S E G (3 + 6 * j) (by omega) (v := .int (M1 (3 + 6 * j) 4)) (congrArg (fk_ce g ov (3 + 6 * j) (M1 (3 + 6 * j))) (fk_kf hj)) rfl 4 (by decide) rfl (List.mem_of_getElem? (i := 28) rfl) rfl d_C_workOut_28 ?_
      rw [h4]
      refine lv_goto (tgt := 43) S.1 S.2.1 d_C_workOut_31 rfl ?_
      refine fk_pn S E G (3 + 6 * j) (by omega) (congrArg (fk_ce g ov (3 + 6 * j) (M1 (3 + 6 * j))) (fk_kf hj)) rfl 6 (by decide) rfl (List.mem_of_getElem? (i := 32) rfl) (upd (M1 (3 + 6 * j)) 6 (M (3 + 6 * j) 4)) (congrArg (fk_ce g ov (3 + 6 * j) (upd (M1 (3 + 6 * j)) 6 (M (3 + 6 * j) 4))) (fk_kf hj)) rfl (ty := (.int)) (by decide +kernel) rfl rfl (Nat.le_of_ble_eq_true rfl) d_C_workOut_43 (fun H locs G => ?_)
      obtain ⟨M5, hM5⟩ : ∃ z : fk_M, z = va_up M1 (3 + 6 * j) (upd (M1 (3 + 6 * j)) 6 (M (3 + 6 * j) 4)) := ⟨_, rfl⟩
      rw [← hM5] at G
      exact fk_vret S hr hlk E G (by rw [hM5]; unfold fk_wo; rw [if_pos hf, if_neg hc3, hm1]) d_C_workOut_46
end
section
/-! Nodes of an expression by their places; remember, step. Written by wip/gen/s_step2.py. -/
/-- from i on: zeroes up to the next node, trees from there to the end -/
def fk_LI (b : Nat → Nat) (n cnt : Nat) (E : Nat → Int32) (i : Nat) : Prop := ∃ (y : Nat) (L : List Nat), fk_CT b n cnt E L y ∧ i ≤ y ∧ (∀ j, i ≤ j → j < y → E j = 0) ∧ ∀ q ∈ L, q ≤ 11
theorem fk_pos {e : Nat} (h0 : 0 < e) (h : e < 2 ^ 31) : 0 < nI e := by
  have h1 := nI_lt h0 h
  rw [nI_0] at h1
  exact h1
theorem fk_irr : ¬ (0 : Int32) < 0 := by decide
theorem fk_LI_yes {b : Nat → Nat} {n cnt i : Nat} {E : Nat → Int32} (h : fk_LI b n cnt E i) (hi : i < n) (hE : 0 < E i) : ∃ q e, q ≤ 10 ∧ fk_ok b n cnt i ∧ E i = nI e ∧ i < e ∧ e ≤ n ∧ fk_Ts (fk_T b n cnt E q) (fk_ar (b i)) (i + fk_hd (b i)) e ∧ fk_LI b n cnt E (i + 1) := by
  obtain ⟨y, L, h1, h2, h3, h4⟩ := h
  have hiy : i = y := by
    by_cases h : i < y
    · rw [h3 i (Nat.le_refl _) h] at hE
      exact absurd hE fk_irr
    · omega
  subst hiy
  cases L with
  | nil =>
    have h5 : i = n := h1
    omega
  | cons r L =>
    obtain ⟨q, e, hr, hok, a1, a2, a3, a4, a5, a6, a7⟩ := fk_CT_step h1
    subst hr
    have hq : q + 1 ≤ 11 := h4 _ List.mem_cons_self
    have hp := fk_hd_pos (b i)
    refine ⟨q, e, by omega, hok, a1, a2, a3, a6, i + fk_hd (b i), _, a7, by omega, fun j j1 j2 => ?_, fun z hz => ?_⟩
    · have hj : j = i + 1 := by omega
      rw [hj]
      exact a4 (by omega)
    · rcases List.mem_append.mp hz with hz | hz
      · rw [List.eq_of_mem_replicate hz]
        omega
      · exact h4 _ (List.mem_cons_of_mem _ hz)
theorem fk_LI_no {b : Nat → Nat} {n cnt i : Nat} {E : Nat → Int32} (hn : n < 2 ^ 31) (h : fk_LI b n cnt E i) (hi : i < n) (hE : ¬ 0 < E i) : fk_LI b n cnt E (i + 1) := by
  obtain ⟨y, L, h1, h2, h3, h4⟩ := h
  refine ⟨y, L, h1, ?_, fun j j1 j2 => h3 j (by omega) j2, h4⟩
  by_cases hiy : i = y
  · subst hiy
    cases L with
    | nil =>
      have h5 : i = n := h1
      omega
    | cons r L =>
      obtain ⟨q, e, hr, hok, a1, a2, a3, -⟩ := fk_CT_step h1
      rw [a1] at hE
      exact absurd (fk_pos (by omega) (by omega)) hE
  · omega
theorem fk_LI_all {b : Nat → Nat} {n cnt : Nat} {E : Nat → Int32} (hn : n < 2 ^ 31) (h : fk_T b n cnt E 11 0 n) : ∀ i, i ≤ n → fk_LI b n cnt E i := by
  intro i
  induction i with
  | zero => intro _; exact ⟨0, [11], ⟨n, h, rfl⟩, Nat.le_refl _, fun j _ h2 => absurd h2 (Nat.not_lt_zero _), fun q hq => by rw [List.mem_singleton.mp hq]; omega⟩
  | succ i ih =>
    intro hi
    by_cases hE : 0 < E i
    · obtain ⟨q, e, -, -, -, -, -, -, h2⟩ := fk_LI_yes (ih (by omega)) (by omega) hE
      exact h2
    · exact fk_LI_no hn (ih (by omega)) (by omega) hE
/-- a node: its parts are trees -/
theorem fk_node {b : Nat → Nat} {n cnt i : Nat} {E : Nat → Int32} (hn : n < 2 ^ 31) (h : fk_T b n cnt E 11 0 n) (hi : i < n) (hE : 0 < E i) : ∃ q e, q ≤ 10 ∧ fk_ok b n cnt i ∧ E i = nI e ∧ i < e ∧ e ≤ n ∧ fk_Ts (fk_T b n cnt E q) (fk_ar (b i)) (i + fk_hd (b i)) e := by
  obtain ⟨q, e, h1, h2, h3, h4, h5, h6, -⟩ := fk_LI_yes (fk_LI_all hn h i (by omega)) hi hE
  exact ⟨q, e, h1, h2, h3, h4, h5, h6⟩
/-- more levels: the same value -/
theorem fk_ev_up {M : fk_M} {x : Nat} {b : Nat → Nat} {n cnt : Nat} (hn : n ≤ 40) : ∀ r i e, fk_T b n cnt (M (x + 2)) r i e → fk_ev M x b (r + 1) i = fk_ev M x b r i := by
  intro r
  induction r with
  | zero => intro i e h; exact h.elim
  | succ r ih =>
    intro i e h
    obtain ⟨hok, -, -, hts⟩ := h
    have hok2 := hok.2.1
    show fk_ek M x (b i) (b (i + 1)) i _ _ _ = fk_ek M x (b i) (b (i + 1)) i _ _ _
    rcases (show fk_ar (b i) = 0 ∨ fk_ar (b i) = 1 ∨ fk_ar (b i) = 2 ∨ fk_ar (b i) = 3 by have := fk_ar_le (b i); omega) with h9 | h9 | h9 | h9
    · rcases (show b i = 0 ∨ b i = 1 ∨ b i = 2 ∨ b i = 3 by unfold fk_ar at h9; split at h9 <;> (try split at h9) <;> (try split at h9) <;> omega) with hk | hk | hk | hk <;> rw [hk] <;> rfl
    · rw [h9] at hts
      obtain ⟨y1, t1, -⟩ := hts
      rw [ih _ _ t1]
      rcases (show b i = 4 ∨ b i = 5 ∨ b i = 14 ∨ b i = 16 ∨ b i = 17 by unfold fk_ar at h9; split at h9 <;> (try split at h9) <;> (try split at h9) <;> omega) with hk | hk | hk | hk | hk <;> rw [hk] <;> rfl
    · rw [h9] at hts
      obtain ⟨y1, t1, y2, t2, -⟩ := hts
      rw [fk_en_T hn t1, ih _ _ t1, ih _ _ t2]
      rcases (show b i = 6 ∨ b i = 7 ∨ b i = 8 ∨ b i = 9 ∨ b i = 10 ∨ b i = 11 ∨ b i = 12 ∨ b i = 15 ∨ b i = 18 by unfold fk_ar at h9; split at h9 <;> (try split at h9) <;> (try split at h9) <;> omega) with hk | hk | hk | hk | hk | hk | hk | hk | hk <;> rw [hk] <;> rfl
    · rw [h9] at hts
      obtain ⟨y1, t1, y2, t2, y3, t3, -⟩ := hts
      rw [fk_en_T hn t1, fk_en_T hn t2, ih _ _ t1, ih _ _ t2, ih _ _ t3]
theorem fk_T_up {b : Nat → Nat} {n cnt : Nat} {E : Nat → Int32} : ∀ r i e, fk_T b n cnt E r i e → fk_T b n cnt E (r + 1) i e := by
  intro r
  induction r with
  | zero => intro i e h; exact h.elim
  | succ r ih =>
    intro i e h
    obtain ⟨h1, h2, h3, h4⟩ := h
    exact ⟨h1, h2, h3, fk_Ts_cong (lo := 0) (hi := e) (fk_T_lt r) (fun y d _ _ h => ih y d h) _ _ _ (Nat.zero_le _) (Nat.le_refl _) h1.2.2.1 h4⟩
theorem fk_ev_to {M : fk_M} {x : Nat} {b : Nat → Nat} {n cnt r r' i e : Nat} (hn : n ≤ 40) (h : fk_T b n cnt (M (x + 2)) r i e) (hr : r ≤ r') : fk_ev M x b r' i = fk_ev M x b r i ∧ fk_T b n cnt (M (x + 2)) r' i e := by
  induction hr with
  | refl => exact ⟨rfl, h⟩
  | step _ ih => exact ⟨(fk_ev_up hn _ _ _ ih.2).trans ih.1, fk_T_up _ _ _ ih.2⟩
/-- what the befores keep -/
def fk_rb1 (x : Nat) (b : Nat → Nat) (M : fk_M) (i : Nat) : fk_M := if 0 < M (x + 2) i ∧ b i = 14 ∧ fk_hi M (M (x + 3) i).toNatClampNeg = true then va_up M (x + 4) (upd (M (x + 4)) i (fk_ev M x b 11 (i + fk_hd (b i)))) else M
def fk_rb (x : Nat) (b : Nat → Nat) (M : fk_M) : Nat → fk_M
  | 0 => M
  | i + 1 => fk_rb1 x b (fk_rb x b M i) i
theorem fk_rb_Eq {x : Nat} (hX : fk_X x) (b : Nat → Nat) (M : fk_M) : ∀ i, fk_Eq M (fk_rb x b M i) := by
  intro i
  induction i with
  | zero => exact fk_Eq.rf _
  | succ i ih =>
    show fk_Eq M (fk_rb1 x b (fk_rb x b M i) i)
    unfold fk_rb1
    by_cases h : 0 < fk_rb x b M i (x + 2) i ∧ b i = 14 ∧ fk_hi (fk_rb x b M i) (fk_rb x b M i (x + 3) i).toNatClampNeg = true
    · rw [if_pos h]
      exact ih.tr (fk_Eq_p hX _)
    · rw [if_neg h]
      exact ih
theorem d_C_remember_0 : decode b_C_remember 0 = .ok (.iconst 0, 1) := by decide +kernel
theorem d_C_remember_1 : decode b_C_remember 1 = .ok (.istore_n 2, 1) := by decide +kernel
theorem d_C_remember_2 : decode b_C_remember 2 = .ok (.iload_n 2, 1) := by decide +kernel
theorem d_C_remember_3 : decode b_C_remember 3 = .ok (.aload_n 1, 1) := by decide +kernel
theorem d_C_remember_4 : decode b_C_remember 4 = .ok (.getfield 95, 3) := by decide +kernel
theorem d_C_remember_7 : decode b_C_remember 7 = .ok (.if_icmp .ge 67, 3) := by decide +kernel
theorem d_C_remember_10 : decode b_C_remember 10 = .ok (.aload_n 1, 1) := by decide +kernel
theorem d_C_remember_11 : decode b_C_remember 11 = .ok (.iload_n 2, 1) := by decide +kernel
theorem d_C_remember_12 : decode b_C_remember 12 = .ok (.invokevirtual 98, 3) := by decide +kernel
theorem d_C_remember_15 : decode b_C_remember 15 = .ok (.ifCond .eq 18, 3) := by decide +kernel
theorem d_C_remember_18 : decode b_C_remember 18 = .ok (.aload_n 1, 1) := by decide +kernel
theorem d_C_remember_19 : decode b_C_remember 19 = .ok (.getfield 101, 3) := by decide +kernel
theorem d_C_remember_22 : decode b_C_remember 22 = .ok (.iload_n 2, 1) := by decide +kernel
theorem d_C_remember_23 : decode b_C_remember 23 = .ok (.iaload, 1) := by decide +kernel
theorem d_C_remember_24 : decode b_C_remember 24 = .ok (.bipush 14, 2) := by decide +kernel
theorem d_C_remember_26 : decode b_C_remember 26 = .ok (.if_icmp .ne 7, 3) := by decide +kernel
theorem d_C_remember_29 : decode b_C_remember 29 = .ok (.iconst 1, 1) := by decide +kernel
theorem d_C_remember_30 : decode b_C_remember 30 = .ok (.goto 4, 3) := by decide +kernel
theorem d_C_remember_33 : decode b_C_remember 33 = .ok (.iconst 0, 1) := by decide +kernel
theorem d_C_remember_34 : decode b_C_remember 34 = .ok (.istore_n 3, 1) := by decide +kernel
theorem d_C_remember_35 : decode b_C_remember 35 = .ok (.iload_n 3, 1) := by decide +kernel
theorem d_C_remember_36 : decode b_C_remember 36 = .ok (.ifCond .eq 32, 3) := by decide +kernel
theorem d_C_remember_39 : decode b_C_remember 39 = .ok (.aload_n 0, 1) := by decide +kernel
theorem d_C_remember_40 : decode b_C_remember 40 = .ok (.aload_n 1, 1) := by decide +kernel
theorem d_C_remember_41 : decode b_C_remember 41 = .ok (.getfield 104, 3) := by decide +kernel
theorem d_C_remember_44 : decode b_C_remember 44 = .ok (.iload_n 2, 1) := by decide +kernel
theorem d_C_remember_45 : decode b_C_remember 45 = .ok (.iaload, 1) := by decide +kernel
theorem d_C_remember_46 : decode b_C_remember 46 = .ok (.invokevirtual 70, 3) := by decide +kernel
theorem d_C_remember_49 : decode b_C_remember 49 = .ok (.ifCond .eq 19, 3) := by decide +kernel
theorem d_C_remember_52 : decode b_C_remember 52 = .ok (.aload_n 1, 1) := by decide +kernel
theorem d_C_remember_53 : decode b_C_remember 53 = .ok (.getfield 49, 3) := by decide +kernel
theorem d_C_remember_56 : decode b_C_remember 56 = .ok (.iload_n 2, 1) := by decide +kernel
theorem d_C_remember_57 : decode b_C_remember 57 = .ok (.aload_n 0, 1) := by decide +kernel
theorem d_C_remember_58 : decode b_C_remember 58 = .ok (.aload_n 1, 1) := by decide +kernel
theorem d_C_remember_59 : decode b_C_remember 59 = .ok (.aload_n 1, 1) := by decide +kernel
theorem d_C_remember_60 : decode b_C_remember 60 = .ok (.iload_n 2, 1) := by decide +kernel
theorem d_C_remember_61 : decode b_C_remember 61 = .ok (.invokevirtual 107, 3) := by decide +kernel
theorem d_C_remember_64 : decode b_C_remember 64 = .ok (.invokevirtual 84, 3) := by decide +kernel
theorem d_C_remember_67 : decode b_C_remember 67 = .ok (.iastore, 1) := by decide +kernel
theorem d_C_remember_68 : decode b_C_remember 68 = .ok (.iinc 2 1, 3) := by decide +kernel
theorem d_C_remember_71 : decode b_C_remember 71 = .ok (.goto (-69), 3) := by decide +kernel
theorem d_C_remember_74 : decode b_C_remember 74 = .ok (.return_, 1) := by decide +kernel
theorem m_C_remember : fk_MI y_C_remember b_C_remember 4 none 1 := ⟨i_587, i_586, fk_mp (q := (y_C_remember, 3)) (by decide +kernel), i_7, by decide +kernel⟩
set_option maxHeartbeats 4000000 in
set_option maxRecDepth 100000 in
theorem c_C_remember (l : Launch) (g : fk_G) (ov : Int64) (M : fk_M) (x : Nat) (hX : fk_X x) (bf : Nat → Nat) (n cnt : Nat) (hn40 : n ≤ 40) (h12 : cnt ≤ 12) (hn : M x 4 = nI n) (hb : ∀ j, j < n → M (x + 1) j = nI (bf j)) (hck : ∀ j, j < 40 → ∃ q, q < 25 ∧ M (x + 3) j = nI q) (hT : 0 < n → fk_T bf n cnt (M (x + 2)) 11 0 n) : fk_CV l y_C_remember b_C_remember 4 (fk_rm 26) g ov M (fk_rb x bf M n) [.ref (fk_a g 82), .ref (fk_a g x)] := by
  refine fk_ofV rfl (Nat.le_of_ble_eq_true rfl) ?_
  intro p e s m args below meth c ls S hr hlk E G hl
  have hl : lv_has ls 4 [(0, .ref (fk_a g 82)), (1, .ref (fk_a g x))] := hl
  refine lv_iconst (v := nI 0) S.1 S.2.1 d_C_remember_0 (by decide +kernel) ?_
  refine lv_istore_n (lv' := [(2, .int (nI 0)), (0, .ref (fk_a g 82)), (1, .ref (fk_a g x))]) S.1 S.2.1 d_C_remember_1 rfl hl (by decide) rfl (fun ls hl => ?_)
  have loop : ∀ (d i : Nat) (H : Heap) (locs : List Loc) (ls : Array Slot), i + d = n → fk_H g ov (fk_rb x bf M i) s H locs → lv_has ls 4 [(2, .int (nI i)), (0, .ref (fk_a g 82)), (1, .ref (fk_a g x))] → W p l e (fk_rm 26) s m args below meth c H locs 0 0 (MQ below (va_Qv (fun (_ : Unit) => True) (fun _ t => fk_Wd g ov (fk_rb x bf M n) t) (fk_A g)) args s 0 0 (fk_A g)) (F0 m 2 ls []) := by
    intro d
    induction d with
    | zero =>
      intro i H locs ls hi G hl
      obtain ⟨e0, e1, e2, e3⟩ := (fk_rb_Eq hX bf M i).2.2 x hX
      obtain ⟨M1, hM1⟩ : ∃ z : fk_M, z = fk_rb x bf M i := ⟨_, rfl⟩
      rw [← hM1] at G
      rw [← hM1] at e0 e1 e2 e3
      refine lv_iload_n S.1 S.2.1 d_C_remember_2 rfl (lv_at hl 0 rfl) ?_
      refine lv_aload_n S.1 S.2.1 d_C_remember_3 rfl (lv_at hl 2 rfl) ?_
      refine fk_gn S E G x (by have := fk_Xlt hX; omega) (v := .int (M1 x 4)) (congrArg (fk_ce g ov x (M1 x)) (fk_kx0 hX)) rfl 4 (by decide) rfl (List.mem_of_getElem? (i := 12) rfl) rfl d_C_remember_4 ?_
      rw [e0, hn]
      refine fk_cge (tgt := 74) S.1 S.2.1 (by omega) (by omega) d_C_remember_7 rfl (fun hc1 => ?_) (fun hc1 => ?_)
      · have hin : i = n := by omega
        subst hin
        exact fk_vret S hr hlk E G hM1 d_C_remember_74
      · exact absurd hi (by omega)
    | succ d ih =>
      intro i H locs ls hi G hl
      obtain ⟨e0, e1, e2, e3⟩ := (fk_rb_Eq hX bf M i).2.2 x hX
      obtain ⟨M1, hM1⟩ : ∃ z : fk_M, z = fk_rb x bf M i := ⟨_, rfl⟩
      rw [← hM1] at G
      rw [← hM1] at e0 e1 e2 e3
      refine lv_iload_n S.1 S.2.1 d_C_remember_2 rfl (lv_at hl 0 rfl) ?_
      refine lv_aload_n S.1 S.2.1 d_C_remember_3 rfl (lv_at hl 2 rfl) ?_
      refine fk_gn S E G x (by have := fk_Xlt hX; omega) (v := .int (M1 x 4)) (congrArg (fk_ce g ov x (M1 x)) (fk_kx0 hX)) rfl 4 (by decide) rfl (List.mem_of_getElem? (i := 12) rfl) rfl d_C_remember_4 ?_
      rw [e0, hn]
      refine fk_cge (tgt := 74) S.1 S.2.1 (by omega) (by omega) d_C_remember_7 rfl (fun hc2 => ?_) (fun hc2 => ?_)
      · exact absurd hi (by omega)
      · have next : ∀ (vx : Int32) (H : Heap) (locs : List Loc) (ls : Array Slot), fk_H g ov (fk_rb x bf M (i + 1)) s H locs → lv_has ls 4 [(3, .int vx), (2, .int (nI i)), (0, .ref (fk_a g 82)), (1, .ref (fk_a g x))] → W p l e (fk_rm 26) s m args below meth c H locs 0 0 (MQ below (va_Qv (fun (_ : Unit) => True) (fun _ t => fk_Wd g ov (fk_rb x bf M n) t) (fk_A g)) args s 0 0 (fk_A g)) (F0 m 68 ls []) := by
          intro vx H locs ls G hl
          refine lv_iinc (k := 1) (v := nI (i + 1)) (lv' := [(2, .int (nI (i + 1))), (3, .int vx), (0, .ref (fk_a g 82)), (1, .ref (fk_a g x))]) S.1 S.2.1 d_C_remember_68 hl rfl (nI_1 i) (by decide) rfl (fun ls hl => ?_)
          refine lv_goto (tgt := 2) S.1 S.2.1 d_C_remember_71 rfl ?_
          exact ih (i + 1) H locs ls (by omega) G (lv_sub hl [0, 2, 3] rfl)
        refine lv_aload_n S.1 S.2.1 d_C_remember_10 rfl (lv_at hl 2 rfl) ?_
        refine lv_iload_n S.1 S.2.1 d_C_remember_11 rfl (lv_at hl 0 rfl) ?_
        refine fk_cni S E G x (by have := fk_Xlt hX; omega) (congrArg (fk_ce g ov x (M1 x)) (fk_kx0 hX)) rfl (rest := []) (c_E_beginsAt l g ov M1 x hX i (by omega)) m_E_beginsAt (List.mem_of_getElem? (i := 38) rfl) ⟨rfl, rfl⟩ ⟨by decide, by decide⟩ rfl rfl hl.1 (Nat.le_of_ble_eq_true rfl) d_C_remember_12 ⟨Nat.zero_le _, Nat.zero_le _⟩ (fun H locs G => ?_)
        refine fk_zeq (tgt := 33) S.1 S.2.1 (fk_bl _) d_C_remember_15 rfl (fun hc3 => ?_) (fun hc3 => ?_)
        · have hf := of_decide_eq_false (fk_bf hc3)
          have hsame : fk_rb x bf M (i + 1) = M1 := by
            show fk_rb1 x bf (fk_rb x bf M i) i = M1
            rw [← hM1]
            exact if_neg (fun q => hf q.1)
          refine lv_iconst (v := nI 0) S.1 S.2.1 d_C_remember_33 (by decide +kernel) ?_
          refine lv_istore_n (lv' := [(3, .int (nI 0)), (2, .int (nI i)), (0, .ref (fk_a g 82)), (1, .ref (fk_a g x))]) S.1 S.2.1 d_C_remember_34 rfl hl (by decide) rfl (fun ls hl => ?_)
          refine lv_iload_n S.1 S.2.1 d_C_remember_35 rfl (lv_at hl 0 rfl) ?_
          refine fk_zeq (tgt := 68) S.1 S.2.1 (by omega) d_C_remember_36 rfl (fun hc4 => ?_) (fun hc4 => ?_)
          · exact next _ H locs ls (by rw [hsame]; exact G) hl
          · exact absurd hc4 (by omega)
        · have hf := of_decide_eq_true (fk_bt hc3)
          have hT0 := hT (by omega)
          obtain ⟨q, ee, hq, hok, hE, hlt, hle, hts⟩ := fk_node (by omega) hT0 (show i < n by omega) (by rw [← e2]; exact hf)
          have hok2 := hok.2.1
          refine lv_aload_n S.1 S.2.1 d_C_remember_18 rfl (lv_at hl 2 rfl) ?_
          refine fk_gn S E G x (by have := fk_Xlt hX; omega) (v := .ref (fk_a g (x + 1))) (congrArg (fk_ce g ov x (M1 x)) (fk_kx0 hX)) rfl 0 (by decide) rfl (List.mem_of_getElem? (i := 2) rfl) rfl d_C_remember_19 ?_
          refine lv_iload_n S.1 S.2.1 d_C_remember_22 rfl (lv_at hl 0 rfl) ?_
          refine fk_ia S E G (x + 1) (by have := fk_Xlt hX; omega) (congrArg (fk_ce g ov (x + 1) (M1 (x + 1))) (fk_kx1 hX)) i rfl (by omega) (by decide) (v := nI (bf i)) (by rw [e1]; exact hb i (by omega)) d_C_remember_23 ?_
          refine lv_bipush (v := nI 14) S.1 S.2.1 d_C_remember_24 (by decide +kernel) ?_
          refine fk_cne (tgt := 33) S.1 S.2.1 (by omega) (by omega) d_C_remember_26 rfl (fun hc5 => ?_) (fun hc5 => ?_)
          · have hsame : fk_rb x bf M (i + 1) = M1 := by
              show fk_rb1 x bf (fk_rb x bf M i) i = M1
              rw [← hM1]
              exact if_neg (fun q => hc5 q.2.1)
            refine lv_iconst (v := nI 0) S.1 S.2.1 d_C_remember_33 (by decide +kernel) ?_
            refine lv_istore_n (lv' := [(3, .int (nI 0)), (2, .int (nI i)), (0, .ref (fk_a g 82)), (1, .ref (fk_a g x))]) S.1 S.2.1 d_C_remember_34 rfl hl (by decide) rfl (fun ls hl => ?_)
            refine lv_iload_n S.1 S.2.1 d_C_remember_35 rfl (lv_at hl 0 rfl) ?_
            refine fk_zeq (tgt := 68) S.1 S.2.1 (by omega) d_C_remember_36 rfl (fun hc6 => ?_) (fun hc6 => ?_)
            · exact next _ H locs ls (by rw [hsame]; exact G) hl
            · exact absurd hc6 (by omega)
          · obtain ⟨w, hw1, hw2⟩ := hck i (by omega)
            rw [← e3] at hw2
            refine lv_iconst (v := nI 1) S.1 S.2.1 d_C_remember_29 (by decide +kernel) ?_
            refine lv_goto (tgt := 34) S.1 S.2.1 d_C_remember_30 rfl ?_
            refine lv_istore_n (lv' := [(3, .int (nI 1)), (2, .int (nI i)), (0, .ref (fk_a g 82)), (1, .ref (fk_a g x))]) S.1 S.2.1 d_C_remember_34 rfl hl (by decide) rfl (fun ls hl => ?_)
            refine lv_iload_n S.1 S.2.1 d_C_remember_35 rfl (lv_at hl 0 rfl) ?_
            refine fk_zeq (tgt := 68) S.1 S.2.1 (by omega) d_C_remember_36 rfl (fun hc7 => ?_) (fun hc7 => ?_)
            · exact absurd hc7 (by omega)
            · refine lv_aload_n S.1 S.2.1 d_C_remember_39 rfl (lv_at hl 2 rfl) ?_
              refine lv_aload_n S.1 S.2.1 d_C_remember_40 rfl (lv_at hl 3 rfl) ?_
              refine fk_gn S E G x (by have := fk_Xlt hX; omega) (v := .ref (fk_a g (x + 3))) (congrArg (fk_ce g ov x (M1 x)) (fk_kx0 hX)) rfl 2 (by decide) rfl (List.mem_of_getElem? (i := 5) rfl) rfl d_C_remember_41 ?_
              refine lv_iload_n S.1 S.2.1 d_C_remember_44 rfl (lv_at hl 1 rfl) ?_
              refine fk_ia S E G (x + 3) (by have := fk_Xlt hX; omega) (congrArg (fk_ce g ov (x + 3) (M1 (x + 3))) (fk_kx3 hX)) i rfl (by omega) (by decide) (v := nI w) hw2 d_C_remember_45 ?_
              refine fk_cvi S E G 82 (by decide) (congrArg (fk_ce g ov 82 (M1 82)) kd_82) rfl (rest := []) (c_C_hasInstant l g ov M1 w hw1) m_C_hasInstant i_553 ⟨rfl, rfl⟩ ⟨by decide, by decide⟩ rfl rfl hl.1 (Nat.le_of_ble_eq_true rfl) d_C_remember_46 ⟨Nat.zero_le _, Nat.zero_le _⟩ (fun H locs G => ?_)
              refine fk_zeq (tgt := 68) S.1 S.2.1 (fk_bl _) d_C_remember_49 rfl (fun hc8 => ?_) (fun hc8 => ?_)
              · have hhi := fk_bf hc8
                have hsame : fk_rb x bf M (i + 1) = M1 := by
                  show fk_rb1 x bf (fk_rb x bf M i) i = M1
                  rw [← hM1]
                  exact if_neg (fun q => by have := q.2.2; rw [hw2, nI_clamp (by omega), hhi] at this; cases this)
                exact next _ H locs ls (by rw [hsame]; exact G) hl
              · have hhi := fk_bt hc8
                have har : fk_ar (bf i) = 1 := by rw [hc5]; decide
                rw [har] at hts
                obtain ⟨y1, t1, -⟩ := hts
                have l1 := fk_T_lt _ _ _ t1
                obtain ⟨v1, t2⟩ := fk_ev_to (M := M) (x := x) (r' := 11) hn40 t1 (by omega)
                rw [← e2] at t1 t2
                refine lv_aload_n S.1 S.2.1 d_C_remember_52 rfl (lv_at hl 3 rfl) ?_
                refine fk_gn S E G x (by have := fk_Xlt hX; omega) (v := .ref (fk_a g (x + 4))) (congrArg (fk_ce g ov x (M1 x)) (fk_kx0 hX)) rfl 3 (by decide) rfl (List.mem_of_getElem? (i := 7) rfl) rfl d_C_remember_53 ?_
                refine lv_iload_n S.1 S.2.1 d_C_remember_56 rfl (lv_at hl 1 rfl) ?_
                refine lv_aload_n S.1 S.2.1 d_C_remember_57 rfl (lv_at hl 2 rfl) ?_
                refine lv_aload_n S.1 S.2.1 d_C_remember_58 rfl (lv_at hl 3 rfl) ?_
                refine lv_aload_n S.1 S.2.1 d_C_remember_59 rfl (lv_at hl 3 rfl) ?_
                refine lv_iload_n S.1 S.2.1 d_C_remember_60 rfl (lv_at hl 1 rfl) ?_
                refine fk_cni S E G x (by have := fk_Xlt hX; omega) (congrArg (fk_ce g ov x (M1 x)) (fk_kx0 hX)) rfl (rest := [.ref (fk_a g x), .ref (fk_a g 82), .int (nI i), .ref (fk_a g (x + 4))]) (c_E_firstPart l g ov M1 x hX i (bf i) (by omega) (by omega) (by rw [e1]; exact hb i (by omega))) m_E_firstPart (List.mem_of_getElem? (i := 34) rfl) ⟨rfl, rfl⟩ ⟨by decide, by decide⟩ rfl rfl hl.1 (Nat.le_of_ble_eq_true rfl) d_C_remember_61 ⟨Nat.zero_le _, Nat.zero_le _⟩ (fun H locs G => ?_)
                refine fk_cvi S E G 82 (by decide) (congrArg (fk_ce g ov 82 (M1 82)) kd_82) rfl (rest := [.int (nI i), .ref (fk_a g (x + 4))]) (c_C_resultOf l g ov M1 x hX bf n cnt hn40 h12 (fun j hj => by rw [e1]; exact hb j hj) (fun j hj => by rw [e3]; exact hck j hj) 11 (i + fk_hd (bf i)) y1 t2) m_C_resultOf i_558 ⟨rfl, rfl⟩ ⟨by decide, by decide⟩ rfl rfl hl.1 (Nat.le_of_ble_eq_true rfl) d_C_remember_64 ⟨Nat.zero_le _, Nat.zero_le _⟩ (fun H locs G => ?_)
                refine fk_is S E G (x + 4) (by have := fk_Xlt hX; omega) (fun r => congrArg (fk_ce g ov (x + 4) r) (fk_kx4 hX)) i rfl (by omega) (by decide) d_C_remember_67 (fun H locs G => ?_)
                obtain ⟨M9, hM9⟩ : ∃ z : fk_M, z = va_up M1 (x + 4) (upd (M1 (x + 4)) i (fk_ev M1 x bf 11 (i + fk_hd (bf i)))) := ⟨_, rfl⟩
                rw [← hM9] at G
                have hdo : fk_rb x bf M (i + 1) = M9 := by
                  show fk_rb1 x bf (fk_rb x bf M i) i = M9
                  rw [← hM1, hM9]
                  exact if_pos ⟨hf, hc5, by rw [hw2, nI_clamp (by omega)]; exact hhi⟩
                exact next _ H locs ls (by rw [hdo]; exact G) hl
  exact loop n 0 s.heap [] ls (by omega) G hl
/-- one instant: flows in their turns, what befores keep, what clocks count -/
def fk_s1 (ck P tn : Nat → Nat) (bb : Nat → Nat → Nat) (M : fk_M) : Nat → fk_M
  | 0 => M
  | k + 1 => fk_wo ck P bb (fk_s1 ck P tn bb M k) (tn k)
def fk_s2 (P sz : Nat → Nat) (bb : Nat → Nat → Nat) (M : fk_M) : Nat → fk_M
  | 0 => M
  | k + 1 => fk_rb (P k) (bb k) (fk_s2 P sz bb M k) (sz k)
def fk_s3 (M : fk_M) : Nat → fk_M
  | 0 => M
  | k + 1 => va_up (fk_s3 M k) 83 (upd (fk_s3 M k 83) k (fk_s3 M k 83 k + nI (fk_hi (fk_s3 M k) k).toNat))
def fk_st (n : Nat) (ck P sz tn : Nat → Nat) (bb : Nat → Nat → Nat) (M : fk_M) : fk_M := fk_s3 (fk_s2 P sz bb (fk_s1 ck P tn bb M n) n) (2 * n + 1)
theorem fk_wo_ne {ck P : Nat → Nat} {bb : Nat → Nat → Nat} (M : fk_M) {j k : Nat} (h : k ≠ 3 + 6 * j) : fk_wo ck P bb M j k = M k := by
  unfold fk_wo
  by_cases hh : fk_hi M (ck j) = true
  · rw [if_pos hh, va_up_ne _ _ h]
    exact va_up_ne _ _ h
  · rw [if_neg hh]
    exact va_up_ne _ _ h
/-- what working out leaves: the rows of slots that aren't presence and value -/
theorem fk_wo_row {ck P : Nat → Nat} {bb : Nat → Nat → Nat} (M : fk_M) {j i t : Nat} (h5 : t ≠ 5) (h6 : t ≠ 6) : fk_wo ck P bb M j (3 + 6 * i) t = M (3 + 6 * i) t := by
  by_cases hij : i = j
  · subst hij
    unfold fk_wo
    by_cases hh : fk_hi M (ck i) = true
    · rw [if_pos hh, va_up_self, pk_un h6]
      unfold fk_w1
      rw [va_up_self, pk_un h5]
    · rw [if_neg hh]
      unfold fk_w1
      rw [va_up_self, pk_un h5]
  · rw [fk_wo_ne _ (by omega)]
theorem fk_s1_Eq {ck P tn : Nat → Nat} {bb : Nat → Nat → Nat} {M : fk_M} {n : Nat} (hn : n ≤ 12) (ht : ∀ k, k < n → tn k < n) : ∀ k, k ≤ n → fk_Eq M (fk_s1 ck P tn bb M k) ∧ fk_s1 ck P tn bb M k 78 = M 78 := by
  intro k
  induction k with
  | zero => intro _; exact ⟨fk_Eq.rf _, rfl⟩
  | succ k ih =>
    intro hk
    obtain ⟨h1, h2⟩ := ih (by omega)
    have h3 := ht k (by omega)
    exact ⟨h1.tr (fk_wo_Eq _ (by omega)), (fk_wo_ne _ (by omega)).trans h2⟩
theorem fk_s2_Eq {P sz : Nat → Nat} {bb : Nat → Nat → Nat} {M : fk_M} (hP : ∀ j, j < 12 → fk_X (P j)) : ∀ k, k ≤ 12 → fk_Eq M (fk_s2 P sz bb M k) := by
  intro k
  induction k with
  | zero => intro _; exact fk_Eq.rf _
  | succ k ih => intro hk; exact (ih (by omega)).tr (fk_rb_Eq (hP k (by omega)) _ _ _)
theorem fk_s3_Eq {M : fk_M} : ∀ k, fk_Eq M (fk_s3 M k) := by
  intro k
  induction k with
  | zero => exact fk_Eq.rf _
  | succ k ih => exact ih.tr (fk_Eq_k (by omega) _)
theorem d_C_step_0 : decode b_C_step 0 = .ok (.iconst 0, 1) := by decide +kernel
theorem d_C_step_1 : decode b_C_step 1 = .ok (.istore_n 1, 1) := by decide +kernel
theorem d_C_step_2 : decode b_C_step 2 = .ok (.iload_n 1, 1) := by decide +kernel
theorem d_C_step_3 : decode b_C_step 3 = .ok (.aload_n 0, 1) := by decide +kernel
theorem d_C_step_4 : decode b_C_step 4 = .ok (.getfield 15, 3) := by decide +kernel
theorem d_C_step_7 : decode b_C_step 7 = .ok (.getfield 29, 3) := by decide +kernel
theorem d_C_step_10 : decode b_C_step 10 = .ok (.if_icmp .ge 30, 3) := by decide +kernel
theorem d_C_step_13 : decode b_C_step 13 = .ok (.aload_n 0, 1) := by decide +kernel
theorem d_C_step_14 : decode b_C_step 14 = .ok (.aload_n 0, 1) := by decide +kernel
theorem d_C_step_15 : decode b_C_step 15 = .ok (.getfield 15, 3) := by decide +kernel
theorem d_C_step_18 : decode b_C_step 18 = .ok (.getfield 35, 3) := by decide +kernel
theorem d_C_step_21 : decode b_C_step 21 = .ok (.aload_n 0, 1) := by decide +kernel
theorem d_C_step_22 : decode b_C_step 22 = .ok (.getfield 19, 3) := by decide +kernel
theorem d_C_step_25 : decode b_C_step 25 = .ok (.getfield 57, 3) := by decide +kernel
theorem d_C_step_28 : decode b_C_step 28 = .ok (.iload_n 1, 1) := by decide +kernel
theorem d_C_step_29 : decode b_C_step 29 = .ok (.iaload, 1) := by decide +kernel
theorem d_C_step_30 : decode b_C_step 30 = .ok (.aaload, 1) := by decide +kernel
theorem d_C_step_31 : decode b_C_step 31 = .ok (.invokevirtual 62, 3) := by decide +kernel
theorem d_C_step_34 : decode b_C_step 34 = .ok (.iinc 1 1, 3) := by decide +kernel
theorem d_C_step_37 : decode b_C_step 37 = .ok (.goto (-35), 3) := by decide +kernel
theorem d_C_step_40 : decode b_C_step 40 = .ok (.iconst 0, 1) := by decide +kernel
theorem d_C_step_41 : decode b_C_step 41 = .ok (.istore_n 1, 1) := by decide +kernel
theorem d_C_step_42 : decode b_C_step 42 = .ok (.iload_n 1, 1) := by decide +kernel
theorem d_C_step_43 : decode b_C_step 43 = .ok (.aload_n 0, 1) := by decide +kernel
theorem d_C_step_44 : decode b_C_step 44 = .ok (.getfield 15, 3) := by decide +kernel
theorem d_C_step_47 : decode b_C_step 47 = .ok (.getfield 29, 3) := by decide +kernel
theorem d_C_step_50 : decode b_C_step 50 = .ok (.if_icmp .ge 25, 3) := by decide +kernel
theorem d_C_step_53 : decode b_C_step 53 = .ok (.aload_n 0, 1) := by decide +kernel
theorem d_C_step_54 : decode b_C_step 54 = .ok (.aload_n 0, 1) := by decide +kernel
theorem d_C_step_55 : decode b_C_step 55 = .ok (.getfield 15, 3) := by decide +kernel
theorem d_C_step_58 : decode b_C_step 58 = .ok (.getfield 35, 3) := by decide +kernel
theorem d_C_step_61 : decode b_C_step 61 = .ok (.iload_n 1, 1) := by decide +kernel
theorem d_C_step_62 : decode b_C_step 62 = .ok (.aaload, 1) := by decide +kernel
theorem d_C_step_63 : decode b_C_step 63 = .ok (.getfield 45, 3) := by decide +kernel
theorem d_C_step_66 : decode b_C_step 66 = .ok (.invokevirtual 66, 3) := by decide +kernel
theorem d_C_step_69 : decode b_C_step 69 = .ok (.iinc 1 1, 3) := by decide +kernel
theorem d_C_step_72 : decode b_C_step 72 = .ok (.goto (-30), 3) := by decide +kernel
theorem d_C_step_75 : decode b_C_step 75 = .ok (.iconst 0, 1) := by decide +kernel
theorem d_C_step_76 : decode b_C_step 76 = .ok (.istore_n 1, 1) := by decide +kernel
theorem d_C_step_77 : decode b_C_step 77 = .ok (.iload_n 1, 1) := by decide +kernel
theorem d_C_step_78 : decode b_C_step 78 = .ok (.iconst 2, 1) := by decide +kernel
theorem d_C_step_79 : decode b_C_step 79 = .ok (.aload_n 0, 1) := by decide +kernel
theorem d_C_step_80 : decode b_C_step 80 = .ok (.getfield 15, 3) := by decide +kernel
theorem d_C_step_83 : decode b_C_step 83 = .ok (.getfield 29, 3) := by decide +kernel
theorem d_C_step_86 : decode b_C_step 86 = .ok (.imul, 1) := by decide +kernel
theorem d_C_step_87 : decode b_C_step 87 = .ok (.if_icmp .gt 26, 3) := by decide +kernel
theorem d_C_step_90 : decode b_C_step 90 = .ok (.aload_n 0, 1) := by decide +kernel
theorem d_C_step_91 : decode b_C_step 91 = .ok (.getfield 9, 3) := by decide +kernel
theorem d_C_step_94 : decode b_C_step 94 = .ok (.iload_n 1, 1) := by decide +kernel
theorem d_C_step_95 : decode b_C_step 95 = .ok (.dup2, 1) := by decide +kernel
theorem d_C_step_96 : decode b_C_step 96 = .ok (.iaload, 1) := by decide +kernel
theorem d_C_step_97 : decode b_C_step 97 = .ok (.aload_n 0, 1) := by decide +kernel
theorem d_C_step_98 : decode b_C_step 98 = .ok (.iload_n 1, 1) := by decide +kernel
theorem d_C_step_99 : decode b_C_step 99 = .ok (.invokevirtual 70, 3) := by decide +kernel
theorem d_C_step_102 : decode b_C_step 102 = .ok (.invokestatic 74, 3) := by decide +kernel
theorem d_C_step_105 : decode b_C_step 105 = .ok (.iadd, 1) := by decide +kernel
theorem d_C_step_106 : decode b_C_step 106 = .ok (.iastore, 1) := by decide +kernel
theorem d_C_step_107 : decode b_C_step 107 = .ok (.iinc 1 1, 3) := by decide +kernel
theorem d_C_step_110 : decode b_C_step 110 = .ok (.goto (-33), 3) := by decide +kernel
theorem d_C_step_113 : decode b_C_step 113 = .ok (.return_, 1) := by decide +kernel
theorem m_C_step : fk_MI y_C_step b_C_step 2 none 0 := ⟨i_548, i_547, fk_mp (q := (y_C_step, 3)) (by decide +kernel), i_7, by decide +kernel⟩
set_option maxHeartbeats 4000000 in
set_option maxRecDepth 100000 in
theorem c_C_step (l : Launch) (g : fk_G) (ov : Int64) (M : fk_M) (n : Nat) (ck P sz : Nat → Nat) (bb : Nat → Nat → Nat) (hs : fk_Sh n ck P sz bb M) (tn : Nat → Nat) (ht : ∀ k, k < n → M 78 k = nI (tn k) ∧ tn k < n) (h0 : ∀ j, j < n → M (3 + 6 * j) 2 = 0 → 0 < sz j) : fk_CV l y_C_step b_C_step 2 (fk_rm 27) g ov M (fk_st n ck P sz tn bb M) [.ref (fk_a g 82)] := by
  refine fk_ofV rfl (Nat.le_of_ble_eq_true rfl) ?_
  intro p e s m args below meth c ls S hr hlk E G hl
  have hl : lv_has ls 2 [(0, .ref (fk_a g 82))] := hl
  have h12 := hs.2.1
  have hP : ∀ j, j < 12 → fk_X (P j) := fun j hj => (hs.2.2 j hj).1
  have ht2 : ∀ k, k < n → tn k < n := fun k hk => (ht k hk).2
  have after2 : ∀ (H : Heap) (locs : List Loc) (ls : Array Slot), fk_H g ov (fk_s2 P sz bb (fk_s1 ck P tn bb M n) n) s H locs → lv_has ls 2 [(1, .int (nI n)), (0, .ref (fk_a g 82))] → W p l e (fk_rm 27) s m args below meth c H locs 0 0 (MQ below (va_Qv (fun (_ : Unit) => True) (fun _ t => fk_Wd g ov (fk_st n ck P sz tn bb M) t) (fk_A g)) args s 0 0 (fk_A g)) (F0 m 75 ls []) := by
    intro H locs ls G hl
    have hs0 : fk_Sh n ck P sz bb (fk_s2 P sz bb (fk_s1 ck P tn bb M n) n) := (hs.to (fk_s1_Eq h12 ht2 n (Nat.le_refl _)).1).to (fk_s2_Eq (sz := sz) (bb := bb) hP n h12)
    obtain ⟨M0, hM0⟩ : ∃ z : fk_M, z = fk_s2 P sz bb (fk_s1 ck P tn bb M n) n := ⟨_, rfl⟩
    rw [← hM0] at G hs0
    have loop3 : ∀ (d i : Nat) (H : Heap) (locs : List Loc) (ls : Array Slot), i + d = 2 * n + 1 → fk_H g ov (fk_s3 M0 i) s H locs → lv_has ls 2 [(1, .int (nI i)), (0, .ref (fk_a g 82))] → W p l e (fk_rm 27) s m args below meth c H locs 0 0 (MQ below (va_Qv (fun (_ : Unit) => True) (fun _ t => fk_Wd g ov (fk_st n ck P sz tn bb M) t) (fk_A g)) args s 0 0 (fk_A g)) (F0 m 77 ls []) := by
      intro d
      induction d with
      | zero =>
        intro i H locs ls hi G hl
        obtain ⟨M1, hM1⟩ : ∃ z : fk_M, z = fk_s3 M0 i := ⟨_, rfl⟩
        rw [← hM1] at G
        have hs1 : fk_Sh n ck P sz bb M1 := by rw [hM1]; exact hs0.to (fk_s3_Eq i)
        refine lv_iload_n S.1 S.2.1 d_C_step_77 rfl (lv_at hl 0 rfl) ?_
        refine lv_iconst (v := nI 2) S.1 S.2.1 d_C_step_78 (by decide +kernel) ?_
        refine lv_aload_n S.1 S.2.1 d_C_step_79 rfl (lv_at hl 1 rfl) ?_
        refine fk_gf S E G 82 (by decide) (v := .ref (fk_a g 1)) (congrArg (fk_ce g ov 82 (M1 82)) kd_82) rfl 0 (by decide) rfl i_188 rfl d_C_step_80 ?_
        refine fk_gn S E G 1 (by decide) (v := .int (M1 1 1)) (congrArg (fk_ce g ov 1 (M1 1)) kd_1) rfl 1 (by decide) rfl (List.mem_of_getElem? (i := 39) rfl) rfl d_C_step_83 ?_
        rw [hs1.1]
        refine fk_imul S.1 S.2.1 d_C_step_86 ?_
        refine fk_cgt (tgt := 113) S.1 S.2.1 (by omega) (by omega) d_C_step_87 rfl (fun hc1 => ?_) (fun hc1 => ?_)
        · have hin : i = 2 * n + 1 := by omega
          subst hin
          exact fk_vret S hr hlk E G (by rw [hM1, hM0]; rfl) d_C_step_113
        · exact absurd hi (by omega)
      | succ d ih =>
        intro i H locs ls hi G hl
        obtain ⟨M1, hM1⟩ : ∃ z : fk_M, z = fk_s3 M0 i := ⟨_, rfl⟩
        rw [← hM1] at G
        have hs1 : fk_Sh n ck P sz bb M1 := by rw [hM1]; exact hs0.to (fk_s3_Eq i)
        refine lv_iload_n S.1 S.2.1 d_C_step_77 rfl (lv_at hl 0 rfl) ?_
        refine lv_iconst (v := nI 2) S.1 S.2.1 d_C_step_78 (by decide +kernel) ?_
        refine lv_aload_n S.1 S.2.1 d_C_step_79 rfl (lv_at hl 1 rfl) ?_
        refine fk_gf S E G 82 (by decide) (v := .ref (fk_a g 1)) (congrArg (fk_ce g ov 82 (M1 82)) kd_82) rfl 0 (by decide) rfl i_188 rfl d_C_step_80 ?_
        refine fk_gn S E G 1 (by decide) (v := .int (M1 1 1)) (congrArg (fk_ce g ov 1 (M1 1)) kd_1) rfl 1 (by decide) rfl (List.mem_of_getElem? (i := 39) rfl) rfl d_C_step_83 ?_
        rw [hs1.1]
        refine fk_imul S.1 S.2.1 d_C_step_86 ?_
        refine fk_cgt (tgt := 113) S.1 S.2.1 (by omega) (by omega) d_C_step_87 rfl (fun hc2 => ?_) (fun hc2 => ?_)
        · exact absurd hi (by omega)
        · refine lv_aload_n S.1 S.2.1 d_C_step_90 rfl (lv_at hl 1 rfl) ?_
          refine fk_gf S E G 82 (by decide) (v := .ref (fk_a g 83)) (congrArg (fk_ce g ov 82 (M1 82)) kd_82) rfl 2 (by decide) rfl i_190 rfl d_C_step_91 ?_
          refine lv_iload_n S.1 S.2.1 d_C_step_94 rfl (lv_at hl 0 rfl) ?_
          refine lv_dup2_11 S.1 S.2.1 d_C_step_95 rfl rfl ?_
          refine fk_ia S E G 83 (by decide) (congrArg (fk_ce g ov 83 (M1 83)) kd_83) i rfl (by omega) (by decide) (v := M1 83 i) rfl d_C_step_96 ?_
          refine lv_aload_n S.1 S.2.1 d_C_step_97 rfl (lv_at hl 1 rfl) ?_
          refine lv_iload_n S.1 S.2.1 d_C_step_98 rfl (lv_at hl 0 rfl) ?_
          refine fk_cvi S E G 82 (by decide) (congrArg (fk_ce g ov 82 (M1 82)) kd_82) rfl (rest := [.int (M1 83 i), .int (nI i), .ref (fk_a g 83)]) (c_C_hasInstant l g ov M1 i (by omega)) m_C_hasInstant i_553 ⟨rfl, rfl⟩ ⟨by decide, by decide⟩ rfl rfl hl.1 (Nat.le_of_ble_eq_true rfl) d_C_step_99 ⟨Nat.zero_le _, Nat.zero_le _⟩ (fun H locs G => ?_)
          refine fk_cti S E G (rest := [.int (M1 83 i), .int (nI i), .ref (fk_a g 83)]) (c_D_truth l g ov M1 (fk_hi M1 i).toNat (by cases fk_hi M1 i <;> decide)) m_D_truth (List.mem_of_getElem? (i := 37) rfl) ⟨rfl, rfl⟩ ⟨by decide, by decide⟩ rfl rfl hl.1 (Nat.le_of_ble_eq_true rfl) d_C_step_102 ⟨Nat.zero_le _, Nat.zero_le _⟩ (fun H locs G => ?_)
          refine lv_iadd S.1 S.2.1 d_C_step_105 ?_
          refine fk_is S E G 83 (by decide) (fun r => congrArg (fk_ce g ov 83 r) kd_83) i rfl (by omega) (by decide) d_C_step_106 (fun H locs G => ?_)
          obtain ⟨M3, hM3⟩ : ∃ z : fk_M, z = va_up M1 83 (upd (M1 83) i ((M1 83 i) + (nI ((fk_hi M1 i).toNat)))) := ⟨_, rfl⟩
          rw [← hM3] at G
          refine lv_iinc (k := 0) (v := nI (i + 1)) (lv' := [(1, .int (nI (i + 1))), (0, .ref (fk_a g 82))]) S.1 S.2.1 d_C_step_107 hl rfl (nI_1 i) (by decide) rfl (fun ls hl => ?_)
          refine lv_goto (tgt := 77) S.1 S.2.1 d_C_step_110 rfl ?_
          refine ih (i + 1) H locs ls (by omega) ?_ hl
          rw [hM3, hM1] at G
          exact G
    refine lv_iconst (v := nI 0) S.1 S.2.1 d_C_step_75 (by decide +kernel) ?_
    refine lv_istore_n (lv' := [(1, .int (nI 0)), (0, .ref (fk_a g 82))]) S.1 S.2.1 d_C_step_76 rfl hl (by decide) rfl (fun ls hl => ?_)
    exact loop3 (2 * n + 1) 0 H locs ls (by omega) G hl
  have loop2 : ∀ (d i : Nat) (H : Heap) (locs : List Loc) (ls : Array Slot), i + d = n → fk_H g ov (fk_s2 P sz bb (fk_s1 ck P tn bb M n) i) s H locs → lv_has ls 2 [(1, .int (nI i)), (0, .ref (fk_a g 82))] → W p l e (fk_rm 27) s m args below meth c H locs 0 0 (MQ below (va_Qv (fun (_ : Unit) => True) (fun _ t => fk_Wd g ov (fk_st n ck P sz tn bb M) t) (fk_A g)) args s 0 0 (fk_A g)) (F0 m 42 ls []) := by
    intro d
    induction d with
    | zero =>
      intro i H locs ls hi G hl
      obtain ⟨M1, hM1⟩ : ∃ z : fk_M, z = fk_s2 P sz bb (fk_s1 ck P tn bb M n) i := ⟨_, rfl⟩
      rw [← hM1] at G
      have hs1 : fk_Sh n ck P sz bb M1 := by rw [hM1]; exact (hs.to (fk_s1_Eq h12 ht2 n (Nat.le_refl _)).1).to (fk_s2_Eq hP i (by omega))
      refine lv_iload_n S.1 S.2.1 d_C_step_42 rfl (lv_at hl 0 rfl) ?_
      refine lv_aload_n S.1 S.2.1 d_C_step_43 rfl (lv_at hl 1 rfl) ?_
      refine fk_gf S E G 82 (by decide) (v := .ref (fk_a g 1)) (congrArg (fk_ce g ov 82 (M1 82)) kd_82) rfl 0 (by decide) rfl i_188 rfl d_C_step_44 ?_
      refine fk_gn S E G 1 (by decide) (v := .int (M1 1 1)) (congrArg (fk_ce g ov 1 (M1 1)) kd_1) rfl 1 (by decide) rfl (List.mem_of_getElem? (i := 39) rfl) rfl d_C_step_47 ?_
      rw [hs1.1]
      refine fk_cge (tgt := 75) S.1 S.2.1 (by omega) (by omega) d_C_step_50 rfl (fun hc4 => ?_) (fun hc4 => ?_)
      · have hin : i = n := by omega
        subst hin
        rw [hM1] at G
        exact after2 H locs ls G hl
      · exact absurd hi (by omega)
    | succ d ih =>
      intro i H locs ls hi G hl
      obtain ⟨M1, hM1⟩ : ∃ z : fk_M, z = fk_s2 P sz bb (fk_s1 ck P tn bb M n) i := ⟨_, rfl⟩
      rw [← hM1] at G
      have hs1 : fk_Sh n ck P sz bb M1 := by rw [hM1]; exact (hs.to (fk_s1_Eq h12 ht2 n (Nat.le_refl _)).1).to (fk_s2_Eq hP i (by omega))
      refine lv_iload_n S.1 S.2.1 d_C_step_42 rfl (lv_at hl 0 rfl) ?_
      refine lv_aload_n S.1 S.2.1 d_C_step_43 rfl (lv_at hl 1 rfl) ?_
      refine fk_gf S E G 82 (by decide) (v := .ref (fk_a g 1)) (congrArg (fk_ce g ov 82 (M1 82)) kd_82) rfl 0 (by decide) rfl i_188 rfl d_C_step_44 ?_
      refine fk_gn S E G 1 (by decide) (v := .int (M1 1 1)) (congrArg (fk_ce g ov 1 (M1 1)) kd_1) rfl 1 (by decide) rfl (List.mem_of_getElem? (i := 39) rfl) rfl d_C_step_47 ?_
      rw [hs1.1]
      refine fk_cge (tgt := 75) S.1 S.2.1 (by omega) (by omega) d_C_step_50 rfl (fun hc5 => ?_) (fun hc5 => ?_)
      · exact absurd hi (by omega)
      · obtain ⟨hX, hq, -, -, hsz, h40, hb, hcl, hT, -⟩ := hs1.2.2 i (by omega)
        refine lv_aload_n S.1 S.2.1 d_C_step_53 rfl (lv_at hl 1 rfl) ?_
        refine lv_aload_n S.1 S.2.1 d_C_step_54 rfl (lv_at hl 1 rfl) ?_
        refine fk_gf S E G 82 (by decide) (v := .ref (fk_a g 1)) (congrArg (fk_ce g ov 82 (M1 82)) kd_82) rfl 0 (by decide) rfl i_188 rfl d_C_step_55 ?_
        refine fk_gn S E G 1 (by decide) (v := .ref (fk_a g 2)) (congrArg (fk_ce g ov 1 (M1 1)) kd_1) rfl 0 (by decide) rfl (List.mem_of_getElem? (i := 35) rfl) rfl d_C_step_58 ?_
        refine lv_iload_n S.1 S.2.1 d_C_step_61 rfl (lv_at hl 0 rfl) ?_
        refine fk_rw S E G i rfl (by omega) d_C_step_62 ?_
        refine fk_gn S E G (3 + 6 * i) (by omega) (v := .ref (fk_a g (P i))) (fk_flow (show i < 12 by omega) hq (fk_Xb hX)) rfl 0 (by decide) rfl (List.mem_of_getElem? (i := 13) rfl) rfl d_C_step_63 ?_
        refine fk_cvv S E G 82 (by decide) (congrArg (fk_ce g ov 82 (M1 82)) kd_82) rfl (rest := []) (c_C_remember l g ov M1 (P i) hX (bb i) (sz i) n h40 h12 hsz (fun j hj => (hb j hj).1) hcl hT) m_C_remember i_584 ⟨rfl, rfl⟩ ⟨by decide, by decide⟩ rfl rfl hl.1 (Nat.le_of_ble_eq_true rfl) d_C_step_66 ⟨Nat.zero_le _, Nat.zero_le _⟩ (fun H locs G => ?_)
        refine lv_iinc (k := 0) (v := nI (i + 1)) (lv' := [(1, .int (nI (i + 1))), (0, .ref (fk_a g 82))]) S.1 S.2.1 d_C_step_69 hl rfl (nI_1 i) (by decide) rfl (fun ls hl => ?_)
        refine lv_goto (tgt := 42) S.1 S.2.1 d_C_step_72 rfl ?_
        refine ih (i + 1) H locs ls (by omega) ?_ hl
        rw [hM1] at G
        exact G
  have loop1 : ∀ (d i : Nat) (H : Heap) (locs : List Loc) (ls : Array Slot), i + d = n → fk_H g ov (fk_s1 ck P tn bb M i) s H locs → lv_has ls 2 [(1, .int (nI i)), (0, .ref (fk_a g 82))] → W p l e (fk_rm 27) s m args below meth c H locs 0 0 (MQ below (va_Qv (fun (_ : Unit) => True) (fun _ t => fk_Wd g ov (fk_st n ck P sz tn bb M) t) (fk_A g)) args s 0 0 (fk_A g)) (F0 m 2 ls []) := by
    intro d
    induction d with
    | zero =>
      intro i H locs ls hi G hl
      obtain ⟨M1, hM1⟩ : ∃ z : fk_M, z = fk_s1 ck P tn bb M i := ⟨_, rfl⟩
      rw [← hM1] at G
      obtain ⟨hq1, hq2⟩ := fk_s1_Eq (ck := ck) (P := P) (bb := bb) (M := M) h12 ht2 i (by omega)
      rw [← hM1] at hq1 hq2
      have hs1 := hs.to hq1
      refine lv_iload_n S.1 S.2.1 d_C_step_2 rfl (lv_at hl 0 rfl) ?_
      refine lv_aload_n S.1 S.2.1 d_C_step_3 rfl (lv_at hl 1 rfl) ?_
      refine fk_gf S E G 82 (by decide) (v := .ref (fk_a g 1)) (congrArg (fk_ce g ov 82 (M1 82)) kd_82) rfl 0 (by decide) rfl i_188 rfl d_C_step_4 ?_
      refine fk_gn S E G 1 (by decide) (v := .int (M1 1 1)) (congrArg (fk_ce g ov 1 (M1 1)) kd_1) rfl 1 (by decide) rfl (List.mem_of_getElem? (i := 39) rfl) rfl d_C_step_7 ?_
      rw [hs1.1]
      refine fk_cge (tgt := 40) S.1 S.2.1 (by omega) (by omega) d_C_step_10 rfl (fun hc6 => ?_) (fun hc6 => ?_)
      · have hin : i = n := by omega
        subst hin
        rw [hM1] at G
        refine lv_iconst (v := nI 0) S.1 S.2.1 d_C_step_40 (by decide +kernel) ?_
        refine lv_istore_n (lv' := [(1, .int (nI 0)), (0, .ref (fk_a g 82))]) S.1 S.2.1 d_C_step_41 rfl hl (by decide) rfl (fun ls hl => ?_)
        exact loop2 i 0 H locs ls (by omega) G hl
      · exact absurd hi (by omega)
    | succ d ih =>
      intro i H locs ls hi G hl
      obtain ⟨M1, hM1⟩ : ∃ z : fk_M, z = fk_s1 ck P tn bb M i := ⟨_, rfl⟩
      rw [← hM1] at G
      obtain ⟨hq1, hq2⟩ := fk_s1_Eq (ck := ck) (P := P) (bb := bb) (M := M) h12 ht2 i (by omega)
      rw [← hM1] at hq1 hq2
      have hs1 := hs.to hq1
      refine lv_iload_n S.1 S.2.1 d_C_step_2 rfl (lv_at hl 0 rfl) ?_
      refine lv_aload_n S.1 S.2.1 d_C_step_3 rfl (lv_at hl 1 rfl) ?_
      refine fk_gf S E G 82 (by decide) (v := .ref (fk_a g 1)) (congrArg (fk_ce g ov 82 (M1 82)) kd_82) rfl 0 (by decide) rfl i_188 rfl d_C_step_4 ?_
      refine fk_gn S E G 1 (by decide) (v := .int (M1 1 1)) (congrArg (fk_ce g ov 1 (M1 1)) kd_1) rfl 1 (by decide) rfl (List.mem_of_getElem? (i := 39) rfl) rfl d_C_step_7 ?_
      rw [hs1.1]
      refine fk_cge (tgt := 40) S.1 S.2.1 (by omega) (by omega) d_C_step_10 rfl (fun hc7 => ?_) (fun hc7 => ?_)
      · exact absurd hi (by omega)
      · obtain ⟨ht1, ht3⟩ := ht i (by omega)
        have h2in : M1 (3 + 6 * tn i) 2 = M (3 + 6 * tn i) 2 := hq1.2.1 (tn i) (by omega) 2 (by decide)
        refine lv_aload_n S.1 S.2.1 d_C_step_13 rfl (lv_at hl 1 rfl) ?_
        refine lv_aload_n S.1 S.2.1 d_C_step_14 rfl (lv_at hl 1 rfl) ?_
        refine fk_gf S E G 82 (by decide) (v := .ref (fk_a g 1)) (congrArg (fk_ce g ov 82 (M1 82)) kd_82) rfl 0 (by decide) rfl i_188 rfl d_C_step_15 ?_
        refine fk_gn S E G 1 (by decide) (v := .ref (fk_a g 2)) (congrArg (fk_ce g ov 1 (M1 1)) kd_1) rfl 0 (by decide) rfl (List.mem_of_getElem? (i := 35) rfl) rfl d_C_step_18 ?_
        refine lv_aload_n S.1 S.2.1 d_C_step_21 rfl (lv_at hl 1 rfl) ?_
        refine fk_gf S E G 82 (by decide) (v := .ref (fk_a g 75)) (congrArg (fk_ce g ov 82 (M1 82)) kd_82) rfl 1 (by decide) rfl i_189 rfl d_C_step_22 ?_
        refine fk_gn S E G 75 (by decide) (v := .ref (fk_a g 78)) (congrArg (fk_ce g ov 75 (M1 75)) kd_75) rfl 4 (by decide) rfl (List.mem_of_getElem? (i := 44) rfl) rfl d_C_step_25 ?_
        refine lv_iload_n S.1 S.2.1 d_C_step_28 rfl (lv_at hl 0 rfl) ?_
        refine fk_ia S E G 78 (by decide) (congrArg (fk_ce g ov 78 (M1 78)) kd_78) i rfl (by omega) (by decide) (v := nI (tn i)) (by rw [hq2]; exact ht1) d_C_step_29 ?_
        refine fk_rw S E G (tn i) rfl (by omega) d_C_step_30 ?_
        refine fk_cvv S E G 82 (by decide) (congrArg (fk_ce g ov 82 (M1 82)) kd_82) rfl (rest := []) (c_C_workOut l g ov M1 n ck P sz bb hs1 (tn i) (by omega) (fun h => h0 (tn i) ht3 (by rw [← h2in]; exact h))) m_C_workOut i_549 ⟨rfl, rfl⟩ ⟨by decide, by decide⟩ rfl rfl hl.1 (Nat.le_of_ble_eq_true rfl) d_C_step_31 ⟨Nat.zero_le _, Nat.zero_le _⟩ (fun H locs G => ?_)
        refine lv_iinc (k := 0) (v := nI (i + 1)) (lv' := [(1, .int (nI (i + 1))), (0, .ref (fk_a g 82))]) S.1 S.2.1 d_C_step_34 hl rfl (nI_1 i) (by decide) rfl (fun ls hl => ?_)
        refine lv_goto (tgt := 2) S.1 S.2.1 d_C_step_37 rfl ?_
        refine ih (i + 1) H locs ls (by omega) ?_ hl
        rw [hM1] at G
        exact G
  refine lv_iconst (v := nI 0) S.1 S.2.1 d_C_step_0 (by decide +kernel) ?_
  refine lv_istore_n (lv' := [(1, .int (nI 0)), (0, .ref (fk_a g 82))]) S.1 S.2.1 d_C_step_1 rfl hl (by decide) rfl (fun ls hl => ?_)
  exact loop1 n 0 s.heap [] ls (by omega) G hl
end
section
/-! Waiting: who waits for whom, and the order. Written by wip/gen/s_wait.py. -/
def fk_wf (v : Int32) (j : Nat) : Bool := decide ((v >>> (nI j &&& 31)) &&& nI 1 = nI 1)
/-- the bits of the flows that an expression names outside its befores -/
def fk_dw (b : Nat → Nat) (E : Nat → Int32) : Nat → Nat → Nat → Int32 → Int32
  | 0, _, _, mq => mq
  | d + 1, i, hid, mq => if i < hid ∨ ¬ 0 < E i then fk_dw b E d (i + 1) hid mq else if b i = 14 then fk_dw b E d (i + 1) (E i).toNatClampNeg mq else if b i = 3 ∨ 15 < b i then fk_dw b E d (i + 1) hid (mq ||| (nI 1 <<< (nI (b (i + 1)) &&& 31))) else fk_dw b E d (i + 1) hid mq
def fk_cm (ck : Nat) : Int32 := if ck = 0 then nI 0 else nI 1 <<< (nI ((ck - 1) / 2) &&& 31)
/-- what a flow waits for at once -/
def fk_nd (ck P sz : Nat → Nat) (bb : Nat → Nat → Nat) (M : fk_M) (j : Nat) : Int32 := fk_dw (bb j) (M (P j + 2)) (sz j) 0 0 (fk_cm (ck j))
def fk_t1 (ck P sz : Nat → Nat) (bb : Nat → Nat → Nat) (M : fk_M) : Nat → fk_M
  | 0 => M
  | i + 1 => va_up (fk_t1 ck P sz bb M i) 76 (upd (fk_t1 ck P sz bb M i 76) i (fk_nd ck P sz bb M i))
def fk_t3 (M : fk_M) (k : Nat) : Nat → fk_M
  | 0 => M
  | i + 1 => if fk_wf (fk_t3 M k i 76 i) k = true then va_up (fk_t3 M k i) 76 (upd (fk_t3 M k i 76) i (fk_t3 M k i 76 i ||| fk_t3 M k i 76 k)) else fk_t3 M k i
def fk_t2 (n : Nat) (M : fk_M) : Nat → fk_M
  | 0 => M
  | k + 1 => fk_t3 (fk_t2 n M k) k n
def fk_tr (n : Nat) (ck P sz : Nat → Nat) (bb : Nat → Nat → Nat) (M : fk_M) : fk_M := fk_t2 n (fk_t1 ck P sz bb M n) n
/-- only the masks change -/
def fk_O (k : Nat) (M M' : fk_M) : Prop := ∀ j, j ≠ k → M' j = M j
theorem fk_O.Eq {k : Nat} {M M' : fk_M} (hk : k = 0 ∨ k = 2 ∨ (75 ≤ k ∧ k < 84) ∨ 89 ≤ k) (h : fk_O k M M') : fk_Eq M M' := by
  refine ⟨h 1 (by omega), fun j hj t _ => by rw [h _ (by omega)], fun x hX => ?_⟩
  rcases hX with rfl | ⟨i, hi, rfl⟩
  · exact ⟨h _ (by omega), h _ (by omega), h _ (by omega), h _ (by omega)⟩
  · exact ⟨h _ (by omega), h _ (by omega), h _ (by omega), h _ (by omega)⟩
theorem fk_O.up {k : Nat} {M M' : fk_M} (h : fk_O k M M') (w : Nat → Int32) : fk_O k M (va_up M' k w) := fun j hj => (va_up_ne _ _ hj).trans (h j hj)
theorem fk_t1_O (ck P sz : Nat → Nat) (bb : Nat → Nat → Nat) (M : fk_M) : ∀ i, fk_O 76 M (fk_t1 ck P sz bb M i) := by
  intro i
  induction i with
  | zero => exact fun _ _ => rfl
  | succ i ih => exact ih.up _
theorem fk_t3_O {M M' : fk_M} (k : Nat) (h : fk_O 76 M M') : ∀ i, fk_O 76 M (fk_t3 M' k i) := by
  intro i
  induction i with
  | zero => exact h
  | succ i ih =>
    show fk_O 76 M (if fk_wf (fk_t3 M' k i 76 i) k = true then _ else _)
    by_cases hw : fk_wf (fk_t3 M' k i 76 i) k = true
    · rw [if_pos hw]
      exact ih.up _
    · rw [if_neg hw]
      exact ih
theorem fk_t2_O {M M' : fk_M} (n : Nat) (h : fk_O 76 M M') : ∀ k, fk_O 76 M (fk_t2 n M' k) := by
  intro k
  induction k with
  | zero => exact h
  | succ k ih => exact fk_t3_O k ih n
/-- ready: not placed, of the kind wanted, waiting for nothing that isn't placed -/
def fk_rd (M : fk_M) (t : Nat) (pl : Int32) (i : Nat) : Bool := decide ((pl >>> (nI i &&& 31)) &&& nI 1 = 0 ∧ M (3 + 6 * i) 2 = nI t ∧ M 76 i &&& (pl ^^^ (-1)) = 0)
def fk_lr (M : fk_M) (t : Nat) (pl : Int32) : Nat → Nat → Option Nat
  | 0, _ => none
  | d + 1, i => if fk_rd M t pl i = true then some i else fk_lr M t pl d (i + 1)
theorem fk_lr_lt {M : fk_M} {t : Nat} {pl : Int32} : ∀ d i j, fk_lr M t pl d i = some j → j < i + d := by
  intro d
  induction d with
  | zero => intro i j h; cases h
  | succ d ih =>
    intro i j h
    show j < i + (d + 1)
    change (if fk_rd M t pl i = true then some i else fk_lr M t pl d (i + 1)) = some j at h
    by_cases hr : fk_rd M t pl i = true
    · rw [if_pos hr] at h
      cases h
      omega
    · rw [if_neg hr] at h
      have := ih (i + 1) j h
      omega
def fk_pk (M : fk_M) (n : Nat) (pl : Int32) : Option Nat := match fk_lr M 1 pl n 0 with
  | some j => some j
  | none => fk_lr M 0 pl n 0
def fk_ag (n : Nat) : Nat → Nat → Nat → Int32 → fk_M → fk_M
  | 0, _, _, _, M => M
  | d + 1, k, o, pl, M => match fk_pk M n pl with
    | none => M
    | some j => if M (3 + 6 * j) 2 = 0 then fk_ag n d (k + 1) (o + 1) (pl ||| (nI 1 <<< (nI j &&& 31))) (va_up (va_up (va_up M 78 (upd (M 78) k (nI j))) 77 (upd (M 77) o (nI j))) 75 (upd (M 75) 3 (nI (o + 1))))
      else fk_ag n d (k + 1) o (pl ||| (nI 1 <<< (nI j &&& 31))) (va_up M 78 (upd (M 78) k (nI j)))
theorem d_W_waitsFor_0 : decode b_W_waitsFor 0 = .ok (.aload_n 0, 1) := by decide +kernel
theorem d_W_waitsFor_1 : decode b_W_waitsFor 1 = .ok (.getfield 9, 3) := by decide +kernel
theorem d_W_waitsFor_4 : decode b_W_waitsFor 4 = .ok (.iload_n 1, 1) := by decide +kernel
theorem d_W_waitsFor_5 : decode b_W_waitsFor 5 = .ok (.iaload, 1) := by decide +kernel
theorem d_W_waitsFor_6 : decode b_W_waitsFor 6 = .ok (.iload_n 2, 1) := by decide +kernel
theorem d_W_waitsFor_7 : decode b_W_waitsFor 7 = .ok (.ishr, 1) := by decide +kernel
theorem d_W_waitsFor_8 : decode b_W_waitsFor 8 = .ok (.iconst 1, 1) := by decide +kernel
theorem d_W_waitsFor_9 : decode b_W_waitsFor 9 = .ok (.iand, 1) := by decide +kernel
theorem d_W_waitsFor_10 : decode b_W_waitsFor 10 = .ok (.iconst 1, 1) := by decide +kernel
theorem d_W_waitsFor_11 : decode b_W_waitsFor 11 = .ok (.if_icmp .ne 7, 3) := by decide +kernel
theorem d_W_waitsFor_14 : decode b_W_waitsFor 14 = .ok (.iconst 1, 1) := by decide +kernel
theorem d_W_waitsFor_15 : decode b_W_waitsFor 15 = .ok (.goto 4, 3) := by decide +kernel
theorem d_W_waitsFor_18 : decode b_W_waitsFor 18 = .ok (.iconst 0, 1) := by decide +kernel
theorem d_W_waitsFor_19 : decode b_W_waitsFor 19 = .ok (.ireturn, 1) := by decide +kernel
theorem m_W_waitsFor : fk_MI y_W_waitsFor b_W_waitsFor 3 (some .boolean) 2 := ⟨i_264, i_263, fk_mp (q := (y_W_waitsFor, 5)) (by decide +kernel), i_5, by decide +kernel⟩
set_option maxHeartbeats 4000000 in
set_option maxRecDepth 100000 in
theorem c_W_waitsFor (l : Launch) (g : fk_G) (ov : Int64) (M : fk_M) (j k : Nat) (hj : j < 12) : fk_CI l y_W_waitsFor b_W_waitsFor 3 (some .boolean) (fk_rm 0) g ov M M [.ref (fk_a g 75), .int (nI j), .int (nI k)] (nI (fk_wf (M 76 j) k).toNat) := by
  refine fk_ofI rfl (Nat.le_of_ble_eq_true rfl) ?_
  intro p e s m args below meth c ls S hr hlk E G hl
  have hl : lv_has ls 3 [(0, .ref (fk_a g 75)), (1, .int (nI j)), (2, .int (nI k))] := hl
  refine lv_aload_n S.1 S.2.1 d_W_waitsFor_0 rfl (lv_at hl 0 rfl) ?_
  refine fk_gf S E G 75 (by decide) (v := .ref (fk_a g 76)) (congrArg (fk_ce g ov 75 (M 75)) kd_75) rfl 1 (by decide) rfl i_132 rfl d_W_waitsFor_1 ?_
  refine lv_iload_n S.1 S.2.1 d_W_waitsFor_4 rfl (lv_at hl 1 rfl) ?_
  refine fk_ia S E G 76 (by decide) (congrArg (fk_ce g ov 76 (M 76)) kd_76) j rfl (by omega) (by decide) (v := M 76 j) rfl d_W_waitsFor_5 ?_
  refine lv_iload_n S.1 S.2.1 d_W_waitsFor_6 rfl (lv_at hl 2 rfl) ?_
  refine lv_ishr S.1 S.2.1 d_W_waitsFor_7 ?_
  refine lv_iconst (v := nI 1) S.1 S.2.1 d_W_waitsFor_8 (by decide +kernel) ?_
  refine lv_iand S.1 S.2.1 d_W_waitsFor_9 ?_
  refine lv_iconst (v := nI 1) S.1 S.2.1 d_W_waitsFor_10 (by decide +kernel) ?_
  refine lv_icmp_ne (tgt := 18) S.1 S.2.1 d_W_waitsFor_11 rfl (fun hc1 => ?_) (fun hc1 => ?_)
  · refine lv_iconst (v := nI 0) S.1 S.2.1 d_W_waitsFor_18 (by decide +kernel) ?_
    exact fk_zret S hr hlk E G rfl (fk_b0 (decide_eq_false hc1)) (fk_bz _) d_W_waitsFor_19
  · refine lv_iconst (v := nI 1) S.1 S.2.1 d_W_waitsFor_14 (by decide +kernel) ?_
    refine lv_goto (tgt := 19) S.1 S.2.1 d_W_waitsFor_15 rfl ?_
    exact fk_zret S hr hlk E G rfl (fk_b1 (decide_eq_true hc1)) (fk_bz _) d_W_waitsFor_19
theorem d_W_lowestReady_0 : decode b_W_lowestReady 0 = .ok (.iconst 0, 1) := by decide +kernel
theorem d_W_lowestReady_1 : decode b_W_lowestReady 1 = .ok (.istore_n 3, 1) := by decide +kernel
theorem d_W_lowestReady_2 : decode b_W_lowestReady 2 = .ok (.iload_n 3, 1) := by decide +kernel
theorem d_W_lowestReady_3 : decode b_W_lowestReady 3 = .ok (.aload_n 0, 1) := by decide +kernel
theorem d_W_lowestReady_4 : decode b_W_lowestReady 4 = .ok (.getfield 21, 3) := by decide +kernel
theorem d_W_lowestReady_7 : decode b_W_lowestReady 7 = .ok (.getfield 25, 3) := by decide +kernel
theorem d_W_lowestReady_10 : decode b_W_lowestReady 10 = .ok (.if_icmp .ge 60, 3) := by decide +kernel
theorem d_W_lowestReady_13 : decode b_W_lowestReady 13 = .ok (.iload_n 2, 1) := by decide +kernel
theorem d_W_lowestReady_14 : decode b_W_lowestReady 14 = .ok (.iload_n 3, 1) := by decide +kernel
theorem d_W_lowestReady_15 : decode b_W_lowestReady 15 = .ok (.ishr, 1) := by decide +kernel
theorem d_W_lowestReady_16 : decode b_W_lowestReady 16 = .ok (.iconst 1, 1) := by decide +kernel
theorem d_W_lowestReady_17 : decode b_W_lowestReady 17 = .ok (.iand, 1) := by decide +kernel
theorem d_W_lowestReady_18 : decode b_W_lowestReady 18 = .ok (.ifCond .ne 23, 3) := by decide +kernel
theorem d_W_lowestReady_21 : decode b_W_lowestReady 21 = .ok (.aload_n 0, 1) := by decide +kernel
theorem d_W_lowestReady_22 : decode b_W_lowestReady 22 = .ok (.getfield 21, 3) := by decide +kernel
theorem d_W_lowestReady_25 : decode b_W_lowestReady 25 = .ok (.getfield 31, 3) := by decide +kernel
theorem d_W_lowestReady_28 : decode b_W_lowestReady 28 = .ok (.iload_n 3, 1) := by decide +kernel
theorem d_W_lowestReady_29 : decode b_W_lowestReady 29 = .ok (.aaload, 1) := by decide +kernel
theorem d_W_lowestReady_30 : decode b_W_lowestReady 30 = .ok (.getfield 84, 3) := by decide +kernel
theorem d_W_lowestReady_33 : decode b_W_lowestReady 33 = .ok (.iload_n 1, 1) := by decide +kernel
theorem d_W_lowestReady_34 : decode b_W_lowestReady 34 = .ok (.if_icmp .ne 7, 3) := by decide +kernel
theorem d_W_lowestReady_37 : decode b_W_lowestReady 37 = .ok (.iconst 1, 1) := by decide +kernel
theorem d_W_lowestReady_38 : decode b_W_lowestReady 38 = .ok (.goto 4, 3) := by decide +kernel
theorem d_W_lowestReady_41 : decode b_W_lowestReady 41 = .ok (.iconst 0, 1) := by decide +kernel
theorem d_W_lowestReady_42 : decode b_W_lowestReady 42 = .ok (.istore 4, 2) := by decide +kernel
theorem d_W_lowestReady_44 : decode b_W_lowestReady 44 = .ok (.iload 4, 2) := by decide +kernel
theorem d_W_lowestReady_46 : decode b_W_lowestReady 46 = .ok (.ifCond .eq 18, 3) := by decide +kernel
theorem d_W_lowestReady_49 : decode b_W_lowestReady 49 = .ok (.aload_n 0, 1) := by decide +kernel
theorem d_W_lowestReady_50 : decode b_W_lowestReady 50 = .ok (.getfield 9, 3) := by decide +kernel
theorem d_W_lowestReady_53 : decode b_W_lowestReady 53 = .ok (.iload_n 3, 1) := by decide +kernel
theorem d_W_lowestReady_54 : decode b_W_lowestReady 54 = .ok (.iaload, 1) := by decide +kernel
theorem d_W_lowestReady_55 : decode b_W_lowestReady 55 = .ok (.iload_n 2, 1) := by decide +kernel
theorem d_W_lowestReady_56 : decode b_W_lowestReady 56 = .ok (.iconst (-1), 1) := by decide +kernel
theorem d_W_lowestReady_57 : decode b_W_lowestReady 57 = .ok (.ixor, 1) := by decide +kernel
theorem d_W_lowestReady_58 : decode b_W_lowestReady 58 = .ok (.iand, 1) := by decide +kernel
theorem d_W_lowestReady_59 : decode b_W_lowestReady 59 = .ok (.ifCond .ne 5, 3) := by decide +kernel
theorem d_W_lowestReady_62 : decode b_W_lowestReady 62 = .ok (.iload_n 3, 1) := by decide +kernel
theorem d_W_lowestReady_63 : decode b_W_lowestReady 63 = .ok (.ireturn, 1) := by decide +kernel
theorem d_W_lowestReady_64 : decode b_W_lowestReady 64 = .ok (.iinc 3 1, 3) := by decide +kernel
theorem d_W_lowestReady_67 : decode b_W_lowestReady 67 = .ok (.goto (-65), 3) := by decide +kernel
theorem d_W_lowestReady_70 : decode b_W_lowestReady 70 = .ok (.iconst (-1), 1) := by decide +kernel
theorem d_W_lowestReady_71 : decode b_W_lowestReady 71 = .ok (.ireturn, 1) := by decide +kernel
theorem m_W_lowestReady : fk_MI y_W_lowestReady b_W_lowestReady 5 (some .int) 2 := ⟨i_343, i_342, fk_mp (q := (y_W_lowestReady, 5)) (by decide +kernel), i_5, by decide +kernel⟩
set_option maxHeartbeats 4000000 in
set_option maxRecDepth 100000 in
theorem c_W_lowestReady (l : Launch) (g : fk_G) (ov : Int64) (M : fk_M) (n : Nat) (hn : M 1 1 = nI n) (h12 : n ≤ 12) (t : Nat) (pl : Int32) : fk_CI l y_W_lowestReady b_W_lowestReady 5 (some .int) (fk_rm 0) g ov M M [.ref (fk_a g 75), .int (nI t), .int pl] (fk_rv (fk_lr M t pl n 0)) := by
  refine fk_ofI rfl (Nat.le_of_ble_eq_true rfl) ?_
  intro p e s m args below meth c ls S hr hlk E G hl
  have hl : lv_has ls 5 [(0, .ref (fk_a g 75)), (1, .int (nI t)), (2, .int pl)] := hl
  refine lv_iconst (v := nI 0) S.1 S.2.1 d_W_lowestReady_0 (by decide +kernel) ?_
  refine lv_istore_n (lv' := [(3, .int (nI 0)), (0, .ref (fk_a g 75)), (1, .int (nI t)), (2, .int pl)]) S.1 S.2.1 d_W_lowestReady_1 rfl hl (by decide) rfl (fun ls hl => ?_)
  have loop : ∀ (d : Nat) (i : Nat) (H : Heap) (locs : List Loc) (ls : Array Slot), i + d = n → fk_lr M t pl d i = fk_lr M t pl n 0 → fk_H g ov (M) s H locs → lv_has ls 5 [(3, .int (nI i)), (0, .ref (fk_a g 75)), (1, .int (nI t)), (2, .int pl)] → W p l e (fk_rm (0)) s m args below meth c H locs 0 0 (MQ below (va_Qi (fun rr (_ : Unit) => rr = fk_rv (fk_lr M t pl n 0)) (fun _ t => fk_Wd g ov (M) t) (fk_A g)) args s 0 0 (fk_A g)) (F0 m 2 ls []) := by
    intro d
    induction d with
    | zero =>
      intro i H locs ls hv0 hv1 G hl
      refine lv_iload_n S.1 S.2.1 d_W_lowestReady_2 rfl (lv_at hl 0 rfl) ?_
      refine lv_aload_n S.1 S.2.1 d_W_lowestReady_3 rfl (lv_at hl 1 rfl) ?_
      refine fk_gf S E G 75 (by decide) (v := .ref (fk_a g 1)) (congrArg (fk_ce g ov 75 (M 75)) kd_75) rfl 0 (by decide) rfl i_131 rfl d_W_lowestReady_4 ?_
      refine fk_gn S E G 1 (by decide) (v := .int (M 1 1)) (congrArg (fk_ce g ov 1 (M 1)) kd_1) rfl 1 (by decide) rfl (List.mem_of_getElem? (i := 38) rfl) rfl d_W_lowestReady_7 ?_
      rw [hn]
      refine fk_cge (tgt := 70) S.1 S.2.1 (by omega) (by omega) d_W_lowestReady_10 rfl (fun hc1 => ?_) (fun hc1 => ?_)
      · refine lv_iconst (v := -1) S.1 S.2.1 d_W_lowestReady_70 (by decide +kernel) ?_
        exact fk_iret S hr hlk E G rfl (by rw [← hv1]; rfl) d_W_lowestReady_71
      · exact absurd hv0 (by omega)
    | succ d ih =>
      intro i H locs ls hv0 hv1 G hl
      refine lv_iload_n S.1 S.2.1 d_W_lowestReady_2 rfl (lv_at hl 0 rfl) ?_
      refine lv_aload_n S.1 S.2.1 d_W_lowestReady_3 rfl (lv_at hl 1 rfl) ?_
      refine fk_gf S E G 75 (by decide) (v := .ref (fk_a g 1)) (congrArg (fk_ce g ov 75 (M 75)) kd_75) rfl 0 (by decide) rfl i_131 rfl d_W_lowestReady_4 ?_
      refine fk_gn S E G 1 (by decide) (v := .int (M 1 1)) (congrArg (fk_ce g ov 1 (M 1)) kd_1) rfl 1 (by decide) rfl (List.mem_of_getElem? (i := 38) rfl) rfl d_W_lowestReady_7 ?_
      rw [hn]
      refine fk_cge (tgt := 70) S.1 S.2.1 (by omega) (by omega) d_W_lowestReady_10 rfl (fun hc2 => ?_) (fun hc2 => ?_)
      · exact absurd hv0 (by omega)
      · have next : ∀ (vx : Int32) (H : Heap) (locs : List Loc) (ls : Array Slot), fk_rd M t pl i = false → fk_H g ov (M) s H locs → lv_has ls 5 [(4, .int vx), (3, .int (nI i)), (0, .ref (fk_a g 75)), (1, .int (nI t)), (2, .int pl)] → W p l e (fk_rm (0)) s m args below meth c H locs 0 0 (MQ below (va_Qi (fun rr (_ : Unit) => rr = fk_rv (fk_lr M t pl n 0)) (fun _ t => fk_Wd g ov (M) t) (fk_A g)) args s 0 0 (fk_A g)) (F0 m 64 ls []) := by
          intro vx H locs ls hv0 G hl
          skip
          refine lv_iinc (k := 1) (v := nI (i + 1)) (lv' := [(3, .int (nI (i + 1))), (4, .int vx), (0, .ref (fk_a g 75)), (1, .int (nI t)), (2, .int pl)]) S.1 S.2.1 d_W_lowestReady_64 hl rfl (nI_1 i) (by decide) rfl (fun ls hl => ?_)
          refine lv_goto (tgt := 2) S.1 S.2.1 d_W_lowestReady_67 rfl ?_
          refine ih (i + 1) H locs ls (by omega) ?_ G (lv_sub hl [0, 2, 3, 4] rfl)
          rw [← hv1]
          exact (if_neg (by rw [hv0]; decide)).symm
        refine lv_iload_n S.1 S.2.1 d_W_lowestReady_13 rfl (lv_at hl 3 rfl) ?_
        refine lv_iload_n S.1 S.2.1 d_W_lowestReady_14 rfl (lv_at hl 0 rfl) ?_
        refine lv_ishr S.1 S.2.1 d_W_lowestReady_15 ?_
        refine lv_iconst (v := nI 1) S.1 S.2.1 d_W_lowestReady_16 (by decide +kernel) ?_
        refine lv_iand S.1 S.2.1 d_W_lowestReady_17 ?_
        refine lv_if_ne (tgt := 41) S.1 S.2.1 d_W_lowestReady_18 rfl (fun hc3 => ?_) (fun hc3 => ?_)
        · refine lv_iconst (v := nI 0) S.1 S.2.1 d_W_lowestReady_41 (by decide +kernel) ?_
          refine lv_istore (lv' := [(4, .int (nI 0)), (3, .int (nI i)), (0, .ref (fk_a g 75)), (1, .int (nI t)), (2, .int pl)]) S.1 S.2.1 d_W_lowestReady_42 hl (by decide) rfl (fun ls hl => ?_)
          refine lv_iload S.1 S.2.1 d_W_lowestReady_44 (lv_at hl 0 rfl) ?_
          refine fk_zeq (tgt := 64) S.1 S.2.1 (by omega) d_W_lowestReady_46 rfl (fun hc4 => ?_) (fun hc4 => ?_)
          · exact next _ H locs ls (decide_eq_false (fun q => hc3 q.1)) G hl
          · exact absurd hc4 (by omega)
        · refine lv_aload_n S.1 S.2.1 d_W_lowestReady_21 rfl (lv_at hl 1 rfl) ?_
          refine fk_gf S E G 75 (by decide) (v := .ref (fk_a g 1)) (congrArg (fk_ce g ov 75 (M 75)) kd_75) rfl 0 (by decide) rfl i_131 rfl d_W_lowestReady_22 ?_
          refine fk_gn S E G 1 (by decide) (v := .ref (fk_a g 2)) (congrArg (fk_ce g ov 1 (M 1)) kd_1) rfl 0 (by decide) rfl (List.mem_of_getElem? (i := 34) rfl) rfl d_W_lowestReady_25 ?_
          refine lv_iload_n S.1 S.2.1 d_W_lowestReady_28 rfl (lv_at hl 0 rfl) ?_
          refine fk_rw S E G i rfl (by omega) d_W_lowestReady_29 ?_
          refine fk_gn S E G (3 + 6 * i) (by omega) (v := .int (M (3 + 6 * i) 2)) (congrArg (fk_ce g ov (3 + 6 * i) (M (3 + 6 * i))) (fk_kf (show i < 12 by omega))) rfl 2 (by decide) rfl (List.mem_of_getElem? (i := 23) rfl) rfl d_W_lowestReady_30 ?_
          refine lv_iload_n S.1 S.2.1 d_W_lowestReady_33 rfl (lv_at hl 2 rfl) ?_
          refine lv_icmp_ne (tgt := 41) S.1 S.2.1 d_W_lowestReady_34 rfl (fun hc5 => ?_) (fun hc5 => ?_)
          · refine lv_iconst (v := nI 0) S.1 S.2.1 d_W_lowestReady_41 (by decide +kernel) ?_
            refine lv_istore (lv' := [(4, .int (nI 0)), (3, .int (nI i)), (0, .ref (fk_a g 75)), (1, .int (nI t)), (2, .int pl)]) S.1 S.2.1 d_W_lowestReady_42 hl (by decide) rfl (fun ls hl => ?_)
            refine lv_iload S.1 S.2.1 d_W_lowestReady_44 (lv_at hl 0 rfl) ?_
            refine fk_zeq (tgt := 64) S.1 S.2.1 (by omega) d_W_lowestReady_46 rfl (fun hc6 => ?_) (fun hc6 => ?_)
            · exact next _ H locs ls (decide_eq_false (fun q => hc5 q.2.1)) G hl
            · exact absurd hc6 (by omega)
          · refine lv_iconst (v := nI 1) S.1 S.2.1 d_W_lowestReady_37 (by decide +kernel) ?_
            refine lv_goto (tgt := 42) S.1 S.2.1 d_W_lowestReady_38 rfl ?_
            refine lv_istore (lv' := [(4, .int (nI 1)), (3, .int (nI i)), (0, .ref (fk_a g 75)), (1, .int (nI t)), (2, .int pl)]) S.1 S.2.1 d_W_lowestReady_42 hl (by decide) rfl (fun ls hl => ?_)
            refine lv_iload S.1 S.2.1 d_W_lowestReady_44 (lv_at hl 0 rfl) ?_
            refine fk_zeq (tgt := 64) S.1 S.2.1 (by omega) d_W_lowestReady_46 rfl (fun hc7 => ?_) (fun hc7 => ?_)
            · exact absurd hc7 (by omega)
            · refine lv_aload_n S.1 S.2.1 d_W_lowestReady_49 rfl (lv_at hl 2 rfl) ?_
              refine fk_gf S E G 75 (by decide) (v := .ref (fk_a g 76)) (congrArg (fk_ce g ov 75 (M 75)) kd_75) rfl 1 (by decide) rfl i_132 rfl d_W_lowestReady_50 ?_
              refine lv_iload_n S.1 S.2.1 d_W_lowestReady_53 rfl (lv_at hl 1 rfl) ?_
              refine fk_ia S E G 76 (by decide) (congrArg (fk_ce g ov 76 (M 76)) kd_76) i rfl (by omega) (by decide) (v := M 76 i) rfl d_W_lowestReady_54 ?_
              refine lv_iload_n S.1 S.2.1 d_W_lowestReady_55 rfl (lv_at hl 4 rfl) ?_
              refine lv_iconst (v := -1) S.1 S.2.1 d_W_lowestReady_56 (by decide +kernel) ?_
              refine lv_ixor S.1 S.2.1 d_W_lowestReady_57 ?_
              refine lv_iand S.1 S.2.1 d_W_lowestReady_58 ?_
              refine lv_if_ne (tgt := 64) S.1 S.2.1 d_W_lowestReady_59 rfl (fun hc8 => ?_) (fun hc8 => ?_)
              · exact next _ H locs ls (decide_eq_false (fun q => hc8 q.2.2)) G hl
              · refine lv_iload_n S.1 S.2.1 d_W_lowestReady_62 rfl (lv_at hl 1 rfl) ?_
                exact fk_iret S hr hlk E G rfl (by rw [← hv1]; show _ = fk_rv (if fk_rd M t pl i = true then some i else _); rw [if_pos (show fk_rd M t pl i = true from decide_eq_true ⟨hc3, hc5, hc8⟩)]; rfl) d_W_lowestReady_63
  exact loop n 0 s.heap [] ls (by omega) rfl G hl
theorem d_W_directWaits_0 : decode b_W_directWaits 0 = .ok (.aload_n 1, 1) := by decide +kernel
theorem d_W_directWaits_1 : decode b_W_directWaits 1 = .ok (.getfield 43, 3) := by decide +kernel
theorem d_W_directWaits_4 : decode b_W_directWaits 4 = .ok (.ifCond .ne 7, 3) := by decide +kernel
theorem d_W_directWaits_7 : decode b_W_directWaits 7 = .ok (.iconst 0, 1) := by decide +kernel
theorem d_W_directWaits_8 : decode b_W_directWaits 8 = .ok (.goto 12, 3) := by decide +kernel
theorem d_W_directWaits_11 : decode b_W_directWaits 11 = .ok (.iconst 1, 1) := by decide +kernel
theorem d_W_directWaits_12 : decode b_W_directWaits 12 = .ok (.aload_n 1, 1) := by decide +kernel
theorem d_W_directWaits_13 : decode b_W_directWaits 13 = .ok (.getfield 43, 3) := by decide +kernel
theorem d_W_directWaits_16 : decode b_W_directWaits 16 = .ok (.invokestatic 48, 3) := by decide +kernel
theorem d_W_directWaits_19 : decode b_W_directWaits 19 = .ok (.ishl, 1) := by decide +kernel
theorem d_W_directWaits_20 : decode b_W_directWaits 20 = .ok (.istore_n 2, 1) := by decide +kernel
theorem d_W_directWaits_21 : decode b_W_directWaits 21 = .ok (.aload_n 1, 1) := by decide +kernel
theorem d_W_directWaits_22 : decode b_W_directWaits 22 = .ok (.getfield 52, 3) := by decide +kernel
theorem d_W_directWaits_25 : decode b_W_directWaits 25 = .ok (.astore_n 3, 1) := by decide +kernel
theorem d_W_directWaits_26 : decode b_W_directWaits 26 = .ok (.iconst 0, 1) := by decide +kernel
theorem d_W_directWaits_27 : decode b_W_directWaits 27 = .ok (.istore 4, 2) := by decide +kernel
theorem d_W_directWaits_29 : decode b_W_directWaits 29 = .ok (.iconst 0, 1) := by decide +kernel
theorem d_W_directWaits_30 : decode b_W_directWaits 30 = .ok (.istore 5, 2) := by decide +kernel
theorem d_W_directWaits_32 : decode b_W_directWaits 32 = .ok (.iload 5, 2) := by decide +kernel
theorem d_W_directWaits_34 : decode b_W_directWaits 34 = .ok (.aload_n 3, 1) := by decide +kernel
theorem d_W_directWaits_35 : decode b_W_directWaits 35 = .ok (.getfield 56, 3) := by decide +kernel
theorem d_W_directWaits_38 : decode b_W_directWaits 38 = .ok (.if_icmp .ge 76, 3) := by decide +kernel
theorem d_W_directWaits_41 : decode b_W_directWaits 41 = .ok (.iload 5, 2) := by decide +kernel
theorem d_W_directWaits_43 : decode b_W_directWaits 43 = .ok (.iload 4, 2) := by decide +kernel
theorem d_W_directWaits_45 : decode b_W_directWaits 45 = .ok (.if_icmp .lt 63, 3) := by decide +kernel
theorem d_W_directWaits_48 : decode b_W_directWaits 48 = .ok (.aload_n 3, 1) := by decide +kernel
theorem d_W_directWaits_49 : decode b_W_directWaits 49 = .ok (.iload 5, 2) := by decide +kernel
theorem d_W_directWaits_51 : decode b_W_directWaits 51 = .ok (.invokevirtual 61, 3) := by decide +kernel
theorem d_W_directWaits_54 : decode b_W_directWaits 54 = .ok (.ifCond .ne 6, 3) := by decide +kernel
theorem d_W_directWaits_57 : decode b_W_directWaits 57 = .ok (.goto 51, 3) := by decide +kernel
theorem d_W_directWaits_60 : decode b_W_directWaits 60 = .ok (.aload_n 3, 1) := by decide +kernel
theorem d_W_directWaits_61 : decode b_W_directWaits 61 = .ok (.getfield 65, 3) := by decide +kernel
theorem d_W_directWaits_64 : decode b_W_directWaits 64 = .ok (.iload 5, 2) := by decide +kernel
theorem d_W_directWaits_66 : decode b_W_directWaits 66 = .ok (.iaload, 1) := by decide +kernel
theorem d_W_directWaits_67 : decode b_W_directWaits 67 = .ok (.bipush 14, 2) := by decide +kernel
theorem d_W_directWaits_69 : decode b_W_directWaits 69 = .ok (.if_icmp .ne 15, 3) := by decide +kernel
theorem d_W_directWaits_72 : decode b_W_directWaits 72 = .ok (.aload_n 3, 1) := by decide +kernel
theorem d_W_directWaits_73 : decode b_W_directWaits 73 = .ok (.getfield 68, 3) := by decide +kernel
theorem d_W_directWaits_76 : decode b_W_directWaits 76 = .ok (.iload 5, 2) := by decide +kernel
theorem d_W_directWaits_78 : decode b_W_directWaits 78 = .ok (.iaload, 1) := by decide +kernel
theorem d_W_directWaits_79 : decode b_W_directWaits 79 = .ok (.istore 4, 2) := by decide +kernel
theorem d_W_directWaits_81 : decode b_W_directWaits 81 = .ok (.goto 27, 3) := by decide +kernel
theorem d_W_directWaits_84 : decode b_W_directWaits 84 = .ok (.aload_n 3, 1) := by decide +kernel
theorem d_W_directWaits_85 : decode b_W_directWaits 85 = .ok (.getfield 65, 3) := by decide +kernel
theorem d_W_directWaits_88 : decode b_W_directWaits 88 = .ok (.iload 5, 2) := by decide +kernel
theorem d_W_directWaits_90 : decode b_W_directWaits 90 = .ok (.iaload, 1) := by decide +kernel
theorem d_W_directWaits_91 : decode b_W_directWaits 91 = .ok (.invokestatic 71, 3) := by decide +kernel
theorem d_W_directWaits_94 : decode b_W_directWaits 94 = .ok (.ifCond .eq 14, 3) := by decide +kernel
theorem d_W_directWaits_97 : decode b_W_directWaits 97 = .ok (.iload_n 2, 1) := by decide +kernel
theorem d_W_directWaits_98 : decode b_W_directWaits 98 = .ok (.iconst 1, 1) := by decide +kernel
theorem d_W_directWaits_99 : decode b_W_directWaits 99 = .ok (.aload_n 3, 1) := by decide +kernel
theorem d_W_directWaits_100 : decode b_W_directWaits 100 = .ok (.iload 5, 2) := by decide +kernel
theorem d_W_directWaits_102 : decode b_W_directWaits 102 = .ok (.invokevirtual 74, 3) := by decide +kernel
theorem d_W_directWaits_105 : decode b_W_directWaits 105 = .ok (.ishl, 1) := by decide +kernel
theorem d_W_directWaits_106 : decode b_W_directWaits 106 = .ok (.ior, 1) := by decide +kernel
theorem d_W_directWaits_107 : decode b_W_directWaits 107 = .ok (.istore_n 2, 1) := by decide +kernel
theorem d_W_directWaits_108 : decode b_W_directWaits 108 = .ok (.iinc 5 1, 3) := by decide +kernel
theorem d_W_directWaits_111 : decode b_W_directWaits 111 = .ok (.goto (-79), 3) := by decide +kernel
theorem d_W_directWaits_114 : decode b_W_directWaits 114 = .ok (.iload_n 2, 1) := by decide +kernel
theorem d_W_directWaits_115 : decode b_W_directWaits 115 = .ok (.ireturn, 1) := by decide +kernel
theorem m_W_directWaits : fk_MI y_W_directWaits b_W_directWaits 6 (some .int) 1 := ⟨i_243, i_242, fk_mp (q := (y_W_directWaits, 5)) (by decide +kernel), i_5, by decide +kernel⟩
set_option maxHeartbeats 4000000 in
set_option maxRecDepth 100000 in
theorem c_W_directWaits (l : Launch) (g : fk_G) (ov : Int64) (M : fk_M) (n : Nat) (ck P sz : Nat → Nat) (bb : Nat → Nat → Nat) (hs : fk_Sh n ck P sz bb M) (j : Nat) (hj : j < 12) : fk_CI l y_W_directWaits b_W_directWaits 6 (some .int) (fk_rm 3) g ov M M [.ref (fk_a g 75), .ref (fk_a g (3 + 6 * j))] (fk_nd ck P sz bb M j) := by
  refine fk_ofI rfl (Nat.le_of_ble_eq_true rfl) ?_
  intro p e s m args below meth c ls S hr hlk E G hl
  have hl : lv_has ls 6 [(0, .ref (fk_a g 75)), (1, .ref (fk_a g (3 + 6 * j)))] := hl
  obtain ⟨hX, hq, hck, h25, hsz, h40, hb, hcl, hT, -⟩ := hs.2.2 j hj
  have h12 := hs.2.1
  have loop : ∀ (d : Nat) (i hid : Nat) (mk : Int32) (H : Heap) (locs : List Loc) (ls : Array Slot), i + d = sz j → hid ≤ 40 → fk_dw (bb j) (M (P j + 2)) d i hid mk = fk_nd ck P sz bb M j → fk_H g ov (M) s H locs → lv_has ls 6 [(5, .int (nI i)), (4, .int (nI hid)), (3, .ref (fk_a g (P j))), (2, .int mk), (0, .ref (fk_a g 75)), (1, .ref (fk_a g (3 + 6 * j)))] → W p l e (fk_rm (3)) s m args below meth c H locs 0 0 (MQ below (va_Qi (fun rr (_ : Unit) => rr = fk_nd ck P sz bb M j) (fun _ t => fk_Wd g ov (M) t) (fk_A g)) args s 0 0 (fk_A g)) (F0 m 32 ls []) := by
    intro d
    induction d with
    | zero =>
      intro i hid mk H locs ls hv0 hv1 hv2 G hl
      refine lv_iload S.1 S.2.1 d_W_directWaits_32 (lv_at hl 0 rfl) ?_
      refine lv_aload_n S.1 S.2.1 d_W_directWaits_34 rfl (lv_at hl 2 rfl) ?_
      refine fk_gn S E G (P j) (by have := fk_Xlt hX; omega) (v := .int (M (P j) 4)) (congrArg (fk_ce g ov (P j) (M (P j))) (fk_kx0 hX)) rfl 4 (by decide) rfl (List.mem_of_getElem? (i := 10) rfl) rfl d_W_directWaits_35 ?_
      rw [hsz]
      refine fk_cge (tgt := 114) S.1 S.2.1 (by omega) (by omega) d_W_directWaits_38 rfl (fun hc1 => ?_) (fun hc1 => ?_)
      · refine lv_iload_n S.1 S.2.1 d_W_directWaits_114 rfl (lv_at hl 3 rfl) ?_
        exact fk_iret S hr hlk E G rfl (by rw [← hv2]; rfl) d_W_directWaits_115
      · exact absurd hv0 (by omega)
    | succ d ih =>
      intro i hid mk H locs ls hv0 hv1 hv2 G hl
      refine lv_iload S.1 S.2.1 d_W_directWaits_32 (lv_at hl 0 rfl) ?_
      refine lv_aload_n S.1 S.2.1 d_W_directWaits_34 rfl (lv_at hl 2 rfl) ?_
      refine fk_gn S E G (P j) (by have := fk_Xlt hX; omega) (v := .int (M (P j) 4)) (congrArg (fk_ce g ov (P j) (M (P j))) (fk_kx0 hX)) rfl 4 (by decide) rfl (List.mem_of_getElem? (i := 10) rfl) rfl d_W_directWaits_35 ?_
      rw [hsz]
      refine fk_cge (tgt := 114) S.1 S.2.1 (by omega) (by omega) d_W_directWaits_38 rfl (fun hc2 => ?_) (fun hc2 => ?_)
      · exact absurd hv0 (by omega)
      · have step : ∀ (hid2 : Nat) (mk2 : Int32) (H : Heap) (locs : List Loc) (ls : Array Slot), hid2 ≤ 40 → fk_dw (bb j) (M (P j + 2)) d (i + 1) hid2 mk2 = fk_nd ck P sz bb M j → fk_H g ov M s H locs → lv_has ls 6 [(5, .int (nI i)), (4, .int (nI hid2)), (3, .ref (fk_a g (P j))), (2, .int mk2), (0, .ref (fk_a g 75)), (1, .ref (fk_a g (3 + 6 * j)))] → W p l e (fk_rm (3)) s m args below meth c H locs 0 0 (MQ below (va_Qi (fun rr (_ : Unit) => rr = fk_nd ck P sz bb M j) (fun _ t => fk_Wd g ov (M) t) (fk_A g)) args s 0 0 (fk_A g)) (F0 m 108 ls []) := by
          intro hid2 mk2 H locs ls q1 q2 G hl
          refine lv_iinc (k := 0) (v := nI (i + 1)) (lv' := [(5, .int (nI (i + 1))), (4, .int (nI hid2)), (3, .ref (fk_a g (P j))), (2, .int mk2), (0, .ref (fk_a g 75)), (1, .ref (fk_a g (3 + 6 * j)))]) S.1 S.2.1 d_W_directWaits_108 hl rfl (nI_1 i) (by decide) rfl (fun ls hl => ?_)
          refine lv_goto (tgt := 32) S.1 S.2.1 d_W_directWaits_111 rfl ?_
          exact ih (i + 1) hid2 mk2 H locs ls (by omega) q1 q2 G hl
        refine lv_iload S.1 S.2.1 d_W_directWaits_41 (lv_at hl 0 rfl) ?_
        refine lv_iload S.1 S.2.1 d_W_directWaits_43 (lv_at hl 1 rfl) ?_
        refine fk_clt (tgt := 108) S.1 S.2.1 (by omega) (by omega) d_W_directWaits_45 rfl (fun hc3 => ?_) (fun hc3 => ?_)
        · exact step hid mk H locs ls hv1 (by rw [← hv2]; exact (if_pos (Or.inl hc3)).symm) G hl
        · refine lv_aload_n S.1 S.2.1 d_W_directWaits_48 rfl (lv_at hl 2 rfl) ?_
          refine lv_iload S.1 S.2.1 d_W_directWaits_49 (lv_at hl 0 rfl) ?_
          refine fk_cni S E G (P j) (by have := fk_Xlt hX; omega) (congrArg (fk_ce g ov (P j) (M (P j))) (fk_kx0 hX)) rfl (rest := []) (c_E_beginsAt l g ov M (P j) hX i (by omega)) m_E_beginsAt (List.mem_of_getElem? (i := 11) rfl) ⟨rfl, rfl⟩ ⟨by decide, by decide⟩ rfl rfl hl.1 (Nat.le_of_ble_eq_true rfl) d_W_directWaits_51 ⟨Nat.zero_le _, Nat.zero_le _⟩ (fun H locs G => ?_)
          refine fk_zne (tgt := 60) S.1 S.2.1 (fk_bl _) d_W_directWaits_54 rfl (fun hc4 => ?_) (fun hc4 => ?_)
          · have hE := of_decide_eq_true (fk_bt hc4)
            have hno : ¬ (i < hid ∨ ¬ 0 < M (P j + 2) i) := fun q => q.elim (fun q => by omega) (fun q => q hE)
            obtain ⟨q, ee, hq10, hok, hEe, hlt, hle, hts⟩ := fk_node (by omega) (hT (by omega)) (show i < sz j by omega) hE
            have hok2 := hok.2.1
            have hlen := hok.2.2.1
            refine lv_aload_n S.1 S.2.1 d_W_directWaits_60 rfl (lv_at hl 2 rfl) ?_
            refine fk_gn S E G (P j) (by have := fk_Xlt hX; omega) (v := .ref (fk_a g (P j + 1))) (congrArg (fk_ce g ov (P j) (M (P j))) (fk_kx0 hX)) rfl 0 (by decide) rfl (List.mem_of_getElem? (i := 0) rfl) rfl d_W_directWaits_61 ?_
            refine lv_iload S.1 S.2.1 d_W_directWaits_64 (lv_at hl 0 rfl) ?_
            refine fk_ia S E G (P j + 1) (by have := fk_Xlt hX; omega) (congrArg (fk_ce g ov (P j + 1) (M (P j + 1))) (fk_kx1 hX)) i rfl (by omega) (by decide) (v := nI (bb j i)) (hb i (by omega)).1 d_W_directWaits_66 ?_
            refine lv_bipush (v := nI 14) S.1 S.2.1 d_W_directWaits_67 (by decide +kernel) ?_
            refine fk_cne (tgt := 84) S.1 S.2.1 (by omega) (by omega) d_W_directWaits_69 rfl (fun hc5 => ?_) (fun hc5 => ?_)
            · refine lv_aload_n S.1 S.2.1 d_W_directWaits_84 rfl (lv_at hl 2 rfl) ?_
              refine fk_gn S E G (P j) (by have := fk_Xlt hX; omega) (v := .ref (fk_a g (P j + 1))) (congrArg (fk_ce g ov (P j) (M (P j))) (fk_kx0 hX)) rfl 0 (by decide) rfl (List.mem_of_getElem? (i := 0) rfl) rfl d_W_directWaits_85 ?_
              refine lv_iload S.1 S.2.1 d_W_directWaits_88 (lv_at hl 0 rfl) ?_
              refine fk_ia S E G (P j + 1) (by have := fk_Xlt hX; omega) (congrArg (fk_ce g ov (P j + 1) (M (P j + 1))) (fk_kx1 hX)) i rfl (by omega) (by decide) (v := nI (bb j i)) (hb i (by omega)).1 d_W_directWaits_90 ?_
              refine fk_cti S E G (rest := []) (c_D_namesFlow l g ov M (bb j i) hok2) m_D_namesFlow (List.mem_of_getElem? (i := 12) rfl) ⟨rfl, rfl⟩ ⟨by decide, by decide⟩ rfl rfl hl.1 (Nat.le_of_ble_eq_true rfl) d_W_directWaits_91 ⟨Nat.zero_le _, Nat.zero_le _⟩ (fun H locs G => ?_)
              refine fk_zeq (tgt := 108) S.1 S.2.1 (fk_bl _) d_W_directWaits_94 rfl (fun hc6 => ?_) (fun hc6 => ?_)
              · have hnm := of_decide_eq_false (fk_bf hc6)
                exact step hid mk H locs ls hv1 (by rw [← hv2]; show _ = (if _ then _ else if _ then _ else if _ then _ else _); rw [if_neg hno, if_neg hc5, if_neg hnm]) G hl
              · have hnm := of_decide_eq_true (fk_bt hc6)
                have hd2 := fk_hd2 hnm
                refine lv_iload_n S.1 S.2.1 d_W_directWaits_97 rfl (lv_at hl 3 rfl) ?_
                refine lv_iconst (v := nI 1) S.1 S.2.1 d_W_directWaits_98 (by decide +kernel) ?_
                refine lv_aload_n S.1 S.2.1 d_W_directWaits_99 rfl (lv_at hl 2 rfl) ?_
                refine lv_iload S.1 S.2.1 d_W_directWaits_100 (lv_at hl 0 rfl) ?_
                refine fk_cni S E G (P j) (by have := fk_Xlt hX; omega) (congrArg (fk_ce g ov (P j) (M (P j))) (fk_kx0 hX)) rfl (rest := [.int (nI 1), .int mk]) ((hb (i + 1) (by omega)).1 ▸ c_E_named l g ov M (P j) hX i (by omega)) m_E_named (List.mem_of_getElem? (i := 13) rfl) ⟨rfl, rfl⟩ ⟨by decide, by decide⟩ rfl rfl hl.1 (Nat.le_of_ble_eq_true rfl) d_W_directWaits_102 ⟨Nat.zero_le _, Nat.zero_le _⟩ (fun H locs G => ?_)
                refine lv_ishl S.1 S.2.1 d_W_directWaits_105 ?_
                refine lv_ior S.1 S.2.1 d_W_directWaits_106 ?_
                refine lv_istore_n (lv' := [(2, .int (mk ||| ((nI 1) <<< (nI (bb j (i + 1)) &&& 31)))), (5, .int (nI i)), (4, .int (nI hid)), (3, .ref (fk_a g (P j))), (0, .ref (fk_a g 75)), (1, .ref (fk_a g (3 + 6 * j)))]) S.1 S.2.1 d_W_directWaits_107 rfl hl (by decide) rfl (fun ls hl => ?_)
                exact step hid _ H locs ls hv1 (by rw [← hv2]; show _ = (if _ then _ else if _ then _ else if _ then _ else _); rw [if_neg hno, if_neg hc5, if_pos hnm]) G (lv_sub hl [1, 2, 3, 0, 4, 5] rfl)
            · refine lv_aload_n S.1 S.2.1 d_W_directWaits_72 rfl (lv_at hl 2 rfl) ?_
              refine fk_gn S E G (P j) (by have := fk_Xlt hX; omega) (v := .ref (fk_a g (P j + 2))) (congrArg (fk_ce g ov (P j) (M (P j))) (fk_kx0 hX)) rfl 1 (by decide) rfl (List.mem_of_getElem? (i := 3) rfl) rfl d_W_directWaits_73 ?_
              refine lv_iload S.1 S.2.1 d_W_directWaits_76 (lv_at hl 0 rfl) ?_
              refine fk_ia S E G (P j + 2) (by have := fk_Xlt hX; omega) (congrArg (fk_ce g ov (P j + 2) (M (P j + 2))) (fk_kx2 hX)) i rfl (by omega) (by decide) (v := nI ee) hEe d_W_directWaits_78 ?_
              refine lv_istore (lv' := [(4, .int (nI ee)), (5, .int (nI i)), (3, .ref (fk_a g (P j))), (2, .int mk), (0, .ref (fk_a g 75)), (1, .ref (fk_a g (3 + 6 * j)))]) S.1 S.2.1 d_W_directWaits_79 hl (by decide) rfl (fun ls hl => ?_)
              refine lv_goto (tgt := 108) S.1 S.2.1 d_W_directWaits_81 rfl ?_
              exact step ee mk H locs ls (by omega) (by rw [← hv2]; show _ = (if _ then _ else if _ then _ else _); rw [if_neg hno, if_pos hc5, hEe, nI_clamp (by omega)]) G (lv_sub hl [1, 0, 2, 3, 4, 5] rfl)
          · have hE := of_decide_eq_false (fk_bf hc4)
            refine lv_goto (tgt := 108) S.1 S.2.1 d_W_directWaits_57 rfl ?_
            exact step hid mk H locs ls hv1 (by rw [← hv2]; exact (if_pos (Or.inr hE)).symm) G hl
  refine lv_aload_n S.1 S.2.1 d_W_directWaits_0 rfl (lv_at hl 1 rfl) ?_
  refine fk_gn S E G (3 + 6 * j) (by omega) (v := .int (M (3 + 6 * j) 3)) (congrArg (fk_ce g ov (3 + 6 * j) (M (3 + 6 * j))) (fk_kf hj)) rfl 3 (by decide) rfl (List.mem_of_getElem? (i := 24) rfl) rfl d_W_directWaits_1 ?_
  rw [hck]
  refine fk_zne (tgt := 11) S.1 S.2.1 (by omega) d_W_directWaits_4 rfl (fun hc7 => ?_) (fun hc7 => ?_)
  · refine lv_iconst (v := nI 1) S.1 S.2.1 d_W_directWaits_11 (by decide +kernel) ?_
    refine lv_aload_n S.1 S.2.1 d_W_directWaits_12 rfl (lv_at hl 1 rfl) ?_
    refine fk_gn S E G (3 + 6 * j) (by omega) (v := .int (M (3 + 6 * j) 3)) (congrArg (fk_ce g ov (3 + 6 * j) (M (3 + 6 * j))) (fk_kf hj)) rfl 3 (by decide) rfl (List.mem_of_getElem? (i := 24) rfl) rfl d_W_directWaits_13 ?_
    rw [hck]
    refine fk_cti S E G (rest := [.int (nI 1)]) (c_D_flowBehind l g ov M (ck j) (by omega) (by omega)) m_D_flowBehind (List.mem_of_getElem? (i := 10) rfl) ⟨rfl, rfl⟩ ⟨by decide, by decide⟩ rfl rfl hl.1 (Nat.le_of_ble_eq_true rfl) d_W_directWaits_16 ⟨Nat.zero_le _, Nat.zero_le _⟩ (fun H locs G => ?_)
    refine lv_ishl S.1 S.2.1 d_W_directWaits_19 ?_
    refine lv_istore_n (lv' := [(2, .int ((nI 1) <<< (nI ((ck j - 1) / 2) &&& 31))), (0, .ref (fk_a g 75)), (1, .ref (fk_a g (3 + 6 * j)))]) S.1 S.2.1 d_W_directWaits_20 rfl hl (by decide) rfl (fun ls hl => ?_)
    refine lv_aload_n S.1 S.2.1 d_W_directWaits_21 rfl (lv_at hl 2 rfl) ?_
    refine fk_gn S E G (3 + 6 * j) (by omega) (v := .ref (fk_a g (P j))) (fk_flow hj hq (fk_Xb hX)) rfl 0 (by decide) rfl (List.mem_of_getElem? (i := 14) rfl) rfl d_W_directWaits_22 ?_
    refine lv_astore_n (lv' := [(3, .ref (fk_a g (P j))), (2, .int ((nI 1) <<< (nI ((ck j - 1) / 2) &&& 31))), (0, .ref (fk_a g 75)), (1, .ref (fk_a g (3 + 6 * j)))]) S.1 S.2.1 d_W_directWaits_25 rfl hl (by decide) rfl (fun ls hl => ?_)
    refine lv_iconst (v := nI 0) S.1 S.2.1 d_W_directWaits_26 (by decide +kernel) ?_
    refine lv_istore (lv' := [(4, .int (nI 0)), (3, .ref (fk_a g (P j))), (2, .int ((nI 1) <<< (nI ((ck j - 1) / 2) &&& 31))), (0, .ref (fk_a g 75)), (1, .ref (fk_a g (3 + 6 * j)))]) S.1 S.2.1 d_W_directWaits_27 hl (by decide) rfl (fun ls hl => ?_)
    refine lv_iconst (v := nI 0) S.1 S.2.1 d_W_directWaits_29 (by decide +kernel) ?_
    refine lv_istore (lv' := [(5, .int (nI 0)), (4, .int (nI 0)), (3, .ref (fk_a g (P j))), (2, .int ((nI 1) <<< (nI ((ck j - 1) / 2) &&& 31))), (0, .ref (fk_a g 75)), (1, .ref (fk_a g (3 + 6 * j)))]) S.1 S.2.1 d_W_directWaits_30 hl (by decide) rfl (fun ls hl => ?_)
    exact loop (sz j) 0 0 _ H locs ls (by omega) (by omega) (by unfold fk_nd fk_cm; rw [if_neg (by omega)]) G hl
  · refine lv_iconst (v := nI 0) S.1 S.2.1 d_W_directWaits_7 (by decide +kernel) ?_
    refine lv_goto (tgt := 20) S.1 S.2.1 d_W_directWaits_8 rfl ?_
    refine lv_istore_n (lv' := [(2, .int (nI 0)), (0, .ref (fk_a g 75)), (1, .ref (fk_a g (3 + 6 * j)))]) S.1 S.2.1 d_W_directWaits_20 rfl hl (by decide) rfl (fun ls hl => ?_)
    refine lv_aload_n S.1 S.2.1 d_W_directWaits_21 rfl (lv_at hl 2 rfl) ?_
    refine fk_gn S E G (3 + 6 * j) (by omega) (v := .ref (fk_a g (P j))) (fk_flow hj hq (fk_Xb hX)) rfl 0 (by decide) rfl (List.mem_of_getElem? (i := 14) rfl) rfl d_W_directWaits_22 ?_
    refine lv_astore_n (lv' := [(3, .ref (fk_a g (P j))), (2, .int (nI 0)), (0, .ref (fk_a g 75)), (1, .ref (fk_a g (3 + 6 * j)))]) S.1 S.2.1 d_W_directWaits_25 rfl hl (by decide) rfl (fun ls hl => ?_)
    refine lv_iconst (v := nI 0) S.1 S.2.1 d_W_directWaits_26 (by decide +kernel) ?_
    refine lv_istore (lv' := [(4, .int (nI 0)), (3, .ref (fk_a g (P j))), (2, .int (nI 0)), (0, .ref (fk_a g 75)), (1, .ref (fk_a g (3 + 6 * j)))]) S.1 S.2.1 d_W_directWaits_27 hl (by decide) rfl (fun ls hl => ?_)
    refine lv_iconst (v := nI 0) S.1 S.2.1 d_W_directWaits_29 (by decide +kernel) ?_
    refine lv_istore (lv' := [(5, .int (nI 0)), (4, .int (nI 0)), (3, .ref (fk_a g (P j))), (2, .int (nI 0)), (0, .ref (fk_a g 75)), (1, .ref (fk_a g (3 + 6 * j)))]) S.1 S.2.1 d_W_directWaits_30 hl (by decide) rfl (fun ls hl => ?_)
    exact loop (sz j) 0 0 _ s.heap [] ls (by omega) (by omega) (by unfold fk_nd fk_cm; rw [if_pos hc7]) G hl
theorem d_W_trace_0 : decode b_W_trace 0 = .ok (.iconst 0, 1) := by decide +kernel
theorem d_W_trace_1 : decode b_W_trace 1 = .ok (.istore_n 1, 1) := by decide +kernel
theorem d_W_trace_2 : decode b_W_trace 2 = .ok (.iload_n 1, 1) := by decide +kernel
theorem d_W_trace_3 : decode b_W_trace 3 = .ok (.aload_n 0, 1) := by decide +kernel
theorem d_W_trace_4 : decode b_W_trace 4 = .ok (.getfield 21, 3) := by decide +kernel
theorem d_W_trace_7 : decode b_W_trace 7 = .ok (.getfield 25, 3) := by decide +kernel
theorem d_W_trace_10 : decode b_W_trace 10 = .ok (.if_icmp .ge 28, 3) := by decide +kernel
theorem d_W_trace_13 : decode b_W_trace 13 = .ok (.aload_n 0, 1) := by decide +kernel
theorem d_W_trace_14 : decode b_W_trace 14 = .ok (.getfield 9, 3) := by decide +kernel
theorem d_W_trace_17 : decode b_W_trace 17 = .ok (.iload_n 1, 1) := by decide +kernel
theorem d_W_trace_18 : decode b_W_trace 18 = .ok (.aload_n 0, 1) := by decide +kernel
theorem d_W_trace_19 : decode b_W_trace 19 = .ok (.aload_n 0, 1) := by decide +kernel
theorem d_W_trace_20 : decode b_W_trace 20 = .ok (.getfield 21, 3) := by decide +kernel
theorem d_W_trace_23 : decode b_W_trace 23 = .ok (.getfield 31, 3) := by decide +kernel
theorem d_W_trace_26 : decode b_W_trace 26 = .ok (.iload_n 1, 1) := by decide +kernel
theorem d_W_trace_27 : decode b_W_trace 27 = .ok (.aaload, 1) := by decide +kernel
theorem d_W_trace_28 : decode b_W_trace 28 = .ok (.invokevirtual 35, 3) := by decide +kernel
theorem d_W_trace_31 : decode b_W_trace 31 = .ok (.iastore, 1) := by decide +kernel
theorem d_W_trace_32 : decode b_W_trace 32 = .ok (.iinc 1 1, 3) := by decide +kernel
theorem d_W_trace_35 : decode b_W_trace 35 = .ok (.goto (-33), 3) := by decide +kernel
theorem d_W_trace_38 : decode b_W_trace 38 = .ok (.iconst 0, 1) := by decide +kernel
theorem d_W_trace_39 : decode b_W_trace 39 = .ok (.istore_n 1, 1) := by decide +kernel
theorem d_W_trace_40 : decode b_W_trace 40 = .ok (.iload_n 1, 1) := by decide +kernel
theorem d_W_trace_41 : decode b_W_trace 41 = .ok (.aload_n 0, 1) := by decide +kernel
theorem d_W_trace_42 : decode b_W_trace 42 = .ok (.getfield 21, 3) := by decide +kernel
theorem d_W_trace_45 : decode b_W_trace 45 = .ok (.getfield 25, 3) := by decide +kernel
theorem d_W_trace_48 : decode b_W_trace 48 = .ok (.if_icmp .ge 52, 3) := by decide +kernel
theorem d_W_trace_51 : decode b_W_trace 51 = .ok (.iconst 0, 1) := by decide +kernel
theorem d_W_trace_52 : decode b_W_trace 52 = .ok (.istore_n 2, 1) := by decide +kernel
theorem d_W_trace_53 : decode b_W_trace 53 = .ok (.iload_n 2, 1) := by decide +kernel
theorem d_W_trace_54 : decode b_W_trace 54 = .ok (.aload_n 0, 1) := by decide +kernel
theorem d_W_trace_55 : decode b_W_trace 55 = .ok (.getfield 21, 3) := by decide +kernel
theorem d_W_trace_58 : decode b_W_trace 58 = .ok (.getfield 25, 3) := by decide +kernel
theorem d_W_trace_61 : decode b_W_trace 61 = .ok (.if_icmp .ge 33, 3) := by decide +kernel
theorem d_W_trace_64 : decode b_W_trace 64 = .ok (.aload_n 0, 1) := by decide +kernel
theorem d_W_trace_65 : decode b_W_trace 65 = .ok (.iload_n 2, 1) := by decide +kernel
theorem d_W_trace_66 : decode b_W_trace 66 = .ok (.iload_n 1, 1) := by decide +kernel
theorem d_W_trace_67 : decode b_W_trace 67 = .ok (.invokevirtual 39, 3) := by decide +kernel
theorem d_W_trace_70 : decode b_W_trace 70 = .ok (.ifCond .eq 18, 3) := by decide +kernel
theorem d_W_trace_73 : decode b_W_trace 73 = .ok (.aload_n 0, 1) := by decide +kernel
theorem d_W_trace_74 : decode b_W_trace 74 = .ok (.getfield 9, 3) := by decide +kernel
theorem d_W_trace_77 : decode b_W_trace 77 = .ok (.iload_n 2, 1) := by decide +kernel
theorem d_W_trace_78 : decode b_W_trace 78 = .ok (.dup2, 1) := by decide +kernel
theorem d_W_trace_79 : decode b_W_trace 79 = .ok (.iaload, 1) := by decide +kernel
theorem d_W_trace_80 : decode b_W_trace 80 = .ok (.aload_n 0, 1) := by decide +kernel
theorem d_W_trace_81 : decode b_W_trace 81 = .ok (.getfield 9, 3) := by decide +kernel
theorem d_W_trace_84 : decode b_W_trace 84 = .ok (.iload_n 1, 1) := by decide +kernel
theorem d_W_trace_85 : decode b_W_trace 85 = .ok (.iaload, 1) := by decide +kernel
theorem d_W_trace_86 : decode b_W_trace 86 = .ok (.ior, 1) := by decide +kernel
theorem d_W_trace_87 : decode b_W_trace 87 = .ok (.iastore, 1) := by decide +kernel
theorem d_W_trace_88 : decode b_W_trace 88 = .ok (.iinc 2 1, 3) := by decide +kernel
theorem d_W_trace_91 : decode b_W_trace 91 = .ok (.goto (-38), 3) := by decide +kernel
theorem d_W_trace_94 : decode b_W_trace 94 = .ok (.iinc 1 1, 3) := by decide +kernel
theorem d_W_trace_97 : decode b_W_trace 97 = .ok (.goto (-57), 3) := by decide +kernel
theorem d_W_trace_100 : decode b_W_trace 100 = .ok (.return_, 1) := by decide +kernel
theorem m_W_trace : fk_MI y_W_trace b_W_trace 3 none 0 := ⟨i_239, i_238, fk_mp (q := (y_W_trace, 5)) (by decide +kernel), i_5, by decide +kernel⟩
set_option maxHeartbeats 4000000 in
set_option maxRecDepth 100000 in
theorem c_W_trace (l : Launch) (g : fk_G) (ov : Int64) (M : fk_M) (n : Nat) (ck P sz : Nat → Nat) (bb : Nat → Nat → Nat) (hs : fk_Sh n ck P sz bb M) : fk_CV l y_W_trace b_W_trace 3 (fk_rm 4) g ov M (fk_tr n ck P sz bb M) [.ref (fk_a g 75)] := by
  refine fk_ofV rfl (Nat.le_of_ble_eq_true rfl) ?_
  intro p e s m args below meth c ls S hr hlk E G hl
  have hl : lv_has ls 3 [(0, .ref (fk_a g 75))] := hl
  have h12 := hs.2.1
  have hP : ∀ j, j < 12 → fk_X (P j) := fun j hj => (hs.2.2 j hj).1
  have loop2 : ∀ (d : Nat) (k : Nat) (H : Heap) (locs : List Loc) (ls : Array Slot), k + d = n → fk_H g ov (fk_t2 n (fk_t1 ck P sz bb M n) k) s H locs → lv_has ls 3 [(1, .int (nI k)), (0, .ref (fk_a g 75))] → W p l e (fk_rm (4)) s m args below meth c H locs 0 0 (MQ below (va_Qv (fun (_ : Unit) => True) (fun _ t => fk_Wd g ov (fk_tr n ck P sz bb M) t) (fk_A g)) args s 0 0 (fk_A g)) (F0 m 40 ls []) := by
    intro d
    induction d with
    | zero =>
      intro k H locs ls hv0 G hl
      obtain ⟨M1, hM1⟩ : ∃ z : fk_M, z = fk_t2 n (fk_t1 ck P sz bb M n) k := ⟨_, rfl⟩
      rw [← hM1] at G
      have hs1 : fk_Sh n ck P sz bb M1 := by rw [hM1]; exact hs.to (fk_O.Eq (by omega) (fk_t2_O n (fk_t1_O ck P sz bb M n) k))
      refine lv_iload_n S.1 S.2.1 d_W_trace_40 rfl (lv_at hl 0 rfl) ?_
      refine lv_aload_n S.1 S.2.1 d_W_trace_41 rfl (lv_at hl 1 rfl) ?_
      refine fk_gf S E G 75 (by decide) (v := .ref (fk_a g 1)) (congrArg (fk_ce g ov 75 (M1 75)) kd_75) rfl 0 (by decide) rfl i_131 rfl d_W_trace_42 ?_
      refine fk_gn S E G 1 (by decide) (v := .int (M1 1 1)) (congrArg (fk_ce g ov 1 (M1 1)) kd_1) rfl 1 (by decide) rfl (List.mem_of_getElem? (i := 38) rfl) rfl d_W_trace_45 ?_
      rw [hs1.1]
      refine fk_cge (tgt := 100) S.1 S.2.1 (by omega) (by omega) d_W_trace_48 rfl (fun hc1 => ?_) (fun hc1 => ?_)
      · have hkn : k = n := by omega
        subst hkn
        exact fk_vret S hr hlk E G hM1 d_W_trace_100
      · exact absurd hv0 (by omega)
    | succ d ih =>
      intro k H locs ls hv0 G hl
      obtain ⟨M1, hM1⟩ : ∃ z : fk_M, z = fk_t2 n (fk_t1 ck P sz bb M n) k := ⟨_, rfl⟩
      rw [← hM1] at G
      have hs1 : fk_Sh n ck P sz bb M1 := by rw [hM1]; exact hs.to (fk_O.Eq (by omega) (fk_t2_O n (fk_t1_O ck P sz bb M n) k))
      refine lv_iload_n S.1 S.2.1 d_W_trace_40 rfl (lv_at hl 0 rfl) ?_
      refine lv_aload_n S.1 S.2.1 d_W_trace_41 rfl (lv_at hl 1 rfl) ?_
      refine fk_gf S E G 75 (by decide) (v := .ref (fk_a g 1)) (congrArg (fk_ce g ov 75 (M1 75)) kd_75) rfl 0 (by decide) rfl i_131 rfl d_W_trace_42 ?_
      refine fk_gn S E G 1 (by decide) (v := .int (M1 1 1)) (congrArg (fk_ce g ov 1 (M1 1)) kd_1) rfl 1 (by decide) rfl (List.mem_of_getElem? (i := 38) rfl) rfl d_W_trace_45 ?_
      rw [hs1.1]
      refine fk_cge (tgt := 100) S.1 S.2.1 (by omega) (by omega) d_W_trace_48 rfl (fun hc2 => ?_) (fun hc2 => ?_)
      · exact absurd hv0 (by omega)
      · rw [hM1] at G
        have inner : ∀ (d2 i : Nat) (H : Heap) (locs : List Loc) (ls : Array Slot), i + d2 = n → fk_H g ov (fk_t3 (fk_t2 n (fk_t1 ck P sz bb M n) k) k i) s H locs → lv_has ls 3 [(2, .int (nI i)), (1, .int (nI k)), (0, .ref (fk_a g 75))] → W p l e (fk_rm (4)) s m args below meth c H locs 0 0 (MQ below (va_Qv (fun (_ : Unit) => True) (fun _ t => fk_Wd g ov (fk_tr n ck P sz bb M) t) (fk_A g)) args s 0 0 (fk_A g)) (F0 m 53 ls []) := by
          intro d2
          induction d2 with
          | zero =>
            intro i H locs ls hw0 G hl
            obtain ⟨M2, hM2⟩ : ∃ z : fk_M, z = fk_t3 (fk_t2 n (fk_t1 ck P sz bb M n) k) k i := ⟨_, rfl⟩
            rw [← hM2] at G
            have hs2 : fk_Sh n ck P sz bb M2 := by rw [hM2]; exact hs.to (fk_O.Eq (by omega) (fk_t3_O k (fk_t2_O n (fk_t1_O ck P sz bb M n) k) i))
            refine lv_iload_n S.1 S.2.1 d_W_trace_53 rfl (lv_at hl 0 rfl) ?_
            refine lv_aload_n S.1 S.2.1 d_W_trace_54 rfl (lv_at hl 2 rfl) ?_
            refine fk_gf S E G 75 (by decide) (v := .ref (fk_a g 1)) (congrArg (fk_ce g ov 75 (M2 75)) kd_75) rfl 0 (by decide) rfl i_131 rfl d_W_trace_55 ?_
            refine fk_gn S E G 1 (by decide) (v := .int (M2 1 1)) (congrArg (fk_ce g ov 1 (M2 1)) kd_1) rfl 1 (by decide) rfl (List.mem_of_getElem? (i := 38) rfl) rfl d_W_trace_58 ?_
            rw [hs2.1]
            refine fk_cge (tgt := 94) S.1 S.2.1 (by omega) (by omega) d_W_trace_61 rfl (fun hc3 => ?_) (fun hc3 => ?_)
            · refine lv_iinc (k := 1) (v := nI (k + 1)) (lv' := [(1, .int (nI (k + 1))), (2, .int (nI i)), (0, .ref (fk_a g 75))]) S.1 S.2.1 d_W_trace_94 hl rfl (nI_1 k) (by decide) rfl (fun ls hl => ?_)
              refine lv_goto (tgt := 40) S.1 S.2.1 d_W_trace_97 rfl ?_
              have hin : i = n := by omega
              rw [hM2, hin] at G
              exact ih (k + 1) H locs ls (by omega) G (lv_sub hl [0, 2] rfl)
            · exact absurd hw0 (by omega)
          | succ d2 ih2 =>
            intro i H locs ls hw0 G hl
            obtain ⟨M2, hM2⟩ : ∃ z : fk_M, z = fk_t3 (fk_t2 n (fk_t1 ck P sz bb M n) k) k i := ⟨_, rfl⟩
            rw [← hM2] at G
            have hs2 : fk_Sh n ck P sz bb M2 := by rw [hM2]; exact hs.to (fk_O.Eq (by omega) (fk_t3_O k (fk_t2_O n (fk_t1_O ck P sz bb M n) k) i))
            refine lv_iload_n S.1 S.2.1 d_W_trace_53 rfl (lv_at hl 0 rfl) ?_
            refine lv_aload_n S.1 S.2.1 d_W_trace_54 rfl (lv_at hl 2 rfl) ?_
            refine fk_gf S E G 75 (by decide) (v := .ref (fk_a g 1)) (congrArg (fk_ce g ov 75 (M2 75)) kd_75) rfl 0 (by decide) rfl i_131 rfl d_W_trace_55 ?_
            refine fk_gn S E G 1 (by decide) (v := .int (M2 1 1)) (congrArg (fk_ce g ov 1 (M2 1)) kd_1) rfl 1 (by decide) rfl (List.mem_of_getElem? (i := 38) rfl) rfl d_W_trace_58 ?_
            rw [hs2.1]
            refine fk_cge (tgt := 94) S.1 S.2.1 (by omega) (by omega) d_W_trace_61 rfl (fun hc4 => ?_) (fun hc4 => ?_)
            · exact absurd hw0 (by omega)
            · refine lv_aload_n S.1 S.2.1 d_W_trace_64 rfl (lv_at hl 2 rfl) ?_
              refine lv_iload_n S.1 S.2.1 d_W_trace_65 rfl (lv_at hl 0 rfl) ?_
              refine lv_iload_n S.1 S.2.1 d_W_trace_66 rfl (lv_at hl 1 rfl) ?_
              refine fk_cvi S E G 75 (by decide) (congrArg (fk_ce g ov 75 (M2 75)) kd_75) rfl (rest := []) (c_W_waitsFor l g ov M2 i k (by omega)) m_W_waitsFor i_261 ⟨rfl, rfl⟩ ⟨by decide, by decide⟩ rfl rfl hl.1 (Nat.le_of_ble_eq_true rfl) d_W_trace_67 ⟨Nat.zero_le _, Nat.zero_le _⟩ (fun H locs G => ?_)
              refine fk_zeq (tgt := 88) S.1 S.2.1 (fk_bl _) d_W_trace_70 rfl (fun hc5 => ?_) (fun hc5 => ?_)
              · have hf := fk_bf hc5
                refine lv_iinc (k := 0) (v := nI (i + 1)) (lv' := [(2, .int (nI (i + 1))), (1, .int (nI k)), (0, .ref (fk_a g 75))]) S.1 S.2.1 d_W_trace_88 hl rfl (nI_1 i) (by decide) rfl (fun ls hl => ?_)
                refine lv_goto (tgt := 53) S.1 S.2.1 d_W_trace_91 rfl ?_
                refine ih2 (i + 1) H locs ls (by omega) ?_ hl
                rw [show fk_t3 (fk_t2 n (fk_t1 ck P sz bb M n) k) k (i + 1) = M2 from ?_]
                · exact G
                · rw [hM2] at hf ⊢
                  exact if_neg (by rw [hf]; decide)
              · have hf := fk_bt hc5
                refine lv_aload_n S.1 S.2.1 d_W_trace_73 rfl (lv_at hl 2 rfl) ?_
                refine fk_gf S E G 75 (by decide) (v := .ref (fk_a g 76)) (congrArg (fk_ce g ov 75 (M2 75)) kd_75) rfl 1 (by decide) rfl i_132 rfl d_W_trace_74 ?_
                refine lv_iload_n S.1 S.2.1 d_W_trace_77 rfl (lv_at hl 0 rfl) ?_
                refine lv_dup2_11 S.1 S.2.1 d_W_trace_78 rfl rfl ?_
                refine fk_ia S E G 76 (by decide) (congrArg (fk_ce g ov 76 (M2 76)) kd_76) i rfl (by omega) (by decide) (v := M2 76 i) rfl d_W_trace_79 ?_
                refine lv_aload_n S.1 S.2.1 d_W_trace_80 rfl (lv_at hl 2 rfl) ?_
                refine fk_gf S E G 75 (by decide) (v := .ref (fk_a g 76)) (congrArg (fk_ce g ov 75 (M2 75)) kd_75) rfl 1 (by decide) rfl i_132 rfl d_W_trace_81 ?_
                refine lv_iload_n S.1 S.2.1 d_W_trace_84 rfl (lv_at hl 1 rfl) ?_
                refine fk_ia S E G 76 (by decide) (congrArg (fk_ce g ov 76 (M2 76)) kd_76) k rfl (by omega) (by decide) (v := M2 76 k) rfl d_W_trace_85 ?_
                refine lv_ior S.1 S.2.1 d_W_trace_86 ?_
                refine fk_is S E G 76 (by decide) (fun r => congrArg (fk_ce g ov 76 r) kd_76) i rfl (by omega) (by decide) d_W_trace_87 (fun H locs G => ?_)
                obtain ⟨M6, hM6⟩ : ∃ z : fk_M, z = va_up M2 76 (upd (M2 76) i ((M2 76 i) ||| (M2 76 k))) := ⟨_, rfl⟩
                rw [← hM6] at G
                refine lv_iinc (k := 0) (v := nI (i + 1)) (lv' := [(2, .int (nI (i + 1))), (1, .int (nI k)), (0, .ref (fk_a g 75))]) S.1 S.2.1 d_W_trace_88 hl rfl (nI_1 i) (by decide) rfl (fun ls hl => ?_)
                refine lv_goto (tgt := 53) S.1 S.2.1 d_W_trace_91 rfl ?_
                refine ih2 (i + 1) H locs ls (by omega) ?_ hl
                rw [show fk_t3 (fk_t2 n (fk_t1 ck P sz bb M n) k) k (i + 1) = M6 from ?_]
                · exact G
                · rw [hM6]
                  rw [hM2] at hf ⊢
                  exact if_pos hf
        refine lv_iconst (v := nI 0) S.1 S.2.1 d_W_trace_51 (by decide +kernel) ?_
        refine lv_istore_n (lv' := [(2, .int (nI 0)), (1, .int (nI k)), (0, .ref (fk_a g 75))]) S.1 S.2.1 d_W_trace_52 rfl hl (by decide) rfl (fun ls hl => ?_)
        exact inner n 0 H locs ls (by omega) G hl
  have loop1 : ∀ (d : Nat) (i : Nat) (H : Heap) (locs : List Loc) (ls : Array Slot), i + d = n → fk_H g ov (fk_t1 ck P sz bb M i) s H locs → lv_has ls 3 [(1, .int (nI i)), (0, .ref (fk_a g 75))] → W p l e (fk_rm (4)) s m args below meth c H locs 0 0 (MQ below (va_Qv (fun (_ : Unit) => True) (fun _ t => fk_Wd g ov (fk_tr n ck P sz bb M) t) (fk_A g)) args s 0 0 (fk_A g)) (F0 m 2 ls []) := by
    intro d
    induction d with
    | zero =>
      intro i H locs ls hv0 G hl
      obtain ⟨M1, hM1⟩ : ∃ z : fk_M, z = fk_t1 ck P sz bb M i := ⟨_, rfl⟩
      rw [← hM1] at G
      have hs1 : fk_Sh n ck P sz bb M1 := by rw [hM1]; exact hs.to (fk_O.Eq (by omega) (fk_t1_O ck P sz bb M i))
      refine lv_iload_n S.1 S.2.1 d_W_trace_2 rfl (lv_at hl 0 rfl) ?_
      refine lv_aload_n S.1 S.2.1 d_W_trace_3 rfl (lv_at hl 1 rfl) ?_
      refine fk_gf S E G 75 (by decide) (v := .ref (fk_a g 1)) (congrArg (fk_ce g ov 75 (M1 75)) kd_75) rfl 0 (by decide) rfl i_131 rfl d_W_trace_4 ?_
      refine fk_gn S E G 1 (by decide) (v := .int (M1 1 1)) (congrArg (fk_ce g ov 1 (M1 1)) kd_1) rfl 1 (by decide) rfl (List.mem_of_getElem? (i := 38) rfl) rfl d_W_trace_7 ?_
      rw [hs1.1]
      refine fk_cge (tgt := 38) S.1 S.2.1 (by omega) (by omega) d_W_trace_10 rfl (fun hc7 => ?_) (fun hc7 => ?_)
      · refine lv_iconst (v := nI 0) S.1 S.2.1 d_W_trace_38 (by decide +kernel) ?_
        refine lv_istore_n (lv' := [(1, .int (nI 0)), (0, .ref (fk_a g 75))]) S.1 S.2.1 d_W_trace_39 rfl hl (by decide) rfl (fun ls hl => ?_)
        have hin : i = n := by omega
        subst hin
        rw [hM1] at G
        exact loop2 i 0 H locs ls (by omega) G hl
      · exact absurd hv0 (by omega)
    | succ d ih =>
      intro i H locs ls hv0 G hl
      obtain ⟨M1, hM1⟩ : ∃ z : fk_M, z = fk_t1 ck P sz bb M i := ⟨_, rfl⟩
      rw [← hM1] at G
      have hs1 : fk_Sh n ck P sz bb M1 := by rw [hM1]; exact hs.to (fk_O.Eq (by omega) (fk_t1_O ck P sz bb M i))
      refine lv_iload_n S.1 S.2.1 d_W_trace_2 rfl (lv_at hl 0 rfl) ?_
      refine lv_aload_n S.1 S.2.1 d_W_trace_3 rfl (lv_at hl 1 rfl) ?_
      refine fk_gf S E G 75 (by decide) (v := .ref (fk_a g 1)) (congrArg (fk_ce g ov 75 (M1 75)) kd_75) rfl 0 (by decide) rfl i_131 rfl d_W_trace_4 ?_
      refine fk_gn S E G 1 (by decide) (v := .int (M1 1 1)) (congrArg (fk_ce g ov 1 (M1 1)) kd_1) rfl 1 (by decide) rfl (List.mem_of_getElem? (i := 38) rfl) rfl d_W_trace_7 ?_
      rw [hs1.1]
      refine fk_cge (tgt := 38) S.1 S.2.1 (by omega) (by omega) d_W_trace_10 rfl (fun hc8 => ?_) (fun hc8 => ?_)
      · exact absurd hv0 (by omega)
      · refine lv_aload_n S.1 S.2.1 d_W_trace_13 rfl (lv_at hl 1 rfl) ?_
        refine fk_gf S E G 75 (by decide) (v := .ref (fk_a g 76)) (congrArg (fk_ce g ov 75 (M1 75)) kd_75) rfl 1 (by decide) rfl i_132 rfl d_W_trace_14 ?_
        refine lv_iload_n S.1 S.2.1 d_W_trace_17 rfl (lv_at hl 0 rfl) ?_
        refine lv_aload_n S.1 S.2.1 d_W_trace_18 rfl (lv_at hl 1 rfl) ?_
        refine lv_aload_n S.1 S.2.1 d_W_trace_19 rfl (lv_at hl 1 rfl) ?_
        refine fk_gf S E G 75 (by decide) (v := .ref (fk_a g 1)) (congrArg (fk_ce g ov 75 (M1 75)) kd_75) rfl 0 (by decide) rfl i_131 rfl d_W_trace_20 ?_
        refine fk_gn S E G 1 (by decide) (v := .ref (fk_a g 2)) (congrArg (fk_ce g ov 1 (M1 1)) kd_1) rfl 0 (by decide) rfl (List.mem_of_getElem? (i := 34) rfl) rfl d_W_trace_23 ?_
        refine lv_iload_n S.1 S.2.1 d_W_trace_26 rfl (lv_at hl 0 rfl) ?_
        refine fk_rw S E G i rfl (by omega) d_W_trace_27 ?_
        have hnd : fk_nd ck P sz bb M1 i = fk_nd ck P sz bb M i := by
          unfold fk_nd
          rw [hM1, fk_t1_O ck P sz bb M i (P i + 2) (by rcases hP i (by omega) with h9 | ⟨t, h8, h9⟩ <;> omega)]
        refine fk_cvi S E G 75 (by decide) (congrArg (fk_ce g ov 75 (M1 75)) kd_75) rfl (rest := [.int (nI i), .ref (fk_a g 76)]) (hnd ▸ c_W_directWaits l g ov M1 n ck P sz bb hs1 i (by omega)) m_W_directWaits i_240 ⟨rfl, rfl⟩ ⟨by decide, by decide⟩ rfl rfl hl.1 (Nat.le_of_ble_eq_true rfl) d_W_trace_28 ⟨Nat.zero_le _, Nat.zero_le _⟩ (fun H locs G => ?_)
        refine fk_is S E G 76 (by decide) (fun r => congrArg (fk_ce g ov 76 r) kd_76) i rfl (by omega) (by decide) d_W_trace_31 (fun H locs G => ?_)
        obtain ⟨M9, hM9⟩ : ∃ z : fk_M, z = va_up M1 76 (upd (M1 76) i (fk_nd ck P sz bb M i)) := ⟨_, rfl⟩
        rw [← hM9] at G
        refine lv_iinc (k := 0) (v := nI (i + 1)) (lv' := [(1, .int (nI (i + 1))), (0, .ref (fk_a g 75))]) S.1 S.2.1 d_W_trace_32 hl rfl (nI_1 i) (by decide) rfl (fun ls hl => ?_)
        refine lv_goto (tgt := 2) S.1 S.2.1 d_W_trace_35 rfl ?_
        refine ih (i + 1) H locs ls (by omega) ?_ hl
        rw [hM9, hM1] at G
        exact G
  refine lv_iconst (v := nI 0) S.1 S.2.1 d_W_trace_0 (by decide +kernel) ?_
  refine lv_istore_n (lv' := [(1, .int (nI 0)), (0, .ref (fk_a g 75))]) S.1 S.2.1 d_W_trace_1 rfl hl (by decide) rfl (fun ls hl => ?_)
  exact loop1 n 0 s.heap [] ls (by omega) G hl
end
section
/-! Waiting.arrange; Checker: types, clocks, beginnings. Written by wip/gen/s_check.py. -/
theorem d_W_arrange_0 : decode b_W_arrange 0 = .ok (.aload_n 0, 1) := by decide +kernel
theorem d_W_arrange_1 : decode b_W_arrange 1 = .ok (.iconst 0, 1) := by decide +kernel
theorem d_W_arrange_2 : decode b_W_arrange 2 = .ok (.putfield 77, 3) := by decide +kernel
theorem d_W_arrange_5 : decode b_W_arrange 5 = .ok (.iconst 0, 1) := by decide +kernel
theorem d_W_arrange_6 : decode b_W_arrange 6 = .ok (.istore_n 1, 1) := by decide +kernel
theorem d_W_arrange_7 : decode b_W_arrange 7 = .ok (.iconst 0, 1) := by decide +kernel
theorem d_W_arrange_8 : decode b_W_arrange 8 = .ok (.istore_n 2, 1) := by decide +kernel
theorem d_W_arrange_9 : decode b_W_arrange 9 = .ok (.iload_n 2, 1) := by decide +kernel
theorem d_W_arrange_10 : decode b_W_arrange 10 = .ok (.aload_n 0, 1) := by decide +kernel
theorem d_W_arrange_11 : decode b_W_arrange 11 = .ok (.getfield 21, 3) := by decide +kernel
theorem d_W_arrange_14 : decode b_W_arrange 14 = .ok (.getfield 25, 3) := by decide +kernel
theorem d_W_arrange_17 : decode b_W_arrange 17 = .ok (.if_icmp .ge 82, 3) := by decide +kernel
theorem d_W_arrange_20 : decode b_W_arrange 20 = .ok (.aload_n 0, 1) := by decide +kernel
theorem d_W_arrange_21 : decode b_W_arrange 21 = .ok (.iconst 1, 1) := by decide +kernel
theorem d_W_arrange_22 : decode b_W_arrange 22 = .ok (.iload_n 1, 1) := by decide +kernel
theorem d_W_arrange_23 : decode b_W_arrange 23 = .ok (.invokevirtual 80, 3) := by decide +kernel
theorem d_W_arrange_26 : decode b_W_arrange 26 = .ok (.istore_n 3, 1) := by decide +kernel
theorem d_W_arrange_27 : decode b_W_arrange 27 = .ok (.iload_n 3, 1) := by decide +kernel
theorem d_W_arrange_28 : decode b_W_arrange 28 = .ok (.iconst (-1), 1) := by decide +kernel
theorem d_W_arrange_29 : decode b_W_arrange 29 = .ok (.if_icmp .ne 10, 3) := by decide +kernel
theorem d_W_arrange_32 : decode b_W_arrange 32 = .ok (.aload_n 0, 1) := by decide +kernel
theorem d_W_arrange_33 : decode b_W_arrange 33 = .ok (.iconst 0, 1) := by decide +kernel
theorem d_W_arrange_34 : decode b_W_arrange 34 = .ok (.iload_n 1, 1) := by decide +kernel
theorem d_W_arrange_35 : decode b_W_arrange 35 = .ok (.invokevirtual 80, 3) := by decide +kernel
theorem d_W_arrange_38 : decode b_W_arrange 38 = .ok (.istore_n 3, 1) := by decide +kernel
theorem d_W_arrange_39 : decode b_W_arrange 39 = .ok (.iload_n 3, 1) := by decide +kernel
theorem d_W_arrange_40 : decode b_W_arrange 40 = .ok (.iconst (-1), 1) := by decide +kernel
theorem d_W_arrange_41 : decode b_W_arrange 41 = .ok (.if_icmp .ne 4, 3) := by decide +kernel
theorem d_W_arrange_44 : decode b_W_arrange 44 = .ok (.return_, 1) := by decide +kernel
theorem d_W_arrange_45 : decode b_W_arrange 45 = .ok (.aload_n 0, 1) := by decide +kernel
theorem d_W_arrange_46 : decode b_W_arrange 46 = .ok (.getfield 18, 3) := by decide +kernel
theorem d_W_arrange_49 : decode b_W_arrange 49 = .ok (.iload_n 2, 1) := by decide +kernel
theorem d_W_arrange_50 : decode b_W_arrange 50 = .ok (.iload_n 3, 1) := by decide +kernel
theorem d_W_arrange_51 : decode b_W_arrange 51 = .ok (.iastore, 1) := by decide +kernel
theorem d_W_arrange_52 : decode b_W_arrange 52 = .ok (.iload_n 1, 1) := by decide +kernel
theorem d_W_arrange_53 : decode b_W_arrange 53 = .ok (.iconst 1, 1) := by decide +kernel
theorem d_W_arrange_54 : decode b_W_arrange 54 = .ok (.iload_n 3, 1) := by decide +kernel
theorem d_W_arrange_55 : decode b_W_arrange 55 = .ok (.ishl, 1) := by decide +kernel
theorem d_W_arrange_56 : decode b_W_arrange 56 = .ok (.ior, 1) := by decide +kernel
theorem d_W_arrange_57 : decode b_W_arrange 57 = .ok (.istore_n 1, 1) := by decide +kernel
theorem d_W_arrange_58 : decode b_W_arrange 58 = .ok (.aload_n 0, 1) := by decide +kernel
theorem d_W_arrange_59 : decode b_W_arrange 59 = .ok (.getfield 21, 3) := by decide +kernel
theorem d_W_arrange_62 : decode b_W_arrange 62 = .ok (.getfield 31, 3) := by decide +kernel
theorem d_W_arrange_65 : decode b_W_arrange 65 = .ok (.iload_n 3, 1) := by decide +kernel
theorem d_W_arrange_66 : decode b_W_arrange 66 = .ok (.aaload, 1) := by decide +kernel
theorem d_W_arrange_67 : decode b_W_arrange 67 = .ok (.getfield 84, 3) := by decide +kernel
theorem d_W_arrange_70 : decode b_W_arrange 70 = .ok (.ifCond .ne 23, 3) := by decide +kernel
theorem d_W_arrange_73 : decode b_W_arrange 73 = .ok (.aload_n 0, 1) := by decide +kernel
theorem d_W_arrange_74 : decode b_W_arrange 74 = .ok (.getfield 15, 3) := by decide +kernel
theorem d_W_arrange_77 : decode b_W_arrange 77 = .ok (.aload_n 0, 1) := by decide +kernel
theorem d_W_arrange_78 : decode b_W_arrange 78 = .ok (.getfield 77, 3) := by decide +kernel
theorem d_W_arrange_81 : decode b_W_arrange 81 = .ok (.iload_n 3, 1) := by decide +kernel
theorem d_W_arrange_82 : decode b_W_arrange 82 = .ok (.iastore, 1) := by decide +kernel
theorem d_W_arrange_83 : decode b_W_arrange 83 = .ok (.aload_n 0, 1) := by decide +kernel
theorem d_W_arrange_84 : decode b_W_arrange 84 = .ok (.dup, 1) := by decide +kernel
theorem d_W_arrange_85 : decode b_W_arrange 85 = .ok (.getfield 77, 3) := by decide +kernel
theorem d_W_arrange_88 : decode b_W_arrange 88 = .ok (.iconst 1, 1) := by decide +kernel
theorem d_W_arrange_89 : decode b_W_arrange 89 = .ok (.iadd, 1) := by decide +kernel
theorem d_W_arrange_90 : decode b_W_arrange 90 = .ok (.putfield 77, 3) := by decide +kernel
theorem d_W_arrange_93 : decode b_W_arrange 93 = .ok (.iinc 2 1, 3) := by decide +kernel
theorem d_W_arrange_96 : decode b_W_arrange 96 = .ok (.goto (-87), 3) := by decide +kernel
theorem d_W_arrange_99 : decode b_W_arrange 99 = .ok (.return_, 1) := by decide +kernel
theorem m_W_arrange : fk_MI y_W_arrange b_W_arrange 4 none 0 := ⟨i_339, i_338, fk_mp (q := (y_W_arrange, 5)) (by decide +kernel), i_5, by decide +kernel⟩
set_option maxHeartbeats 4000000 in
set_option maxRecDepth 100000 in
theorem c_W_arrange (l : Launch) (g : fk_G) (ov : Int64) (M : fk_M) (n : Nat) (hn : M 1 1 = nI n) (h12 : n ≤ 12) : fk_CV l y_W_arrange b_W_arrange 4 (fk_rm 1) g ov M (fk_ag n n 0 0 (nI 0) (va_up M 75 (upd (M 75) 3 (nI 0)))) [.ref (fk_a g 75)] := by
  refine fk_ofV rfl (Nat.le_of_ble_eq_true rfl) ?_
  intro p e s m args below meth c ls S hr hlk E G hl
  have hl : lv_has ls 4 [(0, .ref (fk_a g 75))] := hl
  refine lv_aload_n S.1 S.2.1 d_W_arrange_0 rfl (lv_at hl 0 rfl) ?_
  refine lv_iconst (v := nI 0) S.1 S.2.1 d_W_arrange_1 (by decide +kernel) ?_
  refine fk_pf S E G 75 (by decide) (congrArg (fk_ce g ov 75 (M 75)) kd_75) rfl 3 (by decide) rfl i_135 (upd (M 75) 3 (nI 0)) (congrArg (fk_ce g ov 75 (upd (M 75) 3 (nI 0))) kd_75) rfl (ty := (.int)) (by decide +kernel) rfl rfl (Nat.le_of_ble_eq_true rfl) d_W_arrange_2 (fun H locs G => ?_)
  obtain ⟨M1, hM1⟩ : ∃ z : fk_M, z = va_up M 75 (upd (M 75) 3 (nI 0)) := ⟨_, rfl⟩
  rw [← hM1] at G
  refine lv_iconst (v := nI 0) S.1 S.2.1 d_W_arrange_5 (by decide +kernel) ?_
  refine lv_istore_n (lv' := [(1, .int (nI 0)), (0, .ref (fk_a g 75))]) S.1 S.2.1 d_W_arrange_6 rfl hl (by decide) rfl (fun ls hl => ?_)
  refine lv_iconst (v := nI 0) S.1 S.2.1 d_W_arrange_7 (by decide +kernel) ?_
  refine lv_istore_n (lv' := [(2, .int (nI 0)), (1, .int (nI 0)), (0, .ref (fk_a g 75))]) S.1 S.2.1 d_W_arrange_8 rfl hl (by decide) rfl (fun ls hl => ?_)
  have loop : ∀ (d : Nat) (k o : Nat) (pl : Int32) (Mc : fk_M) (H : Heap) (locs : List Loc) (ls : Array Slot), k + d = n → o ≤ k → Mc 1 1 = nI n → Mc 75 3 = nI o → fk_ag n d k o pl Mc = fk_ag n n 0 0 (nI 0) (va_up M 75 (upd (M 75) 3 (nI 0))) → fk_H g ov (Mc) s H locs → lv_has ls 4 [(2, .int (nI k)), (1, .int pl), (0, .ref (fk_a g 75))] → W p l e (fk_rm (1)) s m args below meth c H locs 0 0 (MQ below (va_Qv (fun (_ : Unit) => True) (fun _ t9 => fk_Wd g ov (fk_ag n n 0 0 (nI 0) (va_up M 75 (upd (M 75) 3 (nI 0)))) t9) (fk_A g)) args s 0 0 (fk_A g)) (F0 m 9 ls []) := by
    intro d
    induction d with
    | zero =>
      intro k o pl Mc H locs ls hv0 hv1 hv2 hv3 hv4 G hl
      refine lv_iload_n S.1 S.2.1 d_W_arrange_9 rfl (lv_at hl 0 rfl) ?_
      refine lv_aload_n S.1 S.2.1 d_W_arrange_10 rfl (lv_at hl 2 rfl) ?_
      refine fk_gf S E G 75 (by decide) (v := .ref (fk_a g 1)) (congrArg (fk_ce g ov 75 (Mc 75)) kd_75) rfl 0 (by decide) rfl i_131 rfl d_W_arrange_11 ?_
      refine fk_gn S E G 1 (by decide) (v := .int (Mc 1 1)) (congrArg (fk_ce g ov 1 (Mc 1)) kd_1) rfl 1 (by decide) rfl (List.mem_of_getElem? (i := 38) rfl) rfl d_W_arrange_14 ?_
      rw [hv2]
      refine fk_cge (tgt := 99) S.1 S.2.1 (by omega) (by omega) d_W_arrange_17 rfl (fun hc2 => ?_) (fun hc2 => ?_)
      · exact fk_vret S hr hlk E G hv4 d_W_arrange_99
      · exact absurd hv0 (by omega)
    | succ d ih =>
      intro k o pl Mc H locs ls hv0 hv1 hv2 hv3 hv4 G hl
      refine lv_iload_n S.1 S.2.1 d_W_arrange_9 rfl (lv_at hl 0 rfl) ?_
      refine lv_aload_n S.1 S.2.1 d_W_arrange_10 rfl (lv_at hl 2 rfl) ?_
      refine fk_gf S E G 75 (by decide) (v := .ref (fk_a g 1)) (congrArg (fk_ce g ov 75 (Mc 75)) kd_75) rfl 0 (by decide) rfl i_131 rfl d_W_arrange_11 ?_
      refine fk_gn S E G 1 (by decide) (v := .int (Mc 1 1)) (congrArg (fk_ce g ov 1 (Mc 1)) kd_1) rfl 1 (by decide) rfl (List.mem_of_getElem? (i := 38) rfl) rfl d_W_arrange_14 ?_
      rw [hv2]
      refine fk_cge (tgt := 99) S.1 S.2.1 (by omega) (by omega) d_W_arrange_17 rfl (fun hc3 => ?_) (fun hc3 => ?_)
      · exact absurd hv0 (by omega)
      · have place : ∀ (j : Nat) (H : Heap) (locs : List Loc) (ls : Array Slot), fk_pk Mc n pl = some j → j < n → fk_H g ov Mc s H locs → lv_has ls 4 [(3, .int (nI j)), (2, .int (nI k)), (1, .int pl), (0, .ref (fk_a g 75))] → W p l e (fk_rm (1)) s m args below meth c H locs 0 0 (MQ below (va_Qv (fun (_ : Unit) => True) (fun _ t9 => fk_Wd g ov (fk_ag n n 0 0 (nI 0) (va_up M 75 (upd (M 75) 3 (nI 0)))) t9) (fk_A g)) args s 0 0 (fk_A g)) (F0 m 45 ls []) := by
          intro j H locs ls hj hjn G hl
          refine lv_aload_n S.1 S.2.1 d_W_arrange_45 rfl (lv_at hl 3 rfl) ?_
          refine fk_gf S E G 75 (by decide) (v := .ref (fk_a g 78)) (congrArg (fk_ce g ov 75 (Mc 75)) kd_75) rfl 4 (by decide) rfl i_137 rfl d_W_arrange_46 ?_
          refine lv_iload_n S.1 S.2.1 d_W_arrange_49 rfl (lv_at hl 1 rfl) ?_
          refine lv_iload_n S.1 S.2.1 d_W_arrange_50 rfl (lv_at hl 0 rfl) ?_
          refine fk_is S E G 78 (by decide) (fun r => congrArg (fk_ce g ov 78 r) kd_78) k rfl (by omega) (by decide) d_W_arrange_51 (fun H locs G => ?_)
          obtain ⟨M4, hM4⟩ : ∃ z : fk_M, z = va_up Mc 78 (upd (Mc 78) k (nI j)) := ⟨_, rfl⟩
          rw [← hM4] at G
          have e75 : M4 75 = Mc 75 := by rw [hM4, va_up_ne _ _ (by decide)]
          have e77 : M4 77 = Mc 77 := by rw [hM4, va_up_ne _ _ (by decide)]
          have e1 : M4 1 = Mc 1 := by rw [hM4, va_up_ne _ _ (by decide)]
          have ef : M4 (3 + 6 * j) = Mc (3 + 6 * j) := by rw [hM4, va_up_ne _ _ (by omega)]
          refine lv_iload_n S.1 S.2.1 d_W_arrange_52 rfl (lv_at hl 2 rfl) ?_
          refine lv_iconst (v := nI 1) S.1 S.2.1 d_W_arrange_53 (by decide +kernel) ?_
          refine lv_iload_n S.1 S.2.1 d_W_arrange_54 rfl (lv_at hl 0 rfl) ?_
          refine lv_ishl S.1 S.2.1 d_W_arrange_55 ?_
          refine lv_ior S.1 S.2.1 d_W_arrange_56 ?_
          refine lv_istore_n (lv' := [(1, .int (pl ||| ((nI 1) <<< (nI j &&& 31)))), (3, .int (nI j)), (2, .int (nI k)), (0, .ref (fk_a g 75))]) S.1 S.2.1 d_W_arrange_57 rfl hl (by decide) rfl (fun ls hl => ?_)
          refine lv_aload_n S.1 S.2.1 d_W_arrange_58 rfl (lv_at hl 3 rfl) ?_
          refine fk_gf S E G 75 (by decide) (v := .ref (fk_a g 1)) (congrArg (fk_ce g ov 75 (M4 75)) kd_75) rfl 0 (by decide) rfl i_131 rfl d_W_arrange_59 ?_
          refine fk_gn S E G 1 (by decide) (v := .ref (fk_a g 2)) (congrArg (fk_ce g ov 1 (M4 1)) kd_1) rfl 0 (by decide) rfl (List.mem_of_getElem? (i := 34) rfl) rfl d_W_arrange_62 ?_
          refine lv_iload_n S.1 S.2.1 d_W_arrange_65 rfl (lv_at hl 1 rfl) ?_
          refine fk_rw S E G j rfl (by omega) d_W_arrange_66 ?_
          refine fk_gn S E G (3 + 6 * j) (by omega) (v := .int (M4 (3 + 6 * j) 2)) (congrArg (fk_ce g ov (3 + 6 * j) (M4 (3 + 6 * j))) (fk_kf (show j < 12 by omega))) rfl 2 (by decide) rfl (List.mem_of_getElem? (i := 23) rfl) rfl d_W_arrange_67 ?_
          rw [ef]
          refine lv_if_ne (tgt := 93) S.1 S.2.1 d_W_arrange_70 rfl (fun hc5 => ?_) (fun hc5 => ?_)
          · refine lv_iinc (k := 2) (v := nI (k + 1)) (lv' := [(2, .int (nI (k + 1))), (1, .int (pl ||| ((nI 1) <<< (nI j &&& 31)))), (3, .int (nI j)), (0, .ref (fk_a g 75))]) S.1 S.2.1 d_W_arrange_93 hl rfl (nI_1 k) (by decide) rfl (fun ls hl => ?_)
            refine lv_goto (tgt := 9) S.1 S.2.1 d_W_arrange_96 rfl ?_
            exact ih (k + 1) o _ M4 H locs ls (by omega) (by omega) (by rw [e1]; exact hv2) (by rw [e75]; exact hv3) (by rw [hM4]; exact (by rw [← hv4]; show _ = (match fk_pk Mc n pl with | none => Mc | some j => if Mc (3 + 6 * j) 2 = 0 then _ else _); rw [hj]; exact (if_neg hc5).symm)) G (lv_sub hl [0, 1, 3] rfl)
          · refine lv_aload_n S.1 S.2.1 d_W_arrange_73 rfl (lv_at hl 3 rfl) ?_
            refine fk_gf S E G 75 (by decide) (v := .ref (fk_a g 77)) (congrArg (fk_ce g ov 75 (M4 75)) kd_75) rfl 2 (by decide) rfl i_133 rfl d_W_arrange_74 ?_
            refine lv_aload_n S.1 S.2.1 d_W_arrange_77 rfl (lv_at hl 3 rfl) ?_
            refine fk_gf S E G 75 (by decide) (v := .int (M4 75 3)) (congrArg (fk_ce g ov 75 (M4 75)) kd_75) rfl 3 (by decide) rfl i_135 rfl d_W_arrange_78 ?_
            rw [e75, hv3]
            refine lv_iload_n S.1 S.2.1 d_W_arrange_81 rfl (lv_at hl 1 rfl) ?_
            refine fk_is S E G 77 (by decide) (fun r => congrArg (fk_ce g ov 77 r) kd_77) o rfl (by omega) (by decide) d_W_arrange_82 (fun H locs G => ?_)
            obtain ⟨M6, hM6⟩ : ∃ z : fk_M, z = va_up M4 77 (upd (M4 77) o (nI j)) := ⟨_, rfl⟩
            rw [← hM6] at G
            have f75 : M6 75 = Mc 75 := by rw [hM6, va_up_ne _ _ (by decide), e75]
            have f1 : M6 1 = Mc 1 := by rw [hM6, va_up_ne _ _ (by decide), e1]
            refine lv_aload_n S.1 S.2.1 d_W_arrange_83 rfl (lv_at hl 3 rfl) ?_
            refine lv_dup S.1 S.2.1 d_W_arrange_84 rfl ?_
            refine fk_gf S E G 75 (by decide) (v := .int (M6 75 3)) (congrArg (fk_ce g ov 75 (M6 75)) kd_75) rfl 3 (by decide) rfl i_135 rfl d_W_arrange_85 ?_
            rw [f75, hv3]
            refine lv_iconst (v := nI 1) S.1 S.2.1 d_W_arrange_88 (by decide +kernel) ?_
            refine fk_iadd S.1 S.2.1 d_W_arrange_89 ?_
            refine fk_pf S E G 75 (by decide) (congrArg (fk_ce g ov 75 (M6 75)) kd_75) rfl 3 (by decide) rfl i_135 (upd (M6 75) 3 (nI (o + 1))) (congrArg (fk_ce g ov 75 (upd (M6 75) 3 (nI (o + 1)))) kd_75) rfl (ty := (.int)) (by decide +kernel) rfl rfl (Nat.le_of_ble_eq_true rfl) d_W_arrange_90 (fun H locs G => ?_)
            obtain ⟨M7, hM7⟩ : ∃ z : fk_M, z = va_up M6 75 (upd (M6 75) 3 (nI (o + 1))) := ⟨_, rfl⟩
            rw [← hM7] at G
            refine lv_iinc (k := 2) (v := nI (k + 1)) (lv' := [(2, .int (nI (k + 1))), (1, .int (pl ||| ((nI 1) <<< (nI j &&& 31)))), (3, .int (nI j)), (0, .ref (fk_a g 75))]) S.1 S.2.1 d_W_arrange_93 hl rfl (nI_1 k) (by decide) rfl (fun ls hl => ?_)
            refine lv_goto (tgt := 9) S.1 S.2.1 d_W_arrange_96 rfl ?_
            exact ih (k + 1) (o + 1) _ M7 H locs ls (by omega) (by omega) (by rw [hM7, va_up_ne _ _ (by decide), f1]; exact hv2) (by rw [hM7, va_up_self, pk_us]) (by rw [hM7, f75, hM6, e77, hM4]; exact (by rw [← hv4]; show _ = (match fk_pk Mc n pl with | none => Mc | some j => if Mc (3 + 6 * j) 2 = 0 then _ else _); rw [hj]; exact (if_pos hc5).symm)) G (lv_sub hl [0, 1, 3] rfl)
        refine lv_aload_n S.1 S.2.1 d_W_arrange_20 rfl (lv_at hl 2 rfl) ?_
        refine lv_iconst (v := nI 1) S.1 S.2.1 d_W_arrange_21 (by decide +kernel) ?_
        refine lv_iload_n S.1 S.2.1 d_W_arrange_22 rfl (lv_at hl 1 rfl) ?_
        cases hr1 : fk_lr Mc 1 pl n 0 with
        | some j =>
          have hjn := fk_lr_lt _ _ _ hr1
          have hpk : fk_pk Mc n pl = some j := by unfold fk_pk; rw [hr1]
          refine fk_cvi S E G 75 (by decide) (congrArg (fk_ce g ov 75 (Mc 75)) kd_75) rfl (rest := []) (show fk_CI _ _ _ _ _ _ _ _ _ _ _ (nI j) by have h9 := (c_W_lowestReady l g ov Mc n hv2 h12 1 pl); rw [hr1] at h9; exact h9) m_W_lowestReady i_340 ⟨rfl, rfl⟩ ⟨by decide, by decide⟩ rfl rfl hl.1 (Nat.le_of_ble_eq_true rfl) d_W_arrange_23 ⟨Nat.zero_le _, Nat.zero_le _⟩ (fun H locs G => ?_)
          refine lv_istore_n (lv' := [(3, .int (nI j)), (2, .int (nI k)), (1, .int pl), (0, .ref (fk_a g 75))]) S.1 S.2.1 d_W_arrange_26 rfl hl (by decide) rfl (fun ls hl => ?_)
          refine lv_iload_n S.1 S.2.1 d_W_arrange_27 rfl (lv_at hl 0 rfl) ?_
          refine lv_iconst (v := -1) S.1 S.2.1 d_W_arrange_28 (by decide +kernel) ?_
          refine lv_icmp_ne (tgt := 39) S.1 S.2.1 d_W_arrange_29 rfl (fun hc8 => ?_) (fun hc8 => ?_)
          · refine lv_iload_n S.1 S.2.1 d_W_arrange_39 rfl (lv_at hl 0 rfl) ?_
            refine lv_iconst (v := -1) S.1 S.2.1 d_W_arrange_40 (by decide +kernel) ?_
            refine lv_icmp_ne (tgt := 45) S.1 S.2.1 d_W_arrange_41 rfl (fun hc9 => ?_) (fun hc9 => ?_)
            · exact place j H locs ls hpk (by omega) G hl
            · exact absurd hc9 (fk_nm1 (by omega))
          · exact absurd hc8 (fk_nm1 (by omega))
        | none =>
          refine fk_cvi S E G 75 (by decide) (congrArg (fk_ce g ov 75 (Mc 75)) kd_75) rfl (rest := []) (show fk_CI _ _ _ _ _ _ _ _ _ _ _ (-1) by have h9 := (c_W_lowestReady l g ov Mc n hv2 h12 1 pl); rw [hr1] at h9; exact h9) m_W_lowestReady i_340 ⟨rfl, rfl⟩ ⟨by decide, by decide⟩ rfl rfl hl.1 (Nat.le_of_ble_eq_true rfl) d_W_arrange_23 ⟨Nat.zero_le _, Nat.zero_le _⟩ (fun H locs G => ?_)
          refine lv_istore_n (lv' := [(3, .int (-1)), (2, .int (nI k)), (1, .int pl), (0, .ref (fk_a g 75))]) S.1 S.2.1 d_W_arrange_26 rfl hl (by decide) rfl (fun ls hl => ?_)
          refine lv_iload_n S.1 S.2.1 d_W_arrange_27 rfl (lv_at hl 0 rfl) ?_
          refine lv_iconst (v := -1) S.1 S.2.1 d_W_arrange_28 (by decide +kernel) ?_
          refine lv_icmp_ne (tgt := 39) S.1 S.2.1 d_W_arrange_29 rfl (fun hc10 => ?_) (fun hc10 => ?_)
          · exact absurd rfl hc10
          · refine lv_aload_n S.1 S.2.1 d_W_arrange_32 rfl (lv_at hl 3 rfl) ?_
            refine lv_iconst (v := nI 0) S.1 S.2.1 d_W_arrange_33 (by decide +kernel) ?_
            refine lv_iload_n S.1 S.2.1 d_W_arrange_34 rfl (lv_at hl 2 rfl) ?_
            cases hr0 : fk_lr Mc 0 pl n 0 with
            | some j =>
              have hjn := fk_lr_lt _ _ _ hr0
              have hpk : fk_pk Mc n pl = some j := by unfold fk_pk; rw [hr1]; exact hr0
              refine fk_cvi S E G 75 (by decide) (congrArg (fk_ce g ov 75 (Mc 75)) kd_75) rfl (rest := []) (show fk_CI _ _ _ _ _ _ _ _ _ _ _ (nI j) by have h9 := (c_W_lowestReady l g ov Mc n hv2 h12 0 pl); rw [hr0] at h9; exact h9) m_W_lowestReady i_340 ⟨rfl, rfl⟩ ⟨by decide, by decide⟩ rfl rfl hl.1 (Nat.le_of_ble_eq_true rfl) d_W_arrange_35 ⟨Nat.zero_le _, Nat.zero_le _⟩ (fun H locs G => ?_)
              refine lv_istore_n (lv' := [(3, .int (nI j)), (2, .int (nI k)), (1, .int pl), (0, .ref (fk_a g 75))]) S.1 S.2.1 d_W_arrange_38 rfl hl (by decide) rfl (fun ls hl => ?_)
              refine lv_iload_n S.1 S.2.1 d_W_arrange_39 rfl (lv_at hl 0 rfl) ?_
              refine lv_iconst (v := -1) S.1 S.2.1 d_W_arrange_40 (by decide +kernel) ?_
              refine lv_icmp_ne (tgt := 45) S.1 S.2.1 d_W_arrange_41 rfl (fun hc11 => ?_) (fun hc11 => ?_)
              · exact place j H locs ls hpk (by omega) G hl
              · exact absurd hc11 (fk_nm1 (by omega))
            | none =>
              have hpk : fk_pk Mc n pl = none := by unfold fk_pk; rw [hr1]; exact hr0
              refine fk_cvi S E G 75 (by decide) (congrArg (fk_ce g ov 75 (Mc 75)) kd_75) rfl (rest := []) (show fk_CI _ _ _ _ _ _ _ _ _ _ _ (-1) by have h9 := (c_W_lowestReady l g ov Mc n hv2 h12 0 pl); rw [hr0] at h9; exact h9) m_W_lowestReady i_340 ⟨rfl, rfl⟩ ⟨by decide, by decide⟩ rfl rfl hl.1 (Nat.le_of_ble_eq_true rfl) d_W_arrange_35 ⟨Nat.zero_le _, Nat.zero_le _⟩ (fun H locs G => ?_)
              refine lv_istore_n (lv' := [(3, .int (-1)), (2, .int (nI k)), (1, .int pl), (0, .ref (fk_a g 75))]) S.1 S.2.1 d_W_arrange_38 rfl hl (by decide) rfl (fun ls hl => ?_)
              refine lv_iload_n S.1 S.2.1 d_W_arrange_39 rfl (lv_at hl 0 rfl) ?_
              refine lv_iconst (v := -1) S.1 S.2.1 d_W_arrange_40 (by decide +kernel) ?_
              refine lv_icmp_ne (tgt := 45) S.1 S.2.1 d_W_arrange_41 rfl (fun hc12 => ?_) (fun hc12 => ?_)
              · exact absurd rfl hc12
              · exact fk_vret S hr hlk E G (by rw [← hv4]; show _ = (match fk_pk Mc n pl with | none => Mc | some j => if Mc (3 + 6 * j) 2 = 0 then _ else _); rw [hpk]) d_W_arrange_44
  exact loop n 0 0 (nI 0) M1 H locs ls (by omega) (by omega) (by rw [hM1, va_up_ne _ _ (by decide)]; exact hn) (by rw [hM1, va_up_self, pk_us]) (by rw [hM1]) G hl
theorem fk_Xr {x t : Nat} (hX : fk_X x) (ht : t ≤ 4) : x + t < 75 ∨ (84 ≤ x + t ∧ x + t < 89) := by
  rcases hX with h9 | ⟨z, h8, h9⟩ <;> omega
def fk_fg (M : fk_M) : fk_M := va_up M 79 (upd (upd (upd (M 79) 4 (nI 0)) 5 (-1)) 6 (-1))
def fk_ty1 (M : fk_M) (w : Nat) : Nat := (decide (¬ M (3 + 6 * w) 1 = 0)).toNat
def fk_rt (k : Nat) : Nat := if k = 1 ∨ k = 2 ∨ k = 4 ∨ (8 < k ∧ k < 13) then 1 else if k = 3 ∨ 12 < k then 2 else 0
def fk_pt (k : Nat) : Nat := if k = 4 ∨ k = 11 ∨ k = 12 then 1 else if k < 4 ∨ 12 < k then 2 else 0
theorem fk_tv2 : ∀ k, k < 19 → (fk_tv 2).getD k 0 = nI (fk_rt k) := by decide +kernel
theorem fk_tv3 : ∀ k, k < 19 → (fk_tv 3).getD k 0 = nI (fk_pt k) := by decide +kernel
theorem fk_rt_le (k : Nat) : fk_rt k ≤ 2 := by unfold fk_rt; split <;> (try split) <;> omega
theorem fk_pt_le (k : Nat) : fk_pt k ≤ 2 := by unfold fk_pt; split <;> (try split) <;> omega
/-- the node is of the type v -/
def fk_it (M : fk_M) (k w : Nat) (v : Int32) : Bool := if k = 3 then decide (nI (fk_ty1 M w) = v) else if 15 < k then decide (fk_ty1 M w = 1) else decide (fk_rt k = 2 ∨ nI (fk_rt k) = v)
theorem fk_ty1_le (M : fk_M) (w : Nat) : fk_ty1 M w < 2 ^ 31 := fk_bl _
/-- what is wanted of the parts -/
def fk_wt (E : Nat → Int32) (k : Nat) (v : Int32) : Nat → Nat → Nat → (Nat → Int32) → Nat → Int32
  | 0, _, _, A => A
  | d + 1, q, y, A => fk_wt E k v d (q + 1) (E y).toNatClampNeg (upd A y (if k = 13 ∧ q = 0 then nI 1 else v))
def fk_wv (k : Nat) (v : Int32) : Int32 := if fk_pt k = 2 then v else nI (fk_pt k)
def fk_tf (M : fk_M) (b : Nat → Nat) (E : Nat → Int32) : Nat → Nat → (Nat → Int32) → Option Nat × (Nat → Int32)
  | 0, _, A => (none, A)
  | d + 1, i, A => if ¬ 0 < E i then fk_tf M b E d (i + 1) A else if fk_it M (b i) (b (i + 1)) (A i) = true then fk_tf M b E d (i + 1) (fk_wt E (b i) (fk_wv (b i) (A i)) (fk_ar (b i)) 0 (i + fk_hd (b i)) A) else (some i, A)
theorem fk_tf_S (M : fk_M) (b : Nat → Nat) (E : Nat → Int32) (d i : Nat) (A : Nat → Int32) : fk_tf M b E (d + 1) i A = if ¬ 0 < E i then fk_tf M b E d (i + 1) A else if fk_it M (b i) (b (i + 1)) (A i) = true then fk_tf M b E d (i + 1) (fk_wt E (b i) (fk_wv (b i) (A i)) (fk_ar (b i)) 0 (i + fk_hd (b i)) A) else (some i, A) := rfl
theorem d_K_forget_0 : decode b_K_forget 0 = .ok (.aload_n 0, 1) := by decide +kernel
theorem d_K_forget_1 : decode b_K_forget 1 = .ok (.iconst 0, 1) := by decide +kernel
theorem d_K_forget_2 : decode b_K_forget 2 = .ok (.putfield 34, 3) := by decide +kernel
theorem d_K_forget_5 : decode b_K_forget 5 = .ok (.aload_n 0, 1) := by decide +kernel
theorem d_K_forget_6 : decode b_K_forget 6 = .ok (.iconst (-1), 1) := by decide +kernel
theorem d_K_forget_7 : decode b_K_forget 7 = .ok (.putfield 19, 3) := by decide +kernel
theorem d_K_forget_10 : decode b_K_forget 10 = .ok (.aload_n 0, 1) := by decide +kernel
theorem d_K_forget_11 : decode b_K_forget 11 = .ok (.iconst (-1), 1) := by decide +kernel
theorem d_K_forget_12 : decode b_K_forget 12 = .ok (.putfield 23, 3) := by decide +kernel
theorem d_K_forget_15 : decode b_K_forget 15 = .ok (.return_, 1) := by decide +kernel
theorem m_K_forget : fk_MI y_K_forget b_K_forget 1 none 0 := ⟨i_235, i_234, fk_mp (q := (y_K_forget, 7)) (by decide +kernel), i_6, by decide +kernel⟩
set_option maxHeartbeats 4000000 in
set_option maxRecDepth 100000 in
theorem c_K_forget (l : Launch) (g : fk_G) (ov : Int64) (M : fk_M)  : fk_CV l y_K_forget b_K_forget 1 (fk_rm 0) g ov M (fk_fg M) [.ref (fk_a g 79)] := by
  refine fk_ofV rfl (Nat.le_of_ble_eq_true rfl) ?_
  intro p e s m args below meth c ls S hr hlk E G hl
  have hl : lv_has ls 1 [(0, .ref (fk_a g 79))] := hl
  refine lv_aload_n S.1 S.2.1 d_K_forget_0 rfl (lv_at hl 0 rfl) ?_
  refine lv_iconst (v := nI 0) S.1 S.2.1 d_K_forget_1 (by decide +kernel) ?_
  refine fk_pf S E G 79 (by decide) (congrArg (fk_ce g ov 79 (M 79)) kd_79) rfl 4 (by decide) rfl i_160 (upd (M 79) 4 (nI 0)) (congrArg (fk_ce g ov 79 (upd (M 79) 4 (nI 0))) kd_79) rfl (ty := (.boolean)) (by decide +kernel) (fk_nb (Or.inl nI_0)) (fk_fb (Or.inl nI_0)) (Nat.le_of_ble_eq_true rfl) d_K_forget_2 (fun H locs G => ?_)
  obtain ⟨M1, hM1⟩ : ∃ z : fk_M, z = va_up M 79 (upd (M 79) 4 (nI 0)) := ⟨_, rfl⟩
  rw [← hM1] at G
  refine lv_aload_n S.1 S.2.1 d_K_forget_5 rfl (lv_at hl 0 rfl) ?_
  refine lv_iconst (v := -1) S.1 S.2.1 d_K_forget_6 (by decide +kernel) ?_
  refine fk_pf S E G 79 (by decide) (congrArg (fk_ce g ov 79 (M1 79)) kd_79) rfl 5 (by decide) rfl i_162 (upd (M1 79) 5 (-1)) (congrArg (fk_ce g ov 79 (upd (M1 79) 5 (-1))) kd_79) rfl (ty := (.int)) (by decide +kernel) rfl rfl (Nat.le_of_ble_eq_true rfl) d_K_forget_7 (fun H locs G => ?_)
  obtain ⟨M2, hM2⟩ : ∃ z : fk_M, z = va_up M1 79 (upd (M1 79) 5 (-1)) := ⟨_, rfl⟩
  rw [← hM2] at G
  refine lv_aload_n S.1 S.2.1 d_K_forget_10 rfl (lv_at hl 0 rfl) ?_
  refine lv_iconst (v := -1) S.1 S.2.1 d_K_forget_11 (by decide +kernel) ?_
  refine fk_pf S E G 79 (by decide) (congrArg (fk_ce g ov 79 (M2 79)) kd_79) rfl 6 (by decide) rfl i_164 (upd (M2 79) 6 (-1)) (congrArg (fk_ce g ov 79 (upd (M2 79) 6 (-1))) kd_79) rfl (ty := (.int)) (by decide +kernel) rfl rfl (Nat.le_of_ble_eq_true rfl) d_K_forget_12 (fun H locs G => ?_)
  obtain ⟨M3, hM3⟩ : ∃ z : fk_M, z = va_up M2 79 (upd (M2 79) 6 (-1)) := ⟨_, rfl⟩
  rw [← hM3] at G
  exact fk_vret S hr hlk E G (by rw [hM3, hM2, hM1, bx_uu, va_up_self, bx_uu, va_up_self]; rfl) d_K_forget_15
theorem d_K_isOfType_0 : decode b_K_isOfType 0 = .ok (.aload_n 1, 1) := by decide +kernel
theorem d_K_isOfType_1 : decode b_K_isOfType 1 = .ok (.getfield 117, 3) := by decide +kernel
theorem d_K_isOfType_4 : decode b_K_isOfType 4 = .ok (.iload_n 2, 1) := by decide +kernel
theorem d_K_isOfType_5 : decode b_K_isOfType 5 = .ok (.iaload, 1) := by decide +kernel
theorem d_K_isOfType_6 : decode b_K_isOfType 6 = .ok (.istore 4, 2) := by decide +kernel
theorem d_K_isOfType_8 : decode b_K_isOfType 8 = .ok (.iload 4, 2) := by decide +kernel
theorem d_K_isOfType_10 : decode b_K_isOfType 10 = .ok (.iconst 3, 1) := by decide +kernel
theorem d_K_isOfType_11 : decode b_K_isOfType 11 = .ok (.if_icmp .ne 25, 3) := by decide +kernel
theorem d_K_isOfType_14 : decode b_K_isOfType 14 = .ok (.aload_n 0, 1) := by decide +kernel
theorem d_K_isOfType_15 : decode b_K_isOfType 15 = .ok (.getfield 26, 3) := by decide +kernel
theorem d_K_isOfType_18 : decode b_K_isOfType 18 = .ok (.aload_n 1, 1) := by decide +kernel
theorem d_K_isOfType_19 : decode b_K_isOfType 19 = .ok (.iload_n 2, 1) := by decide +kernel
theorem d_K_isOfType_20 : decode b_K_isOfType 20 = .ok (.invokevirtual 120, 3) := by decide +kernel
theorem d_K_isOfType_23 : decode b_K_isOfType 23 = .ok (.invokevirtual 83, 3) := by decide +kernel
theorem d_K_isOfType_26 : decode b_K_isOfType 26 = .ok (.iload_n 3, 1) := by decide +kernel
theorem d_K_isOfType_27 : decode b_K_isOfType 27 = .ok (.if_icmp .ne 7, 3) := by decide +kernel
theorem d_K_isOfType_30 : decode b_K_isOfType 30 = .ok (.iconst 1, 1) := by decide +kernel
theorem d_K_isOfType_31 : decode b_K_isOfType 31 = .ok (.goto 4, 3) := by decide +kernel
theorem d_K_isOfType_34 : decode b_K_isOfType 34 = .ok (.iconst 0, 1) := by decide +kernel
theorem d_K_isOfType_35 : decode b_K_isOfType 35 = .ok (.ireturn, 1) := by decide +kernel
theorem d_K_isOfType_36 : decode b_K_isOfType 36 = .ok (.iload 4, 2) := by decide +kernel
theorem d_K_isOfType_38 : decode b_K_isOfType 38 = .ok (.invokestatic 123, 3) := by decide +kernel
theorem d_K_isOfType_41 : decode b_K_isOfType 41 = .ok (.ifCond .eq 25, 3) := by decide +kernel
theorem d_K_isOfType_44 : decode b_K_isOfType 44 = .ok (.aload_n 0, 1) := by decide +kernel
theorem d_K_isOfType_45 : decode b_K_isOfType 45 = .ok (.getfield 26, 3) := by decide +kernel
theorem d_K_isOfType_48 : decode b_K_isOfType 48 = .ok (.aload_n 1, 1) := by decide +kernel
theorem d_K_isOfType_49 : decode b_K_isOfType 49 = .ok (.iload_n 2, 1) := by decide +kernel
theorem d_K_isOfType_50 : decode b_K_isOfType 50 = .ok (.invokevirtual 120, 3) := by decide +kernel
theorem d_K_isOfType_53 : decode b_K_isOfType 53 = .ok (.invokevirtual 83, 3) := by decide +kernel
theorem d_K_isOfType_56 : decode b_K_isOfType 56 = .ok (.iconst 1, 1) := by decide +kernel
theorem d_K_isOfType_57 : decode b_K_isOfType 57 = .ok (.if_icmp .ne 7, 3) := by decide +kernel
theorem d_K_isOfType_60 : decode b_K_isOfType 60 = .ok (.iconst 1, 1) := by decide +kernel
theorem d_K_isOfType_61 : decode b_K_isOfType 61 = .ok (.goto 4, 3) := by decide +kernel
theorem d_K_isOfType_64 : decode b_K_isOfType 64 = .ok (.iconst 0, 1) := by decide +kernel
theorem d_K_isOfType_65 : decode b_K_isOfType 65 = .ok (.ireturn, 1) := by decide +kernel
theorem d_K_isOfType_66 : decode b_K_isOfType 66 = .ok (.getstatic 126, 3) := by decide +kernel
theorem d_K_isOfType_69 : decode b_K_isOfType 69 = .ok (.iload 4, 2) := by decide +kernel
theorem d_K_isOfType_71 : decode b_K_isOfType 71 = .ok (.iaload, 1) := by decide +kernel
theorem d_K_isOfType_72 : decode b_K_isOfType 72 = .ok (.iconst 2, 1) := by decide +kernel
theorem d_K_isOfType_73 : decode b_K_isOfType 73 = .ok (.if_icmp .eq 13, 3) := by decide +kernel
theorem d_K_isOfType_76 : decode b_K_isOfType 76 = .ok (.getstatic 126, 3) := by decide +kernel
theorem d_K_isOfType_79 : decode b_K_isOfType 79 = .ok (.iload 4, 2) := by decide +kernel
theorem d_K_isOfType_81 : decode b_K_isOfType 81 = .ok (.iaload, 1) := by decide +kernel
theorem d_K_isOfType_82 : decode b_K_isOfType 82 = .ok (.iload_n 3, 1) := by decide +kernel
theorem d_K_isOfType_83 : decode b_K_isOfType 83 = .ok (.if_icmp .ne 7, 3) := by decide +kernel
theorem d_K_isOfType_86 : decode b_K_isOfType 86 = .ok (.iconst 1, 1) := by decide +kernel
theorem d_K_isOfType_87 : decode b_K_isOfType 87 = .ok (.goto 4, 3) := by decide +kernel
theorem d_K_isOfType_90 : decode b_K_isOfType 90 = .ok (.iconst 0, 1) := by decide +kernel
theorem d_K_isOfType_91 : decode b_K_isOfType 91 = .ok (.ireturn, 1) := by decide +kernel
theorem m_K_isOfType : fk_MI y_K_isOfType b_K_isOfType 5 (some .boolean) 3 := ⟨i_290, i_289, fk_mp (q := (y_K_isOfType, 7)) (by decide +kernel), i_6, by decide +kernel⟩
set_option maxHeartbeats 4000000 in
set_option maxRecDepth 100000 in
theorem c_K_isOfType (l : Launch) (g : fk_G) (ov : Int64) (M : fk_M) (x : Nat) (hX : fk_X x) (bf : Nat → Nat) (n cnt : Nat) (hn40 : n ≤ 40) (h12 : cnt ≤ 12) (hb : ∀ j, j < n → M (x + 1) j = nI (bf j)) (i : Nat) (hok : fk_ok bf n cnt i) (v : Int32) : fk_CI l y_K_isOfType b_K_isOfType 5 (some .boolean) (fk_rm 1) g ov M M [.ref (fk_a g 79), .ref (fk_a g x), .int (nI i), .int v] (nI (fk_it M (bf i) (bf (i + 1)) v).toNat) := by
  refine fk_ofI rfl (Nat.le_of_ble_eq_true rfl) ?_
  intro p e s m args below meth c ls S hr hlk E G hl
  have hl : lv_has ls 5 [(0, .ref (fk_a g 79)), (1, .ref (fk_a g x)), (2, .int (nI i)), (3, .int v)] := hl
  have hok2 := hok.2.1
  have hi := hok.1
  refine lv_aload_n S.1 S.2.1 d_K_isOfType_0 rfl (lv_at hl 1 rfl) ?_
  refine fk_gn S E G x (by have := fk_Xlt hX; omega) (v := .ref (fk_a g (x + 1))) (congrArg (fk_ce g ov x (M x)) (fk_kx0 hX)) rfl 0 (by decide) rfl (List.mem_of_getElem? (i := 1) rfl) rfl d_K_isOfType_1 ?_
  refine lv_iload_n S.1 S.2.1 d_K_isOfType_4 rfl (lv_at hl 2 rfl) ?_
  refine fk_ia S E G (x + 1) (by have := fk_Xlt hX; omega) (congrArg (fk_ce g ov (x + 1) (M (x + 1))) (fk_kx1 hX)) i rfl (by omega) (by decide) (v := nI (bf i)) (hb i hi) d_K_isOfType_5 ?_
  refine lv_istore (lv' := [(4, .int (nI (bf i))), (0, .ref (fk_a g 79)), (1, .ref (fk_a g x)), (2, .int (nI i)), (3, .int v)]) S.1 S.2.1 d_K_isOfType_6 hl (by decide) rfl (fun ls hl => ?_)
  refine lv_iload S.1 S.2.1 d_K_isOfType_8 (lv_at hl 0 rfl) ?_
  refine lv_iconst (v := nI 3) S.1 S.2.1 d_K_isOfType_10 (by decide +kernel) ?_
  refine fk_cne (tgt := 36) S.1 S.2.1 (by omega) (by omega) d_K_isOfType_11 rfl (fun hc1 => ?_) (fun hc1 => ?_)
  · refine lv_iload S.1 S.2.1 d_K_isOfType_36 (lv_at hl 0 rfl) ?_
    refine fk_cti S E G (rest := []) (c_D_isSampling l g ov M (bf i) hok2) m_D_isSampling (List.mem_of_getElem? (i := 19) rfl) ⟨rfl, rfl⟩ ⟨by decide, by decide⟩ rfl rfl hl.1 (Nat.le_of_ble_eq_true rfl) d_K_isOfType_38 ⟨Nat.zero_le _, Nat.zero_le _⟩ (fun H locs G => ?_)
    refine fk_zeq (tgt := 66) S.1 S.2.1 (fk_bl _) d_K_isOfType_41 rfl (fun hc2 => ?_) (fun hc2 => ?_)
    · have hns := of_decide_eq_false (fk_bf hc2)
      have hrt := fk_rt_le (bf i)
      refine fk_gsn S E G 2 (by decide) (List.mem_of_getElem? (i := 49) rfl) d_K_isOfType_66 ?_
      refine lv_iload S.1 S.2.1 d_K_isOfType_69 (lv_at hl 0 rfl) ?_
      refine fk_ti S E G 2 (by decide) (bf i) rfl (by omega) (v := nI (fk_rt (bf i))) (fk_tv2 _ (by omega)) d_K_isOfType_71 ?_
      refine lv_iconst (v := nI 2) S.1 S.2.1 d_K_isOfType_72 (by decide +kernel) ?_
      refine fk_ceq (tgt := 86) S.1 S.2.1 (by omega) (by omega) d_K_isOfType_73 rfl (fun hc3 => ?_) (fun hc3 => ?_)
      · refine lv_iconst (v := nI 1) S.1 S.2.1 d_K_isOfType_86 (by decide +kernel) ?_
        refine lv_goto (tgt := 91) S.1 S.2.1 d_K_isOfType_87 rfl ?_
        exact fk_zret S hr hlk E G rfl (fk_b1 (by unfold fk_it; rw [if_neg hc1, if_neg hns]; exact decide_eq_true (Or.inl hc3))) (fk_bz _) d_K_isOfType_91
      · refine fk_gsn S E G 2 (by decide) (List.mem_of_getElem? (i := 49) rfl) d_K_isOfType_76 ?_
        refine lv_iload S.1 S.2.1 d_K_isOfType_79 (lv_at hl 0 rfl) ?_
        refine fk_ti S E G 2 (by decide) (bf i) rfl (by omega) (v := nI (fk_rt (bf i))) (fk_tv2 _ (by omega)) d_K_isOfType_81 ?_
        refine lv_iload_n S.1 S.2.1 d_K_isOfType_82 rfl (lv_at hl 4 rfl) ?_
        refine lv_icmp_ne (tgt := 90) S.1 S.2.1 d_K_isOfType_83 rfl (fun hc4 => ?_) (fun hc4 => ?_)
        · refine lv_iconst (v := nI 0) S.1 S.2.1 d_K_isOfType_90 (by decide +kernel) ?_
          exact fk_zret S hr hlk E G rfl (fk_b0 (by unfold fk_it; rw [if_neg hc1, if_neg hns]; exact decide_eq_false (fun q => q.elim hc3 hc4))) (fk_bz _) d_K_isOfType_91
        · refine lv_iconst (v := nI 1) S.1 S.2.1 d_K_isOfType_86 (by decide +kernel) ?_
          refine lv_goto (tgt := 91) S.1 S.2.1 d_K_isOfType_87 rfl ?_
          exact fk_zret S hr hlk E G rfl (fk_b1 (by unfold fk_it; rw [if_neg hc1, if_neg hns]; exact decide_eq_true (Or.inr hc4))) (fk_bz _) d_K_isOfType_91
    · have hns := of_decide_eq_true (fk_bt hc2)
      have hw := hok.2.2.2 (by omega)
      have hd2 := fk_hd2 (k := bf i) (by omega)
      have hlen := hok.2.2.1
      refine lv_aload_n S.1 S.2.1 d_K_isOfType_44 rfl (lv_at hl 1 rfl) ?_
      refine fk_gf S E G 79 (by decide) (v := .ref (fk_a g 1)) (congrArg (fk_ce g ov 79 (M 79)) kd_79) rfl 0 (by decide) rfl i_156 rfl d_K_isOfType_45 ?_
      refine lv_aload_n S.1 S.2.1 d_K_isOfType_48 rfl (lv_at hl 2 rfl) ?_
      refine lv_iload_n S.1 S.2.1 d_K_isOfType_49 rfl (lv_at hl 3 rfl) ?_
      refine fk_cni S E G x (by have := fk_Xlt hX; omega) (congrArg (fk_ce g ov x (M x)) (fk_kx0 hX)) rfl (rest := [.ref (fk_a g 1)]) (hb (i + 1) (by omega) ▸ c_E_named l g ov M x hX i (by omega)) m_E_named (List.mem_of_getElem? (i := 18) rfl) ⟨rfl, rfl⟩ ⟨by decide, by decide⟩ rfl rfl hl.1 (Nat.le_of_ble_eq_true rfl) d_K_isOfType_50 ⟨Nat.zero_le _, Nat.zero_le _⟩ (fun H locs G => ?_)
      refine fk_cni S E G 1 (by decide) (congrArg (fk_ce g ov 1 (M 1)) kd_1) rfl (rest := []) (c_N_typeOf l g ov M (bf (i + 1)) (by omega)) m_N_typeOf (List.mem_of_getElem? (i := 16) rfl) ⟨rfl, rfl⟩ ⟨by decide, by decide⟩ rfl rfl hl.1 (Nat.le_of_ble_eq_true rfl) d_K_isOfType_53 ⟨Nat.zero_le _, Nat.zero_le _⟩ (fun H locs G => ?_)
      refine lv_iconst (v := nI 1) S.1 S.2.1 d_K_isOfType_56 (by decide +kernel) ?_
      refine fk_cne (tgt := 64) S.1 S.2.1 (fk_ty1_le _ _) (by omega) d_K_isOfType_57 rfl (fun hc5 => ?_) (fun hc5 => ?_)
      · refine lv_iconst (v := nI 0) S.1 S.2.1 d_K_isOfType_64 (by decide +kernel) ?_
        exact fk_zret S hr hlk E G rfl (fk_b0 (by unfold fk_it; rw [if_neg hc1, if_pos hns]; exact decide_eq_false hc5)) (fk_bz _) d_K_isOfType_65
      · refine lv_iconst (v := nI 1) S.1 S.2.1 d_K_isOfType_60 (by decide +kernel) ?_
        refine lv_goto (tgt := 65) S.1 S.2.1 d_K_isOfType_61 rfl ?_
        exact fk_zret S hr hlk E G rfl (fk_b1 (by unfold fk_it; rw [if_neg hc1, if_pos hns]; exact decide_eq_true hc5)) (fk_bz _) d_K_isOfType_65
  · have hw := hok.2.2.2 (by omega)
    have hd2 := fk_hd2 (k := bf i) (by omega)
    have hlen := hok.2.2.1
    refine lv_aload_n S.1 S.2.1 d_K_isOfType_14 rfl (lv_at hl 1 rfl) ?_
    refine fk_gf S E G 79 (by decide) (v := .ref (fk_a g 1)) (congrArg (fk_ce g ov 79 (M 79)) kd_79) rfl 0 (by decide) rfl i_156 rfl d_K_isOfType_15 ?_
    refine lv_aload_n S.1 S.2.1 d_K_isOfType_18 rfl (lv_at hl 2 rfl) ?_
    refine lv_iload_n S.1 S.2.1 d_K_isOfType_19 rfl (lv_at hl 3 rfl) ?_
    refine fk_cni S E G x (by have := fk_Xlt hX; omega) (congrArg (fk_ce g ov x (M x)) (fk_kx0 hX)) rfl (rest := [.ref (fk_a g 1)]) (hb (i + 1) (by omega) ▸ c_E_named l g ov M x hX i (by omega)) m_E_named (List.mem_of_getElem? (i := 18) rfl) ⟨rfl, rfl⟩ ⟨by decide, by decide⟩ rfl rfl hl.1 (Nat.le_of_ble_eq_true rfl) d_K_isOfType_20 ⟨Nat.zero_le _, Nat.zero_le _⟩ (fun H locs G => ?_)
    refine fk_cni S E G 1 (by decide) (congrArg (fk_ce g ov 1 (M 1)) kd_1) rfl (rest := []) (c_N_typeOf l g ov M (bf (i + 1)) (by omega)) m_N_typeOf (List.mem_of_getElem? (i := 16) rfl) ⟨rfl, rfl⟩ ⟨by decide, by decide⟩ rfl rfl hl.1 (Nat.le_of_ble_eq_true rfl) d_K_isOfType_23 ⟨Nat.zero_le _, Nat.zero_le _⟩ (fun H locs G => ?_)
    refine lv_iload_n S.1 S.2.1 d_K_isOfType_26 rfl (lv_at hl 4 rfl) ?_
    refine lv_icmp_ne (tgt := 34) S.1 S.2.1 d_K_isOfType_27 rfl (fun hc6 => ?_) (fun hc6 => ?_)
    · refine lv_iconst (v := nI 0) S.1 S.2.1 d_K_isOfType_34 (by decide +kernel) ?_
      exact fk_zret S hr hlk E G rfl (fk_b0 (by unfold fk_it; rw [if_pos hc1]; exact decide_eq_false hc6)) (fk_bz _) d_K_isOfType_35
    · refine lv_iconst (v := nI 1) S.1 S.2.1 d_K_isOfType_30 (by decide +kernel) ?_
      refine lv_goto (tgt := 35) S.1 S.2.1 d_K_isOfType_31 rfl ?_
      exact fk_zret S hr hlk E G rfl (fk_b1 (by unfold fk_it; rw [if_pos hc1]; exact decide_eq_true hc6)) (fk_bz _) d_K_isOfType_35
theorem d_K_wantTypesOfParts_0 : decode b_K_wantTypesOfParts 0 = .ok (.aload_n 1, 1) := by decide +kernel
theorem d_K_wantTypesOfParts_1 : decode b_K_wantTypesOfParts 1 = .ok (.getfield 117, 3) := by decide +kernel
theorem d_K_wantTypesOfParts_4 : decode b_K_wantTypesOfParts 4 = .ok (.iload_n 2, 1) := by decide +kernel
theorem d_K_wantTypesOfParts_5 : decode b_K_wantTypesOfParts 5 = .ok (.iaload, 1) := by decide +kernel
theorem d_K_wantTypesOfParts_6 : decode b_K_wantTypesOfParts 6 = .ok (.istore_n 3, 1) := by decide +kernel
theorem d_K_wantTypesOfParts_7 : decode b_K_wantTypesOfParts 7 = .ok (.getstatic 129, 3) := by decide +kernel
theorem d_K_wantTypesOfParts_10 : decode b_K_wantTypesOfParts 10 = .ok (.iload_n 3, 1) := by decide +kernel
theorem d_K_wantTypesOfParts_11 : decode b_K_wantTypesOfParts 11 = .ok (.iaload, 1) := by decide +kernel
theorem d_K_wantTypesOfParts_12 : decode b_K_wantTypesOfParts 12 = .ok (.iconst 2, 1) := by decide +kernel
theorem d_K_wantTypesOfParts_13 : decode b_K_wantTypesOfParts 13 = .ok (.if_icmp .ne 12, 3) := by decide +kernel
theorem d_K_wantTypesOfParts_16 : decode b_K_wantTypesOfParts 16 = .ok (.aload_n 0, 1) := by decide +kernel
theorem d_K_wantTypesOfParts_17 : decode b_K_wantTypesOfParts 17 = .ok (.getfield 9, 3) := by decide +kernel
theorem d_K_wantTypesOfParts_20 : decode b_K_wantTypesOfParts 20 = .ok (.iload_n 2, 1) := by decide +kernel
theorem d_K_wantTypesOfParts_21 : decode b_K_wantTypesOfParts 21 = .ok (.iaload, 1) := by decide +kernel
theorem d_K_wantTypesOfParts_22 : decode b_K_wantTypesOfParts 22 = .ok (.goto 8, 3) := by decide +kernel
theorem d_K_wantTypesOfParts_25 : decode b_K_wantTypesOfParts 25 = .ok (.getstatic 129, 3) := by decide +kernel
theorem d_K_wantTypesOfParts_28 : decode b_K_wantTypesOfParts 28 = .ok (.iload_n 3, 1) := by decide +kernel
theorem d_K_wantTypesOfParts_29 : decode b_K_wantTypesOfParts 29 = .ok (.iaload, 1) := by decide +kernel
theorem d_K_wantTypesOfParts_30 : decode b_K_wantTypesOfParts 30 = .ok (.istore 4, 2) := by decide +kernel
theorem d_K_wantTypesOfParts_32 : decode b_K_wantTypesOfParts 32 = .ok (.aload_n 1, 1) := by decide +kernel
theorem d_K_wantTypesOfParts_33 : decode b_K_wantTypesOfParts 33 = .ok (.iload_n 2, 1) := by decide +kernel
theorem d_K_wantTypesOfParts_34 : decode b_K_wantTypesOfParts 34 = .ok (.invokevirtual 132, 3) := by decide +kernel
theorem d_K_wantTypesOfParts_37 : decode b_K_wantTypesOfParts 37 = .ok (.istore 5, 2) := by decide +kernel
theorem d_K_wantTypesOfParts_39 : decode b_K_wantTypesOfParts 39 = .ok (.iconst 0, 1) := by decide +kernel
theorem d_K_wantTypesOfParts_40 : decode b_K_wantTypesOfParts 40 = .ok (.istore 6, 2) := by decide +kernel
theorem d_K_wantTypesOfParts_42 : decode b_K_wantTypesOfParts 42 = .ok (.iload 6, 2) := by decide +kernel
theorem d_K_wantTypesOfParts_44 : decode b_K_wantTypesOfParts 44 = .ok (.getstatic 135, 3) := by decide +kernel
theorem d_K_wantTypesOfParts_47 : decode b_K_wantTypesOfParts 47 = .ok (.iload_n 3, 1) := by decide +kernel
theorem d_K_wantTypesOfParts_48 : decode b_K_wantTypesOfParts 48 = .ok (.iaload, 1) := by decide +kernel
theorem d_K_wantTypesOfParts_49 : decode b_K_wantTypesOfParts 49 = .ok (.if_icmp .ge 42, 3) := by decide +kernel
theorem d_K_wantTypesOfParts_52 : decode b_K_wantTypesOfParts 52 = .ok (.aload_n 0, 1) := by decide +kernel
theorem d_K_wantTypesOfParts_53 : decode b_K_wantTypesOfParts 53 = .ok (.getfield 9, 3) := by decide +kernel
theorem d_K_wantTypesOfParts_56 : decode b_K_wantTypesOfParts 56 = .ok (.iload 5, 2) := by decide +kernel
theorem d_K_wantTypesOfParts_58 : decode b_K_wantTypesOfParts 58 = .ok (.iload_n 3, 1) := by decide +kernel
theorem d_K_wantTypesOfParts_59 : decode b_K_wantTypesOfParts 59 = .ok (.bipush 13, 2) := by decide +kernel
theorem d_K_wantTypesOfParts_61 : decode b_K_wantTypesOfParts 61 = .ok (.if_icmp .ne 12, 3) := by decide +kernel
theorem d_K_wantTypesOfParts_64 : decode b_K_wantTypesOfParts 64 = .ok (.iload 6, 2) := by decide +kernel
theorem d_K_wantTypesOfParts_66 : decode b_K_wantTypesOfParts 66 = .ok (.ifCond .ne 7, 3) := by decide +kernel
theorem d_K_wantTypesOfParts_69 : decode b_K_wantTypesOfParts 69 = .ok (.iconst 1, 1) := by decide +kernel
theorem d_K_wantTypesOfParts_70 : decode b_K_wantTypesOfParts 70 = .ok (.goto 5, 3) := by decide +kernel
theorem d_K_wantTypesOfParts_73 : decode b_K_wantTypesOfParts 73 = .ok (.iload 4, 2) := by decide +kernel
theorem d_K_wantTypesOfParts_75 : decode b_K_wantTypesOfParts 75 = .ok (.iastore, 1) := by decide +kernel
theorem d_K_wantTypesOfParts_76 : decode b_K_wantTypesOfParts 76 = .ok (.aload_n 1, 1) := by decide +kernel
theorem d_K_wantTypesOfParts_77 : decode b_K_wantTypesOfParts 77 = .ok (.getfield 138, 3) := by decide +kernel
theorem d_K_wantTypesOfParts_80 : decode b_K_wantTypesOfParts 80 = .ok (.iload 5, 2) := by decide +kernel
theorem d_K_wantTypesOfParts_82 : decode b_K_wantTypesOfParts 82 = .ok (.iaload, 1) := by decide +kernel
theorem d_K_wantTypesOfParts_83 : decode b_K_wantTypesOfParts 83 = .ok (.istore 5, 2) := by decide +kernel
theorem d_K_wantTypesOfParts_85 : decode b_K_wantTypesOfParts 85 = .ok (.iinc 6 1, 3) := by decide +kernel
theorem d_K_wantTypesOfParts_88 : decode b_K_wantTypesOfParts 88 = .ok (.goto (-46), 3) := by decide +kernel
theorem d_K_wantTypesOfParts_91 : decode b_K_wantTypesOfParts 91 = .ok (.return_, 1) := by decide +kernel
theorem m_K_wantTypesOfParts : fk_MI y_K_wantTypesOfParts b_K_wantTypesOfParts 7 none 2 := ⟨i_298, i_297, fk_mp (q := (y_K_wantTypesOfParts, 7)) (by decide +kernel), i_6, by decide +kernel⟩
set_option maxHeartbeats 4000000 in
set_option maxRecDepth 100000 in
theorem c_K_wantTypesOfParts (l : Launch) (g : fk_G) (ov : Int64) (M : fk_M) (x : Nat) (hX : fk_X x) (bf : Nat → Nat) (n cnt : Nat) (hn40 : n ≤ 40) (h12 : cnt ≤ 12) (hb : ∀ j, j < n → M (x + 1) j = nI (bf j)) (i : Nat) (hok : fk_ok bf n cnt i) (r ee : Nat) (hts : fk_Ts (fk_T bf n cnt (M (x + 2)) r) (fk_ar (bf i)) (i + fk_hd (bf i)) ee) : fk_CV l y_K_wantTypesOfParts b_K_wantTypesOfParts 7 (fk_rm 1) g ov M (va_up M 80 (fk_wt (M (x + 2)) (bf i) (fk_wv (bf i) (M 80 i)) (fk_ar (bf i)) 0 (i + fk_hd (bf i)) (M 80))) [.ref (fk_a g 79), .ref (fk_a g x), .int (nI i)] := by
  refine fk_ofV rfl (Nat.le_of_ble_eq_true rfl) ?_
  intro p e s m args below meth c ls S hr hlk E G hl
  have hl : lv_has ls 7 [(0, .ref (fk_a g 79)), (1, .ref (fk_a g x)), (2, .int (nI i))] := hl
  have hok2 := hok.2.1
  have hi := hok.1
  have har := fk_ar_le (bf i)
  have hpt := fk_pt_le (bf i)
  have loop : ∀ (d : Nat) (q y : Nat) (A : Nat → Int32) (H : Heap) (locs : List Loc) (ls : Array Slot), q + d = fk_ar (bf i) → fk_Ts (fk_T bf n cnt (M (x + 2)) r) d y ee → va_up M 80 (fk_wt (M (x + 2)) (bf i) (fk_wv (bf i) (M 80 i)) d q y A) = va_up M 80 (fk_wt (M (x + 2)) (bf i) (fk_wv (bf i) (M 80 i)) (fk_ar (bf i)) 0 (i + fk_hd (bf i)) (M 80)) → fk_H g ov (va_up M 80 A) s H locs → lv_has ls 7 [(6, .int (nI q)), (5, .int (nI y)), (4, .int (fk_wv (bf i) (M 80 i))), (3, .int (nI (bf i))), (0, .ref (fk_a g 79)), (1, .ref (fk_a g x)), (2, .int (nI i))] → W p l e (fk_rm (1)) s m args below meth c H locs 0 0 (MQ below (va_Qv (fun (_ : Unit) => True) (fun _ t9 => fk_Wd g ov (va_up M 80 (fk_wt (M (x + 2)) (bf i) (fk_wv (bf i) (M 80 i)) (fk_ar (bf i)) 0 (i + fk_hd (bf i)) (M 80))) t9) (fk_A g)) args s 0 0 (fk_A g)) (F0 m 42 ls []) := by
    intro d
    induction d with
    | zero =>
      intro q y A H locs ls hv0 hv1 hv2 G hl
      obtain ⟨M1, hM1⟩ : ∃ z : fk_M, z = va_up M 80 A := ⟨_, rfl⟩
      rw [← hM1] at G
      have ex : ∀ k, k ≠ 80 → M1 k = M k := fun k hk => by rw [hM1, va_up_ne _ _ hk]
      have exl := fk_Xlt hX
      refine lv_iload S.1 S.2.1 d_K_wantTypesOfParts_42 (lv_at hl 0 rfl) ?_
      refine fk_gsn S E G 1 (by decide) (List.mem_of_getElem? (i := 52) rfl) d_K_wantTypesOfParts_44 ?_
      refine lv_iload_n S.1 S.2.1 d_K_wantTypesOfParts_47 rfl (lv_at hl 3 rfl) ?_
      refine fk_ti S E G 1 (by decide) (bf i) rfl (by omega) (v := nI (fk_ar (bf i))) (fk_tv1 _ (by omega)) d_K_wantTypesOfParts_48 ?_
      refine fk_cge (tgt := 91) S.1 S.2.1 (by omega) (by omega) d_K_wantTypesOfParts_49 rfl (fun hc1 => ?_) (fun hc1 => ?_)
      · exact fk_vret S hr hlk E G (by rw [hM1, ← hv2]; rfl) d_K_wantTypesOfParts_91
      · exact absurd hv0 (by omega)
    | succ d ih =>
      intro q y A H locs ls hv0 hv1 hv2 G hl
      obtain ⟨M1, hM1⟩ : ∃ z : fk_M, z = va_up M 80 A := ⟨_, rfl⟩
      rw [← hM1] at G
      have ex : ∀ k, k ≠ 80 → M1 k = M k := fun k hk => by rw [hM1, va_up_ne _ _ hk]
      have exl := fk_Xlt hX
      refine lv_iload S.1 S.2.1 d_K_wantTypesOfParts_42 (lv_at hl 0 rfl) ?_
      refine fk_gsn S E G 1 (by decide) (List.mem_of_getElem? (i := 52) rfl) d_K_wantTypesOfParts_44 ?_
      refine lv_iload_n S.1 S.2.1 d_K_wantTypesOfParts_47 rfl (lv_at hl 3 rfl) ?_
      refine fk_ti S E G 1 (by decide) (bf i) rfl (by omega) (v := nI (fk_ar (bf i))) (fk_tv1 _ (by omega)) d_K_wantTypesOfParts_48 ?_
      refine fk_cge (tgt := 91) S.1 S.2.1 (by omega) (by omega) d_K_wantTypesOfParts_49 rfl (fun hc2 => ?_) (fun hc2 => ?_)
      · exact absurd hv0 (by omega)
      · obtain ⟨y2, t1, hts2⟩ := hv1
        have l1 := fk_T_lt _ _ _ t1
        have hEy := fk_T_E t1
        have hxr := fk_Xr (t := 2) hX (by decide)
        have hx2 : M1 (x + 2) = M (x + 2) := ex _ (by omega)
        have h80 : M1 80 = A := by rw [hM1, va_up_self]
        refine lv_aload_n S.1 S.2.1 d_K_wantTypesOfParts_52 rfl (lv_at hl 4 rfl) ?_
        refine fk_gf S E G 79 (by decide) (v := .ref (fk_a g 80)) (congrArg (fk_ce g ov 79 (M1 79)) kd_79) rfl 2 (by decide) rfl i_158 rfl d_K_wantTypesOfParts_53 ?_
        refine lv_iload S.1 S.2.1 d_K_wantTypesOfParts_56 (lv_at hl 1 rfl) ?_
        refine lv_iload_n S.1 S.2.1 d_K_wantTypesOfParts_58 rfl (lv_at hl 3 rfl) ?_
        refine lv_bipush (v := nI 13) S.1 S.2.1 d_K_wantTypesOfParts_59 (by decide +kernel) ?_
        refine fk_cne (tgt := 73) S.1 S.2.1 (by omega) (by omega) d_K_wantTypesOfParts_61 rfl (fun hc3 => ?_) (fun hc3 => ?_)
        · refine lv_iload S.1 S.2.1 d_K_wantTypesOfParts_73 (lv_at hl 2 rfl) ?_
          refine fk_is S E G 80 (by decide) (fun r => congrArg (fk_ce g ov 80 r) kd_80) y rfl (by omega) (by decide) d_K_wantTypesOfParts_75 (fun H locs G => ?_)
          obtain ⟨M4, hM4⟩ : ∃ z : fk_M, z = va_up M1 80 (upd (M1 80) y (fk_wv (bf i) (M 80 i))) := ⟨_, rfl⟩
          rw [← hM4] at G
          have hx3 : M4 (x + 2) = M (x + 2) := by rw [hM4, va_up_ne _ _ (by omega), hx2]
          refine lv_aload_n S.1 S.2.1 d_K_wantTypesOfParts_76 rfl (lv_at hl 5 rfl) ?_
          refine fk_gn S E G x (by have := fk_Xlt hX; omega) (v := .ref (fk_a g (x + 2))) (congrArg (fk_ce g ov x (M4 x)) (fk_kx0 hX)) rfl 1 (by decide) rfl (List.mem_of_getElem? (i := 4) rfl) rfl d_K_wantTypesOfParts_77 ?_
          refine lv_iload S.1 S.2.1 d_K_wantTypesOfParts_80 (lv_at hl 1 rfl) ?_
          refine fk_ia S E G (x + 2) (by have := fk_Xlt hX; omega) (congrArg (fk_ce g ov (x + 2) (M4 (x + 2))) (fk_kx2 hX)) y rfl (by omega) (by decide) (v := nI y2) (by rw [hx3]; exact hEy) d_K_wantTypesOfParts_82 ?_
          refine lv_istore (lv' := [(5, .int (nI y2)), (6, .int (nI q)), (4, .int (fk_wv (bf i) (M 80 i))), (3, .int (nI (bf i))), (0, .ref (fk_a g 79)), (1, .ref (fk_a g x)), (2, .int (nI i))]) S.1 S.2.1 d_K_wantTypesOfParts_83 hl (by decide) rfl (fun ls hl => ?_)
          refine lv_iinc (k := 1) (v := nI (q + 1)) (lv' := [(6, .int (nI (q + 1))), (5, .int (nI y2)), (4, .int (fk_wv (bf i) (M 80 i))), (3, .int (nI (bf i))), (0, .ref (fk_a g 79)), (1, .ref (fk_a g x)), (2, .int (nI i))]) S.1 S.2.1 d_K_wantTypesOfParts_85 hl rfl (nI_1 q) (by decide) rfl (fun ls hl => ?_)
          refine lv_goto (tgt := 42) S.1 S.2.1 d_K_wantTypesOfParts_88 rfl ?_
          refine ih (q + 1) y2 (upd A y (if bf i = 13 ∧ q = 0 then nI 1 else fk_wv (bf i) (M 80 i))) H locs ls (by omega) hts2 (by rw [← hv2]; show _ = va_up M 80 (fk_wt _ _ _ d (q + 1) (M (x + 2) y).toNatClampNeg _); rw [hEy, nI_clamp (by omega)]) ?_ (lv_sub hl [0, 1, 2, 3, 4, 5, 6] rfl)
          rw [hM4, h80, hM1, bx_uu] at G
          rw [if_neg (fun z => hc3 z.1)]
          exact G
        · refine lv_iload S.1 S.2.1 d_K_wantTypesOfParts_64 (lv_at hl 0 rfl) ?_
          refine fk_zne (tgt := 73) S.1 S.2.1 (by omega) d_K_wantTypesOfParts_66 rfl (fun hc5 => ?_) (fun hc5 => ?_)
          · refine lv_iload S.1 S.2.1 d_K_wantTypesOfParts_73 (lv_at hl 2 rfl) ?_
            refine fk_is S E G 80 (by decide) (fun r => congrArg (fk_ce g ov 80 r) kd_80) y rfl (by omega) (by decide) d_K_wantTypesOfParts_75 (fun H locs G => ?_)
            obtain ⟨M6, hM6⟩ : ∃ z : fk_M, z = va_up M1 80 (upd (M1 80) y (fk_wv (bf i) (M 80 i))) := ⟨_, rfl⟩
            rw [← hM6] at G
            have hx3 : M6 (x + 2) = M (x + 2) := by rw [hM6, va_up_ne _ _ (by omega), hx2]
            refine lv_aload_n S.1 S.2.1 d_K_wantTypesOfParts_76 rfl (lv_at hl 5 rfl) ?_
            refine fk_gn S E G x (by have := fk_Xlt hX; omega) (v := .ref (fk_a g (x + 2))) (congrArg (fk_ce g ov x (M6 x)) (fk_kx0 hX)) rfl 1 (by decide) rfl (List.mem_of_getElem? (i := 4) rfl) rfl d_K_wantTypesOfParts_77 ?_
            refine lv_iload S.1 S.2.1 d_K_wantTypesOfParts_80 (lv_at hl 1 rfl) ?_
            refine fk_ia S E G (x + 2) (by have := fk_Xlt hX; omega) (congrArg (fk_ce g ov (x + 2) (M6 (x + 2))) (fk_kx2 hX)) y rfl (by omega) (by decide) (v := nI y2) (by rw [hx3]; exact hEy) d_K_wantTypesOfParts_82 ?_
            refine lv_istore (lv' := [(5, .int (nI y2)), (6, .int (nI q)), (4, .int (fk_wv (bf i) (M 80 i))), (3, .int (nI (bf i))), (0, .ref (fk_a g 79)), (1, .ref (fk_a g x)), (2, .int (nI i))]) S.1 S.2.1 d_K_wantTypesOfParts_83 hl (by decide) rfl (fun ls hl => ?_)
            refine lv_iinc (k := 1) (v := nI (q + 1)) (lv' := [(6, .int (nI (q + 1))), (5, .int (nI y2)), (4, .int (fk_wv (bf i) (M 80 i))), (3, .int (nI (bf i))), (0, .ref (fk_a g 79)), (1, .ref (fk_a g x)), (2, .int (nI i))]) S.1 S.2.1 d_K_wantTypesOfParts_85 hl rfl (nI_1 q) (by decide) rfl (fun ls hl => ?_)
            refine lv_goto (tgt := 42) S.1 S.2.1 d_K_wantTypesOfParts_88 rfl ?_
            refine ih (q + 1) y2 (upd A y (if bf i = 13 ∧ q = 0 then nI 1 else fk_wv (bf i) (M 80 i))) H locs ls (by omega) hts2 (by rw [← hv2]; show _ = va_up M 80 (fk_wt _ _ _ d (q + 1) (M (x + 2) y).toNatClampNeg _); rw [hEy, nI_clamp (by omega)]) ?_ (lv_sub hl [0, 1, 2, 3, 4, 5, 6] rfl)
            rw [hM6, h80, hM1, bx_uu] at G
            rw [if_neg (fun z => by omega)]
            exact G
          · refine lv_iconst (v := nI 1) S.1 S.2.1 d_K_wantTypesOfParts_69 (by decide +kernel) ?_
            refine lv_goto (tgt := 75) S.1 S.2.1 d_K_wantTypesOfParts_70 rfl ?_
            refine fk_is S E G 80 (by decide) (fun r => congrArg (fk_ce g ov 80 r) kd_80) y rfl (by omega) (by decide) d_K_wantTypesOfParts_75 (fun H locs G => ?_)
            obtain ⟨M7, hM7⟩ : ∃ z : fk_M, z = va_up M1 80 (upd (M1 80) y (nI 1)) := ⟨_, rfl⟩
            rw [← hM7] at G
            have hx3 : M7 (x + 2) = M (x + 2) := by rw [hM7, va_up_ne _ _ (by omega), hx2]
            refine lv_aload_n S.1 S.2.1 d_K_wantTypesOfParts_76 rfl (lv_at hl 5 rfl) ?_
            refine fk_gn S E G x (by have := fk_Xlt hX; omega) (v := .ref (fk_a g (x + 2))) (congrArg (fk_ce g ov x (M7 x)) (fk_kx0 hX)) rfl 1 (by decide) rfl (List.mem_of_getElem? (i := 4) rfl) rfl d_K_wantTypesOfParts_77 ?_
            refine lv_iload S.1 S.2.1 d_K_wantTypesOfParts_80 (lv_at hl 1 rfl) ?_
            refine fk_ia S E G (x + 2) (by have := fk_Xlt hX; omega) (congrArg (fk_ce g ov (x + 2) (M7 (x + 2))) (fk_kx2 hX)) y rfl (by omega) (by decide) (v := nI y2) (by rw [hx3]; exact hEy) d_K_wantTypesOfParts_82 ?_
            refine lv_istore (lv' := [(5, .int (nI y2)), (6, .int (nI q)), (4, .int (fk_wv (bf i) (M 80 i))), (3, .int (nI (bf i))), (0, .ref (fk_a g 79)), (1, .ref (fk_a g x)), (2, .int (nI i))]) S.1 S.2.1 d_K_wantTypesOfParts_83 hl (by decide) rfl (fun ls hl => ?_)
            refine lv_iinc (k := 1) (v := nI (q + 1)) (lv' := [(6, .int (nI (q + 1))), (5, .int (nI y2)), (4, .int (fk_wv (bf i) (M 80 i))), (3, .int (nI (bf i))), (0, .ref (fk_a g 79)), (1, .ref (fk_a g x)), (2, .int (nI i))]) S.1 S.2.1 d_K_wantTypesOfParts_85 hl rfl (nI_1 q) (by decide) rfl (fun ls hl => ?_)
            refine lv_goto (tgt := 42) S.1 S.2.1 d_K_wantTypesOfParts_88 rfl ?_
            refine ih (q + 1) y2 (upd A y (if bf i = 13 ∧ q = 0 then nI 1 else fk_wv (bf i) (M 80 i))) H locs ls (by omega) hts2 (by rw [← hv2]; show _ = va_up M 80 (fk_wt _ _ _ d (q + 1) (M (x + 2) y).toNatClampNeg _); rw [hEy, nI_clamp (by omega)]) ?_ (lv_sub hl [0, 1, 2, 3, 4, 5, 6] rfl)
            rw [hM7, h80, hM1, bx_uu] at G
            rw [if_pos ⟨hc3, hc5⟩]
            exact G
  refine lv_aload_n S.1 S.2.1 d_K_wantTypesOfParts_0 rfl (lv_at hl 1 rfl) ?_
  refine fk_gn S E G x (by have := fk_Xlt hX; omega) (v := .ref (fk_a g (x + 1))) (congrArg (fk_ce g ov x (M x)) (fk_kx0 hX)) rfl 0 (by decide) rfl (List.mem_of_getElem? (i := 1) rfl) rfl d_K_wantTypesOfParts_1 ?_
  refine lv_iload_n S.1 S.2.1 d_K_wantTypesOfParts_4 rfl (lv_at hl 2 rfl) ?_
  refine fk_ia S E G (x + 1) (by have := fk_Xlt hX; omega) (congrArg (fk_ce g ov (x + 1) (M (x + 1))) (fk_kx1 hX)) i rfl (by omega) (by decide) (v := nI (bf i)) (hb i hi) d_K_wantTypesOfParts_5 ?_
  refine lv_istore_n (lv' := [(3, .int (nI (bf i))), (0, .ref (fk_a g 79)), (1, .ref (fk_a g x)), (2, .int (nI i))]) S.1 S.2.1 d_K_wantTypesOfParts_6 rfl hl (by decide) rfl (fun ls hl => ?_)
  refine fk_gsn S E G 3 (by decide) (List.mem_of_getElem? (i := 50) rfl) d_K_wantTypesOfParts_7 ?_
  refine lv_iload_n S.1 S.2.1 d_K_wantTypesOfParts_10 rfl (lv_at hl 0 rfl) ?_
  refine fk_ti S E G 3 (by decide) (bf i) rfl (by omega) (v := nI (fk_pt (bf i))) (fk_tv3 _ (by omega)) d_K_wantTypesOfParts_11 ?_
  refine lv_iconst (v := nI 2) S.1 S.2.1 d_K_wantTypesOfParts_12 (by decide +kernel) ?_
  refine fk_cne (tgt := 25) S.1 S.2.1 (by omega) (by omega) d_K_wantTypesOfParts_13 rfl (fun hc8 => ?_) (fun hc8 => ?_)
  · refine fk_gsn S E G 3 (by decide) (List.mem_of_getElem? (i := 50) rfl) d_K_wantTypesOfParts_25 ?_
    refine lv_iload_n S.1 S.2.1 d_K_wantTypesOfParts_28 rfl (lv_at hl 0 rfl) ?_
    refine fk_ti S E G 3 (by decide) (bf i) rfl (by omega) (v := nI (fk_pt (bf i))) (fk_tv3 _ (by omega)) d_K_wantTypesOfParts_29 ?_
    refine lv_istore (lv' := [(4, .int (nI (fk_pt (bf i)))), (3, .int (nI (bf i))), (0, .ref (fk_a g 79)), (1, .ref (fk_a g x)), (2, .int (nI i))]) S.1 S.2.1 d_K_wantTypesOfParts_30 hl (by decide) rfl (fun ls hl => ?_)
    refine lv_aload_n S.1 S.2.1 d_K_wantTypesOfParts_32 rfl (lv_at hl 3 rfl) ?_
    refine lv_iload_n S.1 S.2.1 d_K_wantTypesOfParts_33 rfl (lv_at hl 4 rfl) ?_
    refine fk_cni S E G x (by have := fk_Xlt hX; omega) (congrArg (fk_ce g ov x (M x)) (fk_kx0 hX)) rfl (rest := []) (c_E_firstPart l g ov M x hX i (bf i) (by omega) (by omega) (hb i hi)) m_E_firstPart (List.mem_of_getElem? (i := 20) rfl) ⟨rfl, rfl⟩ ⟨by decide, by decide⟩ rfl rfl hl.1 (Nat.le_of_ble_eq_true rfl) d_K_wantTypesOfParts_34 ⟨Nat.zero_le _, Nat.zero_le _⟩ (fun H locs G => ?_)
    refine lv_istore (lv' := [(5, .int (nI (i + fk_hd (bf i)))), (4, .int (nI (fk_pt (bf i)))), (3, .int (nI (bf i))), (0, .ref (fk_a g 79)), (1, .ref (fk_a g x)), (2, .int (nI i))]) S.1 S.2.1 d_K_wantTypesOfParts_37 hl (by decide) rfl (fun ls hl => ?_)
    refine lv_iconst (v := nI 0) S.1 S.2.1 d_K_wantTypesOfParts_39 (by decide +kernel) ?_
    refine lv_istore (lv' := [(6, .int (nI 0)), (5, .int (nI (i + fk_hd (bf i)))), (4, .int (nI (fk_pt (bf i)))), (3, .int (nI (bf i))), (0, .ref (fk_a g 79)), (1, .ref (fk_a g x)), (2, .int (nI i))]) S.1 S.2.1 d_K_wantTypesOfParts_40 hl (by decide) rfl (fun ls hl => ?_)
    refine loop (fk_ar (bf i)) 0 (i + fk_hd (bf i)) (M 80) H locs ls (by omega) hts rfl (by rw [fk_upid]; exact G) ?_
    rw [show fk_wv (bf i) (M 80 i) = nI (fk_pt (bf i)) from if_neg hc8]
    exact hl
  · refine lv_aload_n S.1 S.2.1 d_K_wantTypesOfParts_16 rfl (lv_at hl 1 rfl) ?_
    refine fk_gf S E G 79 (by decide) (v := .ref (fk_a g 80)) (congrArg (fk_ce g ov 79 (M 79)) kd_79) rfl 2 (by decide) rfl i_158 rfl d_K_wantTypesOfParts_17 ?_
    refine lv_iload_n S.1 S.2.1 d_K_wantTypesOfParts_20 rfl (lv_at hl 3 rfl) ?_
    refine fk_ia S E G 80 (by decide) (congrArg (fk_ce g ov 80 (M 80)) kd_80) i rfl (by omega) (by decide) (v := M 80 i) rfl d_K_wantTypesOfParts_21 ?_
    refine lv_goto (tgt := 30) S.1 S.2.1 d_K_wantTypesOfParts_22 rfl ?_
    refine lv_istore (lv' := [(4, .int (M 80 i)), (3, .int (nI (bf i))), (0, .ref (fk_a g 79)), (1, .ref (fk_a g x)), (2, .int (nI i))]) S.1 S.2.1 d_K_wantTypesOfParts_30 hl (by decide) rfl (fun ls hl => ?_)
    refine lv_aload_n S.1 S.2.1 d_K_wantTypesOfParts_32 rfl (lv_at hl 3 rfl) ?_
    refine lv_iload_n S.1 S.2.1 d_K_wantTypesOfParts_33 rfl (lv_at hl 4 rfl) ?_
    refine fk_cni S E G x (by have := fk_Xlt hX; omega) (congrArg (fk_ce g ov x (M x)) (fk_kx0 hX)) rfl (rest := []) (c_E_firstPart l g ov M x hX i (bf i) (by omega) (by omega) (hb i hi)) m_E_firstPart (List.mem_of_getElem? (i := 20) rfl) ⟨rfl, rfl⟩ ⟨by decide, by decide⟩ rfl rfl hl.1 (Nat.le_of_ble_eq_true rfl) d_K_wantTypesOfParts_34 ⟨Nat.zero_le _, Nat.zero_le _⟩ (fun H locs G => ?_)
    refine lv_istore (lv' := [(5, .int (nI (i + fk_hd (bf i)))), (4, .int (M 80 i)), (3, .int (nI (bf i))), (0, .ref (fk_a g 79)), (1, .ref (fk_a g x)), (2, .int (nI i))]) S.1 S.2.1 d_K_wantTypesOfParts_37 hl (by decide) rfl (fun ls hl => ?_)
    refine lv_iconst (v := nI 0) S.1 S.2.1 d_K_wantTypesOfParts_39 (by decide +kernel) ?_
    refine lv_istore (lv' := [(6, .int (nI 0)), (5, .int (nI (i + fk_hd (bf i)))), (4, .int (M 80 i)), (3, .int (nI (bf i))), (0, .ref (fk_a g 79)), (1, .ref (fk_a g x)), (2, .int (nI i))]) S.1 S.2.1 d_K_wantTypesOfParts_40 hl (by decide) rfl (fun ls hl => ?_)
    refine loop (fk_ar (bf i)) 0 (i + fk_hd (bf i)) (M 80) H locs ls (by omega) hts rfl (by rw [fk_upid]; exact G) ?_
    rw [show fk_wv (bf i) (M 80 i) = M 80 i from if_pos hc8]
    exact hl
theorem d_K_typeFault_0 : decode b_K_typeFault 0 = .ok (.aload_n 0, 1) := by decide +kernel
theorem d_K_typeFault_1 : decode b_K_typeFault 1 = .ok (.getfield 9, 3) := by decide +kernel
theorem d_K_typeFault_4 : decode b_K_typeFault 4 = .ok (.iconst 0, 1) := by decide +kernel
theorem d_K_typeFault_5 : decode b_K_typeFault 5 = .ok (.iload_n 2, 1) := by decide +kernel
theorem d_K_typeFault_6 : decode b_K_typeFault 6 = .ok (.iastore, 1) := by decide +kernel
theorem d_K_typeFault_7 : decode b_K_typeFault 7 = .ok (.iconst 0, 1) := by decide +kernel
theorem d_K_typeFault_8 : decode b_K_typeFault 8 = .ok (.istore_n 3, 1) := by decide +kernel
theorem d_K_typeFault_9 : decode b_K_typeFault 9 = .ok (.iload_n 3, 1) := by decide +kernel
theorem d_K_typeFault_10 : decode b_K_typeFault 10 = .ok (.aload_n 1, 1) := by decide +kernel
theorem d_K_typeFault_11 : decode b_K_typeFault 11 = .ok (.getfield 101, 3) := by decide +kernel
theorem d_K_typeFault_14 : decode b_K_typeFault 14 = .ok (.if_icmp .ge 43, 3) := by decide +kernel
theorem d_K_typeFault_17 : decode b_K_typeFault 17 = .ok (.aload_n 1, 1) := by decide +kernel
theorem d_K_typeFault_18 : decode b_K_typeFault 18 = .ok (.iload_n 3, 1) := by decide +kernel
theorem d_K_typeFault_19 : decode b_K_typeFault 19 = .ok (.invokevirtual 106, 3) := by decide +kernel
theorem d_K_typeFault_22 : decode b_K_typeFault 22 = .ok (.ifCond .ne 6, 3) := by decide +kernel
theorem d_K_typeFault_25 : decode b_K_typeFault 25 = .ok (.goto 26, 3) := by decide +kernel
theorem d_K_typeFault_28 : decode b_K_typeFault 28 = .ok (.aload_n 0, 1) := by decide +kernel
theorem d_K_typeFault_29 : decode b_K_typeFault 29 = .ok (.aload_n 1, 1) := by decide +kernel
theorem d_K_typeFault_30 : decode b_K_typeFault 30 = .ok (.iload_n 3, 1) := by decide +kernel
theorem d_K_typeFault_31 : decode b_K_typeFault 31 = .ok (.aload_n 0, 1) := by decide +kernel
theorem d_K_typeFault_32 : decode b_K_typeFault 32 = .ok (.getfield 9, 3) := by decide +kernel
theorem d_K_typeFault_35 : decode b_K_typeFault 35 = .ok (.iload_n 3, 1) := by decide +kernel
theorem d_K_typeFault_36 : decode b_K_typeFault 36 = .ok (.iaload, 1) := by decide +kernel
theorem d_K_typeFault_37 : decode b_K_typeFault 37 = .ok (.invokevirtual 109, 3) := by decide +kernel
theorem d_K_typeFault_40 : decode b_K_typeFault 40 = .ok (.ifCond .ne 5, 3) := by decide +kernel
theorem d_K_typeFault_43 : decode b_K_typeFault 43 = .ok (.iload_n 3, 1) := by decide +kernel
theorem d_K_typeFault_44 : decode b_K_typeFault 44 = .ok (.ireturn, 1) := by decide +kernel
theorem d_K_typeFault_45 : decode b_K_typeFault 45 = .ok (.aload_n 0, 1) := by decide +kernel
theorem d_K_typeFault_46 : decode b_K_typeFault 46 = .ok (.aload_n 1, 1) := by decide +kernel
theorem d_K_typeFault_47 : decode b_K_typeFault 47 = .ok (.iload_n 3, 1) := by decide +kernel
theorem d_K_typeFault_48 : decode b_K_typeFault 48 = .ok (.invokevirtual 113, 3) := by decide +kernel
theorem d_K_typeFault_51 : decode b_K_typeFault 51 = .ok (.iinc 3 1, 3) := by decide +kernel
theorem d_K_typeFault_54 : decode b_K_typeFault 54 = .ok (.goto (-45), 3) := by decide +kernel
theorem d_K_typeFault_57 : decode b_K_typeFault 57 = .ok (.iconst (-1), 1) := by decide +kernel
theorem d_K_typeFault_58 : decode b_K_typeFault 58 = .ok (.ireturn, 1) := by decide +kernel
theorem m_K_typeFault : fk_MI y_K_typeFault b_K_typeFault 4 (some .int) 2 := ⟨i_285, i_284, fk_mp (q := (y_K_typeFault, 7)) (by decide +kernel), i_6, by decide +kernel⟩
set_option maxHeartbeats 4000000 in
set_option maxRecDepth 100000 in
theorem c_K_typeFault (l : Launch) (g : fk_G) (ov : Int64) (M : fk_M) (x : Nat) (hX : fk_X x) (bf : Nat → Nat) (n cnt : Nat) (hn40 : n ≤ 40) (h12 : cnt ≤ 12) (hb : ∀ j, j < n → M (x + 1) j = nI (bf j)) (hlen : M x 4 = nI n) (hT : fk_T bf n cnt (M (x + 2)) 11 0 n) (t : Nat) : fk_CI l y_K_typeFault b_K_typeFault 4 (some .int) (fk_rm 2) g ov M (va_up M 80 (fk_tf M bf (M (x + 2)) n 0 (upd (M 80) 0 (nI t))).2) [.ref (fk_a g 79), .ref (fk_a g x), .int (nI t)] (fk_rv (fk_tf M bf (M (x + 2)) n 0 (upd (M 80) 0 (nI t))).1) := by
  refine fk_ofI rfl (Nat.le_of_ble_eq_true rfl) ?_
  intro p e s m args below meth c ls S hr hlk E G hl
  have hl : lv_has ls 4 [(0, .ref (fk_a g 79)), (1, .ref (fk_a g x)), (2, .int (nI t))] := hl
  have loop : ∀ (d : Nat) (i : Nat) (A : Nat → Int32) (H : Heap) (locs : List Loc) (ls : Array Slot), i + d = n → fk_tf M bf (M (x + 2)) d i A = fk_tf M bf (M (x + 2)) n 0 (upd (M 80) 0 (nI t)) → fk_H g ov (va_up M 80 A) s H locs → lv_has ls 4 [(3, .int (nI i)), (0, .ref (fk_a g 79)), (1, .ref (fk_a g x)), (2, .int (nI t))] → W p l e (fk_rm (2)) s m args below meth c H locs 0 0 (MQ below (va_Qi (fun rr (_ : Unit) => rr = fk_rv (fk_tf M bf (M (x + 2)) n 0 (upd (M 80) 0 (nI t))).1) (fun _ t9 => fk_Wd g ov (va_up M 80 (fk_tf M bf (M (x + 2)) n 0 (upd (M 80) 0 (nI t))).2) t9) (fk_A g)) args s 0 0 (fk_A g)) (F0 m 9 ls []) := by
    intro d
    induction d with
    | zero =>
      intro i A H locs ls hv0 hv1 G hl
      obtain ⟨M1, hM1⟩ : ∃ z : fk_M, z = va_up M 80 A := ⟨_, rfl⟩
      rw [← hM1] at G
      have exl := fk_Xlt hX
      have ex : ∀ k, k ≠ 80 → M1 k = M k := fun k hk => by rw [hM1, va_up_ne _ _ hk]
      have h80 : M1 80 = A := by rw [hM1, va_up_self]
      have hx0 : M1 x = M x := ex _ (by rcases hX with h9 | ⟨z, h8, h9⟩ <;> omega)
      have hx1 : M1 (x + 1) = M (x + 1) := ex _ (by rcases hX with h9 | ⟨z, h8, h9⟩ <;> omega)
      have hx2 : M1 (x + 2) = M (x + 2) := ex _ (by rcases hX with h9 | ⟨z, h8, h9⟩ <;> omega)
      refine lv_iload_n S.1 S.2.1 d_K_typeFault_9 rfl (lv_at hl 0 rfl) ?_
      refine lv_aload_n S.1 S.2.1 d_K_typeFault_10 rfl (lv_at hl 2 rfl) ?_
      refine fk_gn S E G x (by have := fk_Xlt hX; omega) (v := .int (M1 x 4)) (congrArg (fk_ce g ov x (M1 x)) (fk_kx0 hX)) rfl 4 (by decide) rfl (List.mem_of_getElem? (i := 11) rfl) rfl d_K_typeFault_11 ?_
      rw [hx0, hlen]
      refine fk_cge (tgt := 57) S.1 S.2.1 (by omega) (by omega) d_K_typeFault_14 rfl (fun hc1 => ?_) (fun hc1 => ?_)
      · refine lv_iconst (v := -1) S.1 S.2.1 d_K_typeFault_57 (by decide +kernel) ?_
        exact fk_iret S hr hlk E G (by rw [hM1, ← hv1]; rfl) (by rw [← hv1]; rfl) d_K_typeFault_58
      · exact absurd hv0 (by omega)
    | succ d ih =>
      intro i A H locs ls hv0 hv1 G hl
      obtain ⟨M1, hM1⟩ : ∃ z : fk_M, z = va_up M 80 A := ⟨_, rfl⟩
      rw [← hM1] at G
      have exl := fk_Xlt hX
      have ex : ∀ k, k ≠ 80 → M1 k = M k := fun k hk => by rw [hM1, va_up_ne _ _ hk]
      have h80 : M1 80 = A := by rw [hM1, va_up_self]
      have hx0 : M1 x = M x := ex _ (by rcases hX with h9 | ⟨z, h8, h9⟩ <;> omega)
      have hx1 : M1 (x + 1) = M (x + 1) := ex _ (by rcases hX with h9 | ⟨z, h8, h9⟩ <;> omega)
      have hx2 : M1 (x + 2) = M (x + 2) := ex _ (by rcases hX with h9 | ⟨z, h8, h9⟩ <;> omega)
      refine lv_iload_n S.1 S.2.1 d_K_typeFault_9 rfl (lv_at hl 0 rfl) ?_
      refine lv_aload_n S.1 S.2.1 d_K_typeFault_10 rfl (lv_at hl 2 rfl) ?_
      refine fk_gn S E G x (by have := fk_Xlt hX; omega) (v := .int (M1 x 4)) (congrArg (fk_ce g ov x (M1 x)) (fk_kx0 hX)) rfl 4 (by decide) rfl (List.mem_of_getElem? (i := 11) rfl) rfl d_K_typeFault_11 ?_
      rw [hx0, hlen]
      refine fk_cge (tgt := 57) S.1 S.2.1 (by omega) (by omega) d_K_typeFault_14 rfl (fun hc2 => ?_) (fun hc2 => ?_)
      · exact absurd hv0 (by omega)
      · refine lv_aload_n S.1 S.2.1 d_K_typeFault_17 rfl (lv_at hl 2 rfl) ?_
        refine lv_iload_n S.1 S.2.1 d_K_typeFault_18 rfl (lv_at hl 0 rfl) ?_
        refine fk_cni S E G x (by have := fk_Xlt hX; omega) (congrArg (fk_ce g ov x (M1 x)) (fk_kx0 hX)) rfl (rest := []) (c_E_beginsAt l g ov M1 x hX i (by omega)) m_E_beginsAt (List.mem_of_getElem? (i := 17) rfl) ⟨rfl, rfl⟩ ⟨by decide, by decide⟩ rfl rfl hl.1 (Nat.le_of_ble_eq_true rfl) d_K_typeFault_19 ⟨Nat.zero_le _, Nat.zero_le _⟩ (fun H locs G => ?_)
        refine fk_zne (tgt := 28) S.1 S.2.1 (fk_bl _) d_K_typeFault_22 rfl (fun hc3 => ?_) (fun hc3 => ?_)
        · have hE := of_decide_eq_true (fk_bt hc3)
          rw [hx2] at hE
          obtain ⟨r, ee, hq10, hok, hEe, hlt, hle, hts⟩ := fk_node (by omega) hT (show i < n by omega) hE
          have hb1 : ∀ j, j < n → M1 (x + 1) j = nI (bf j) := fun j hj => by rw [hx1]; exact hb j hj
          have hitM : fk_it M1 (bf i) (bf (i + 1)) (A i) = fk_it M (bf i) (bf (i + 1)) (A i) := by
            unfold fk_it fk_ty1
            by_cases h9 : bf i = 3 ∨ 15 < bf i
            · rw [ex (3 + 6 * bf (i + 1)) (by have := hok.2.2.2 h9; omega)]
            · rw [if_neg (fun q => h9 (Or.inl q)), if_neg (fun q => h9 (Or.inr q)), if_neg (fun q => h9 (Or.inl q)), if_neg (fun q => h9 (Or.inr q))]
          refine lv_aload_n S.1 S.2.1 d_K_typeFault_28 rfl (lv_at hl 1 rfl) ?_
          refine lv_aload_n S.1 S.2.1 d_K_typeFault_29 rfl (lv_at hl 2 rfl) ?_
          refine lv_iload_n S.1 S.2.1 d_K_typeFault_30 rfl (lv_at hl 0 rfl) ?_
          refine lv_aload_n S.1 S.2.1 d_K_typeFault_31 rfl (lv_at hl 1 rfl) ?_
          refine fk_gf S E G 79 (by decide) (v := .ref (fk_a g 80)) (congrArg (fk_ce g ov 79 (M1 79)) kd_79) rfl 2 (by decide) rfl i_158 rfl d_K_typeFault_32 ?_
          refine lv_iload_n S.1 S.2.1 d_K_typeFault_35 rfl (lv_at hl 0 rfl) ?_
          refine fk_ia S E G 80 (by decide) (congrArg (fk_ce g ov 80 (M1 80)) kd_80) i rfl (by omega) (by decide) (v := A i) (by rw [h80]) d_K_typeFault_36 ?_
          refine fk_cvi S E G 79 (by decide) (congrArg (fk_ce g ov 79 (M1 79)) kd_79) rfl (rest := []) (hitM ▸ c_K_isOfType l g ov M1 x hX bf n cnt hn40 h12 hb1 i hok (A i)) m_K_isOfType i_287 ⟨rfl, rfl⟩ ⟨by decide, by decide⟩ rfl rfl hl.1 (Nat.le_of_ble_eq_true rfl) d_K_typeFault_37 ⟨Nat.zero_le _, Nat.zero_le _⟩ (fun H locs G => ?_)
          refine fk_zne (tgt := 45) S.1 S.2.1 (fk_bl _) d_K_typeFault_40 rfl (fun hc4 => ?_) (fun hc4 => ?_)
          · have hit := fk_bt hc4
            refine lv_aload_n S.1 S.2.1 d_K_typeFault_45 rfl (lv_at hl 1 rfl) ?_
            refine lv_aload_n S.1 S.2.1 d_K_typeFault_46 rfl (lv_at hl 2 rfl) ?_
            refine lv_iload_n S.1 S.2.1 d_K_typeFault_47 rfl (lv_at hl 0 rfl) ?_
            refine fk_cvv S E G 79 (by decide) (congrArg (fk_ce g ov 79 (M1 79)) kd_79) rfl (rest := []) (c_K_wantTypesOfParts l g ov M1 x hX bf n cnt hn40 h12 hb1 i hok r ee (by rw [hx2]; exact hts)) m_K_wantTypesOfParts i_295 ⟨rfl, rfl⟩ ⟨by decide, by decide⟩ rfl rfl hl.1 (Nat.le_of_ble_eq_true rfl) d_K_typeFault_48 ⟨Nat.zero_le _, Nat.zero_le _⟩ (fun H locs G => ?_)
            refine lv_iinc (k := 0) (v := nI (i + 1)) (lv' := [(3, .int (nI (i + 1))), (0, .ref (fk_a g 79)), (1, .ref (fk_a g x)), (2, .int (nI t))]) S.1 S.2.1 d_K_typeFault_51 hl rfl (nI_1 i) (by decide) rfl (fun ls hl => ?_)
            refine lv_goto (tgt := 9) S.1 S.2.1 d_K_typeFault_54 rfl ?_
            rw [hx2, h80, hM1, bx_uu] at G
            exact ih (i + 1) _ H locs ls (by omega) (by rw [← hv1]; rw [fk_tf_S]; rw [if_neg (fun q => q hE), if_pos hit]) G hl
          · have hit := fk_bf hc4
            have hres : fk_tf M bf (M (x + 2)) (d + 1) i A = (some i, A) := by
              rw [fk_tf_S, if_neg (fun q => q hE), if_neg (by rw [hit]; decide)]
            refine lv_iload_n S.1 S.2.1 d_K_typeFault_43 rfl (lv_at hl 0 rfl) ?_
            exact fk_iret S hr hlk E G (by rw [hM1, ← hv1, hres]) (by rw [← hv1, hres]; rfl) d_K_typeFault_44
        · have hE := of_decide_eq_false (fk_bf hc3)
          rw [hx2] at hE
          refine lv_goto (tgt := 51) S.1 S.2.1 d_K_typeFault_25 rfl ?_
          refine lv_iinc (k := 0) (v := nI (i + 1)) (lv' := [(3, .int (nI (i + 1))), (0, .ref (fk_a g 79)), (1, .ref (fk_a g x)), (2, .int (nI t))]) S.1 S.2.1 d_K_typeFault_51 hl rfl (nI_1 i) (by decide) rfl (fun ls hl => ?_)
          refine lv_goto (tgt := 9) S.1 S.2.1 d_K_typeFault_54 rfl ?_
          rw [hM1] at G
          exact ih (i + 1) A H locs ls (by omega) (by rw [← hv1]; rw [fk_tf_S]; rw [if_pos hE]) G hl
  refine lv_aload_n S.1 S.2.1 d_K_typeFault_0 rfl (lv_at hl 0 rfl) ?_
  refine fk_gf S E G 79 (by decide) (v := .ref (fk_a g 80)) (congrArg (fk_ce g ov 79 (M 79)) kd_79) rfl 2 (by decide) rfl i_158 rfl d_K_typeFault_1 ?_
  refine lv_iconst (v := nI 0) S.1 S.2.1 d_K_typeFault_4 (by decide +kernel) ?_
  refine lv_iload_n S.1 S.2.1 d_K_typeFault_5 rfl (lv_at hl 2 rfl) ?_
  refine fk_is S E G 80 (by decide) (fun r => congrArg (fk_ce g ov 80 r) kd_80) 0 rfl (by omega) (by decide) d_K_typeFault_6 (fun H locs G => ?_)
  obtain ⟨M5, hM5⟩ : ∃ z : fk_M, z = va_up M 80 (upd (M 80) 0 (nI t)) := ⟨_, rfl⟩
  rw [← hM5] at G
  refine lv_iconst (v := nI 0) S.1 S.2.1 d_K_typeFault_7 (by decide +kernel) ?_
  refine lv_istore_n (lv' := [(3, .int (nI 0)), (0, .ref (fk_a g 79)), (1, .ref (fk_a g x)), (2, .int (nI t))]) S.1 S.2.1 d_K_typeFault_8 rfl hl (by decide) rfl (fun ls hl => ?_)
  rw [hM5] at G
  exact loop n 0 _ H locs ls (by omega) rfl G hl
end
section
/-! Checker: clocks and beginnings. Written by wip/gen/s_check2.py. -/
def fk_oc (ck : Nat → Nat) (k w : Nat) (v : Int32) : Int32 := match k with
  | 3 => nI (ck w)
  | 16 => nI (2 * w + 1)
  | 17 => nI (2 * w + 2)
  | 18 => nI (ck w)
  | _ => v
def fk_cpt (ck : Nat → Nat) (k w q : Nat) (v : Int32) : Int32 := match k with
  | 16 => nI (ck w)
  | 17 => nI (ck w)
  | 18 => nI (2 * w + if q = 0 then 1 else 2)
  | _ => v
def fk_wc (E : Nat → Int32) (ck : Nat → Nat) (k w i : Nat) : Nat → Nat → Nat → (Nat → Int32) → Nat → Int32
  | 0, _, _, A => A
  | d + 1, q, y, A => fk_wc E ck k w i d (q + 1) (E y).toNatClampNeg (upd A y (fk_cpt ck k w q (A i)))
def fk_cf (b : Nat → Nat) (E : Nat → Int32) (ck : Nat → Nat) : Nat → Nat → (Nat → Int32) → Option Nat × (Nat → Int32)
  | 0, _, A => (none, A)
  | d + 1, i, A => if ¬ 0 < E i then fk_cf b E ck d (i + 1) A else if fk_oc ck (b i) (b (i + 1)) (A i) = A i then fk_cf b E ck d (i + 1) (fk_wc E ck (b i) (b (i + 1)) i (fk_ar (b i)) 0 (i + fk_hd (b i)) A) else (some i, A)
theorem fk_cf_S (b : Nat → Nat) (E : Nat → Int32) (ck : Nat → Nat) (d i : Nat) (A : Nat → Int32) : fk_cf b E ck (d + 1) i A = if ¬ 0 < E i then fk_cf b E ck d (i + 1) A else if fk_oc ck (b i) (b (i + 1)) (A i) = A i then fk_cf b E ck d (i + 1) (fk_wc E ck (b i) (b (i + 1)) i (fk_ar (b i)) 0 (i + fk_hd (b i)) A) else (some i, A) := rfl
def fk_hn (E A : Nat → Int32) : Nat → Nat → Bool
  | 0, _ => false
  | d + 1, y => if A y = 0 then fk_hn E A d (E y).toNatClampNeg else true
theorem fk_hn_S (E A : Nat → Int32) (d y : Nat) : fk_hn E A (d + 1) y = if A y = 0 then fk_hn E A d (E y).toNatClampNeg else true := rfl
def fk_as (k : Nat) : Nat := if k = 15 then 1 else fk_ar k
def fk_bg (b : Nat → Nat) (E : Nat → Int32) : Nat → Option Nat → (Nat → Int32) → Option Nat × (Nat → Int32)
  | 0, lo, A => (lo, A)
  | i + 1, lo, A => if ¬ 0 < E i then fk_bg b E i lo A else fk_bg b E i (if (b i = 14 ∨ b i = 15) ∧ ¬ A (i + fk_hd (b i)) = 0 then some i else lo) (upd A i (nI (decide (b i = 14) || fk_hn E A (fk_as (b i)) (i + fk_hd (b i))).toNat))
theorem fk_bg_S (b : Nat → Nat) (E : Nat → Int32) (i : Nat) (lo : Option Nat) (A : Nat → Int32) : fk_bg b E (i + 1) lo A = if ¬ 0 < E i then fk_bg b E i lo A else fk_bg b E i (if (b i = 14 ∨ b i = 15) ∧ ¬ A (i + fk_hd (b i)) = 0 then some i else lo) (upd A i (nI (decide (b i = 14) || fk_hn E A (fk_as (b i)) (i + fk_hd (b i))).toNat)) := rfl
theorem fk_dec (v : Int32) : v + Int32.ofInt (-1) = v - 1 := by
  rw [Int32.sub_eq_add_neg]
  rfl
theorem d_K_ownClock_0 : decode b_K_ownClock 0 = .ok (.aload_n 1, 1) := by decide +kernel
theorem d_K_ownClock_1 : decode b_K_ownClock 1 = .ok (.getfield 117, 3) := by decide +kernel
theorem d_K_ownClock_4 : decode b_K_ownClock 4 = .ok (.iload_n 2, 1) := by decide +kernel
theorem d_K_ownClock_5 : decode b_K_ownClock 5 = .ok (.iaload, 1) := by decide +kernel
theorem d_K_ownClock_6 : decode b_K_ownClock 6 = .ok (.lookupswitch 79 #[(3, 42), (16, 59), (17, 69), (18, 42)], 42) := by decide +kernel
theorem d_K_ownClock_48 : decode b_K_ownClock 48 = .ok (.aload_n 0, 1) := by decide +kernel
theorem d_K_ownClock_49 : decode b_K_ownClock 49 = .ok (.getfield 26, 3) := by decide +kernel
theorem d_K_ownClock_52 : decode b_K_ownClock 52 = .ok (.getfield 62, 3) := by decide +kernel
theorem d_K_ownClock_55 : decode b_K_ownClock 55 = .ok (.aload_n 1, 1) := by decide +kernel
theorem d_K_ownClock_56 : decode b_K_ownClock 56 = .ok (.iload_n 2, 1) := by decide +kernel
theorem d_K_ownClock_57 : decode b_K_ownClock 57 = .ok (.invokevirtual 120, 3) := by decide +kernel
theorem d_K_ownClock_60 : decode b_K_ownClock 60 = .ok (.aaload, 1) := by decide +kernel
theorem d_K_ownClock_61 : decode b_K_ownClock 61 = .ok (.getfield 91, 3) := by decide +kernel
theorem d_K_ownClock_64 : decode b_K_ownClock 64 = .ok (.ireturn, 1) := by decide +kernel
theorem d_K_ownClock_65 : decode b_K_ownClock 65 = .ok (.aload_n 1, 1) := by decide +kernel
theorem d_K_ownClock_66 : decode b_K_ownClock 66 = .ok (.iload_n 2, 1) := by decide +kernel
theorem d_K_ownClock_67 : decode b_K_ownClock 67 = .ok (.invokevirtual 120, 3) := by decide +kernel
theorem d_K_ownClock_70 : decode b_K_ownClock 70 = .ok (.iconst 1, 1) := by decide +kernel
theorem d_K_ownClock_71 : decode b_K_ownClock 71 = .ok (.invokestatic 150, 3) := by decide +kernel
theorem d_K_ownClock_74 : decode b_K_ownClock 74 = .ok (.ireturn, 1) := by decide +kernel
theorem d_K_ownClock_75 : decode b_K_ownClock 75 = .ok (.aload_n 1, 1) := by decide +kernel
theorem d_K_ownClock_76 : decode b_K_ownClock 76 = .ok (.iload_n 2, 1) := by decide +kernel
theorem d_K_ownClock_77 : decode b_K_ownClock 77 = .ok (.invokevirtual 120, 3) := by decide +kernel
theorem d_K_ownClock_80 : decode b_K_ownClock 80 = .ok (.iconst 0, 1) := by decide +kernel
theorem d_K_ownClock_81 : decode b_K_ownClock 81 = .ok (.invokestatic 150, 3) := by decide +kernel
theorem d_K_ownClock_84 : decode b_K_ownClock 84 = .ok (.ireturn, 1) := by decide +kernel
theorem d_K_ownClock_85 : decode b_K_ownClock 85 = .ok (.aload_n 1, 1) := by decide +kernel
theorem d_K_ownClock_86 : decode b_K_ownClock 86 = .ok (.getfield 141, 3) := by decide +kernel
theorem d_K_ownClock_89 : decode b_K_ownClock 89 = .ok (.iload_n 2, 1) := by decide +kernel
theorem d_K_ownClock_90 : decode b_K_ownClock 90 = .ok (.iaload, 1) := by decide +kernel
theorem d_K_ownClock_91 : decode b_K_ownClock 91 = .ok (.ireturn, 1) := by decide +kernel
theorem m_K_ownClock : fk_MI y_K_ownClock b_K_ownClock 3 (some .int) 2 := ⟨i_316, i_315, fk_mp (q := (y_K_ownClock, 7)) (by decide +kernel), i_6, by decide +kernel⟩
set_option maxHeartbeats 4000000 in
set_option maxRecDepth 100000 in
theorem c_K_ownClock (l : Launch) (g : fk_G) (ov : Int64) (M : fk_M) (x : Nat) (hX : fk_X x) (bf : Nat → Nat) (n cnt : Nat) (hn40 : n ≤ 40) (h12 : cnt ≤ 12) (hb : ∀ j, j < n → M (x + 1) j = nI (bf j)) (i : Nat) (hok : fk_ok bf n cnt i) (ck : Nat → Nat) (hck : ∀ j, j < 12 → M (3 + 6 * j) 3 = nI (ck j)) : fk_CI l y_K_ownClock b_K_ownClock 3 (some .int) (fk_rm 1) g ov M M [.ref (fk_a g 79), .ref (fk_a g x), .int (nI i)] (fk_oc ck (bf i) (bf (i + 1)) (M (x + 3) i)) := by
  refine fk_ofI rfl (Nat.le_of_ble_eq_true rfl) ?_
  intro p e s m args below meth c ls S hr hlk E G hl
  have hl : lv_has ls 3 [(0, .ref (fk_a g 79)), (1, .ref (fk_a g x)), (2, .int (nI i))] := hl
  have hok2 := hok.2.1
  have hi := hok.1
  rcases (show bf i = 0 ∨ bf i = 1 ∨ bf i = 2 ∨ bf i = 3 ∨ bf i = 4 ∨ bf i = 5 ∨ bf i = 6 ∨ bf i = 7 ∨ bf i = 8 ∨ bf i = 9 ∨ bf i = 10 ∨ bf i = 11 ∨ bf i = 12 ∨ bf i = 13 ∨ bf i = 14 ∨ bf i = 15 ∨ bf i = 16 ∨ bf i = 17 ∨ bf i = 18 by omega) with hk | hk | hk | hk | hk | hk | hk | hk | hk | hk | hk | hk | hk | hk | hk | hk | hk | hk | hk
  · refine lv_aload_n S.1 S.2.1 d_K_ownClock_0 rfl (lv_at hl 1 rfl) ?_
    refine fk_gn S E G x (by have := fk_Xlt hX; omega) (v := .ref (fk_a g (x + 1))) (congrArg (fk_ce g ov x (M x)) (fk_kx0 hX)) rfl 0 (by decide) rfl (List.mem_of_getElem? (i := 1) rfl) rfl d_K_ownClock_1 ?_
    refine lv_iload_n S.1 S.2.1 d_K_ownClock_4 rfl (lv_at hl 2 rfl) ?_
    refine fk_ia S E G (x + 1) (by have := fk_Xlt hX; omega) (congrArg (fk_ce g ov (x + 1) (M (x + 1))) (fk_kx1 hX)) i rfl (by omega) (by decide) (v := nI 0) (by rw [hb i hok.1, hk]) d_K_ownClock_5 ?_
    refine lv_lookup (off := 79) (tgt := 85) S.1 S.2.1 d_K_ownClock_6 (by decide +kernel) (by decide +kernel) rfl ?_
    refine lv_aload_n S.1 S.2.1 d_K_ownClock_85 rfl (lv_at hl 1 rfl) ?_
    refine fk_gn S E G x (by have := fk_Xlt hX; omega) (v := .ref (fk_a g (x + 3))) (congrArg (fk_ce g ov x (M x)) (fk_kx0 hX)) rfl 2 (by decide) rfl (List.mem_of_getElem? (i := 6) rfl) rfl d_K_ownClock_86 ?_
    refine lv_iload_n S.1 S.2.1 d_K_ownClock_89 rfl (lv_at hl 2 rfl) ?_
    refine fk_ia S E G (x + 3) (by have := fk_Xlt hX; omega) (congrArg (fk_ce g ov (x + 3) (M (x + 3))) (fk_kx3 hX)) i rfl (by omega) (by decide) (v := M (x + 3) i) rfl d_K_ownClock_90 ?_
    exact fk_iret S hr hlk E G rfl (by rw [hk]; rfl) d_K_ownClock_91
  · refine lv_aload_n S.1 S.2.1 d_K_ownClock_0 rfl (lv_at hl 1 rfl) ?_
    refine fk_gn S E G x (by have := fk_Xlt hX; omega) (v := .ref (fk_a g (x + 1))) (congrArg (fk_ce g ov x (M x)) (fk_kx0 hX)) rfl 0 (by decide) rfl (List.mem_of_getElem? (i := 1) rfl) rfl d_K_ownClock_1 ?_
    refine lv_iload_n S.1 S.2.1 d_K_ownClock_4 rfl (lv_at hl 2 rfl) ?_
    refine fk_ia S E G (x + 1) (by have := fk_Xlt hX; omega) (congrArg (fk_ce g ov (x + 1) (M (x + 1))) (fk_kx1 hX)) i rfl (by omega) (by decide) (v := nI 1) (by rw [hb i hok.1, hk]) d_K_ownClock_5 ?_
    refine lv_lookup (off := 79) (tgt := 85) S.1 S.2.1 d_K_ownClock_6 (by decide +kernel) (by decide +kernel) rfl ?_
    refine lv_aload_n S.1 S.2.1 d_K_ownClock_85 rfl (lv_at hl 1 rfl) ?_
    refine fk_gn S E G x (by have := fk_Xlt hX; omega) (v := .ref (fk_a g (x + 3))) (congrArg (fk_ce g ov x (M x)) (fk_kx0 hX)) rfl 2 (by decide) rfl (List.mem_of_getElem? (i := 6) rfl) rfl d_K_ownClock_86 ?_
    refine lv_iload_n S.1 S.2.1 d_K_ownClock_89 rfl (lv_at hl 2 rfl) ?_
    refine fk_ia S E G (x + 3) (by have := fk_Xlt hX; omega) (congrArg (fk_ce g ov (x + 3) (M (x + 3))) (fk_kx3 hX)) i rfl (by omega) (by decide) (v := M (x + 3) i) rfl d_K_ownClock_90 ?_
    exact fk_iret S hr hlk E G rfl (by rw [hk]; rfl) d_K_ownClock_91
  · refine lv_aload_n S.1 S.2.1 d_K_ownClock_0 rfl (lv_at hl 1 rfl) ?_
    refine fk_gn S E G x (by have := fk_Xlt hX; omega) (v := .ref (fk_a g (x + 1))) (congrArg (fk_ce g ov x (M x)) (fk_kx0 hX)) rfl 0 (by decide) rfl (List.mem_of_getElem? (i := 1) rfl) rfl d_K_ownClock_1 ?_
    refine lv_iload_n S.1 S.2.1 d_K_ownClock_4 rfl (lv_at hl 2 rfl) ?_
    refine fk_ia S E G (x + 1) (by have := fk_Xlt hX; omega) (congrArg (fk_ce g ov (x + 1) (M (x + 1))) (fk_kx1 hX)) i rfl (by omega) (by decide) (v := nI 2) (by rw [hb i hok.1, hk]) d_K_ownClock_5 ?_
    refine lv_lookup (off := 79) (tgt := 85) S.1 S.2.1 d_K_ownClock_6 (by decide +kernel) (by decide +kernel) rfl ?_
    refine lv_aload_n S.1 S.2.1 d_K_ownClock_85 rfl (lv_at hl 1 rfl) ?_
    refine fk_gn S E G x (by have := fk_Xlt hX; omega) (v := .ref (fk_a g (x + 3))) (congrArg (fk_ce g ov x (M x)) (fk_kx0 hX)) rfl 2 (by decide) rfl (List.mem_of_getElem? (i := 6) rfl) rfl d_K_ownClock_86 ?_
    refine lv_iload_n S.1 S.2.1 d_K_ownClock_89 rfl (lv_at hl 2 rfl) ?_
    refine fk_ia S E G (x + 3) (by have := fk_Xlt hX; omega) (congrArg (fk_ce g ov (x + 3) (M (x + 3))) (fk_kx3 hX)) i rfl (by omega) (by decide) (v := M (x + 3) i) rfl d_K_ownClock_90 ?_
    exact fk_iret S hr hlk E G rfl (by rw [hk]; rfl) d_K_ownClock_91
  · refine lv_aload_n S.1 S.2.1 d_K_ownClock_0 rfl (lv_at hl 1 rfl) ?_
    refine fk_gn S E G x (by have := fk_Xlt hX; omega) (v := .ref (fk_a g (x + 1))) (congrArg (fk_ce g ov x (M x)) (fk_kx0 hX)) rfl 0 (by decide) rfl (List.mem_of_getElem? (i := 1) rfl) rfl d_K_ownClock_1 ?_
    refine lv_iload_n S.1 S.2.1 d_K_ownClock_4 rfl (lv_at hl 2 rfl) ?_
    refine fk_ia S E G (x + 1) (by have := fk_Xlt hX; omega) (congrArg (fk_ce g ov (x + 1) (M (x + 1))) (fk_kx1 hX)) i rfl (by omega) (by decide) (v := nI 3) (by rw [hb i hok.1, hk]) d_K_ownClock_5 ?_
    refine lv_lookup (off := 42) (tgt := 48) S.1 S.2.1 d_K_ownClock_6 (by decide +kernel) (by decide +kernel) rfl ?_
    have hw := hok.2.2.2 (by omega)
    have hd2 := fk_hd2 (k := bf i) (by omega)
    have hlen := hok.2.2.1
    refine lv_aload_n S.1 S.2.1 d_K_ownClock_48 rfl (lv_at hl 0 rfl) ?_
    refine fk_gf S E G 79 (by decide) (v := .ref (fk_a g 1)) (congrArg (fk_ce g ov 79 (M 79)) kd_79) rfl 0 (by decide) rfl i_156 rfl d_K_ownClock_49 ?_
    refine fk_gn S E G 1 (by decide) (v := .ref (fk_a g 2)) (congrArg (fk_ce g ov 1 (M 1)) kd_1) rfl 0 (by decide) rfl (List.mem_of_getElem? (i := 37) rfl) rfl d_K_ownClock_52 ?_
    refine lv_aload_n S.1 S.2.1 d_K_ownClock_55 rfl (lv_at hl 1 rfl) ?_
    refine lv_iload_n S.1 S.2.1 d_K_ownClock_56 rfl (lv_at hl 2 rfl) ?_
    refine fk_cni S E G x (by have := fk_Xlt hX; omega) (congrArg (fk_ce g ov x (M x)) (fk_kx0 hX)) rfl (rest := [.ref (fk_a g 2)]) (hb (i + 1) (by omega) ▸ c_E_named l g ov M x hX i (by omega)) m_E_named (List.mem_of_getElem? (i := 18) rfl) ⟨rfl, rfl⟩ ⟨by decide, by decide⟩ rfl rfl hl.1 (Nat.le_of_ble_eq_true rfl) d_K_ownClock_57 ⟨Nat.zero_le _, Nat.zero_le _⟩ (fun H locs G => ?_)
    refine fk_rw S E G (bf (i + 1)) rfl (by omega) d_K_ownClock_60 ?_
    refine fk_gn S E G (3 + 6 * (bf (i + 1))) (by omega) (v := .int (M (3 + 6 * (bf (i + 1))) 3)) (congrArg (fk_ce g ov (3 + 6 * (bf (i + 1))) (M (3 + 6 * (bf (i + 1))))) (fk_kf (show bf (i + 1) < 12 by omega))) rfl 3 (by decide) rfl (List.mem_of_getElem? (i := 27) rfl) rfl d_K_ownClock_61 ?_
    rw [hck _ (by omega)]
    exact fk_iret S hr hlk E G rfl (by rw [hk]; rfl) d_K_ownClock_64
  · refine lv_aload_n S.1 S.2.1 d_K_ownClock_0 rfl (lv_at hl 1 rfl) ?_
    refine fk_gn S E G x (by have := fk_Xlt hX; omega) (v := .ref (fk_a g (x + 1))) (congrArg (fk_ce g ov x (M x)) (fk_kx0 hX)) rfl 0 (by decide) rfl (List.mem_of_getElem? (i := 1) rfl) rfl d_K_ownClock_1 ?_
    refine lv_iload_n S.1 S.2.1 d_K_ownClock_4 rfl (lv_at hl 2 rfl) ?_
    refine fk_ia S E G (x + 1) (by have := fk_Xlt hX; omega) (congrArg (fk_ce g ov (x + 1) (M (x + 1))) (fk_kx1 hX)) i rfl (by omega) (by decide) (v := nI 4) (by rw [hb i hok.1, hk]) d_K_ownClock_5 ?_
    refine lv_lookup (off := 79) (tgt := 85) S.1 S.2.1 d_K_ownClock_6 (by decide +kernel) (by decide +kernel) rfl ?_
    refine lv_aload_n S.1 S.2.1 d_K_ownClock_85 rfl (lv_at hl 1 rfl) ?_
    refine fk_gn S E G x (by have := fk_Xlt hX; omega) (v := .ref (fk_a g (x + 3))) (congrArg (fk_ce g ov x (M x)) (fk_kx0 hX)) rfl 2 (by decide) rfl (List.mem_of_getElem? (i := 6) rfl) rfl d_K_ownClock_86 ?_
    refine lv_iload_n S.1 S.2.1 d_K_ownClock_89 rfl (lv_at hl 2 rfl) ?_
    refine fk_ia S E G (x + 3) (by have := fk_Xlt hX; omega) (congrArg (fk_ce g ov (x + 3) (M (x + 3))) (fk_kx3 hX)) i rfl (by omega) (by decide) (v := M (x + 3) i) rfl d_K_ownClock_90 ?_
    exact fk_iret S hr hlk E G rfl (by rw [hk]; rfl) d_K_ownClock_91
  · refine lv_aload_n S.1 S.2.1 d_K_ownClock_0 rfl (lv_at hl 1 rfl) ?_
    refine fk_gn S E G x (by have := fk_Xlt hX; omega) (v := .ref (fk_a g (x + 1))) (congrArg (fk_ce g ov x (M x)) (fk_kx0 hX)) rfl 0 (by decide) rfl (List.mem_of_getElem? (i := 1) rfl) rfl d_K_ownClock_1 ?_
    refine lv_iload_n S.1 S.2.1 d_K_ownClock_4 rfl (lv_at hl 2 rfl) ?_
    refine fk_ia S E G (x + 1) (by have := fk_Xlt hX; omega) (congrArg (fk_ce g ov (x + 1) (M (x + 1))) (fk_kx1 hX)) i rfl (by omega) (by decide) (v := nI 5) (by rw [hb i hok.1, hk]) d_K_ownClock_5 ?_
    refine lv_lookup (off := 79) (tgt := 85) S.1 S.2.1 d_K_ownClock_6 (by decide +kernel) (by decide +kernel) rfl ?_
    refine lv_aload_n S.1 S.2.1 d_K_ownClock_85 rfl (lv_at hl 1 rfl) ?_
    refine fk_gn S E G x (by have := fk_Xlt hX; omega) (v := .ref (fk_a g (x + 3))) (congrArg (fk_ce g ov x (M x)) (fk_kx0 hX)) rfl 2 (by decide) rfl (List.mem_of_getElem? (i := 6) rfl) rfl d_K_ownClock_86 ?_
    refine lv_iload_n S.1 S.2.1 d_K_ownClock_89 rfl (lv_at hl 2 rfl) ?_
    refine fk_ia S E G (x + 3) (by have := fk_Xlt hX; omega) (congrArg (fk_ce g ov (x + 3) (M (x + 3))) (fk_kx3 hX)) i rfl (by omega) (by decide) (v := M (x + 3) i) rfl d_K_ownClock_90 ?_
    exact fk_iret S hr hlk E G rfl (by rw [hk]; rfl) d_K_ownClock_91
  · refine lv_aload_n S.1 S.2.1 d_K_ownClock_0 rfl (lv_at hl 1 rfl) ?_
    refine fk_gn S E G x (by have := fk_Xlt hX; omega) (v := .ref (fk_a g (x + 1))) (congrArg (fk_ce g ov x (M x)) (fk_kx0 hX)) rfl 0 (by decide) rfl (List.mem_of_getElem? (i := 1) rfl) rfl d_K_ownClock_1 ?_
    refine lv_iload_n S.1 S.2.1 d_K_ownClock_4 rfl (lv_at hl 2 rfl) ?_
    refine fk_ia S E G (x + 1) (by have := fk_Xlt hX; omega) (congrArg (fk_ce g ov (x + 1) (M (x + 1))) (fk_kx1 hX)) i rfl (by omega) (by decide) (v := nI 6) (by rw [hb i hok.1, hk]) d_K_ownClock_5 ?_
    refine lv_lookup (off := 79) (tgt := 85) S.1 S.2.1 d_K_ownClock_6 (by decide +kernel) (by decide +kernel) rfl ?_
    refine lv_aload_n S.1 S.2.1 d_K_ownClock_85 rfl (lv_at hl 1 rfl) ?_
    refine fk_gn S E G x (by have := fk_Xlt hX; omega) (v := .ref (fk_a g (x + 3))) (congrArg (fk_ce g ov x (M x)) (fk_kx0 hX)) rfl 2 (by decide) rfl (List.mem_of_getElem? (i := 6) rfl) rfl d_K_ownClock_86 ?_
    refine lv_iload_n S.1 S.2.1 d_K_ownClock_89 rfl (lv_at hl 2 rfl) ?_
    refine fk_ia S E G (x + 3) (by have := fk_Xlt hX; omega) (congrArg (fk_ce g ov (x + 3) (M (x + 3))) (fk_kx3 hX)) i rfl (by omega) (by decide) (v := M (x + 3) i) rfl d_K_ownClock_90 ?_
    exact fk_iret S hr hlk E G rfl (by rw [hk]; rfl) d_K_ownClock_91
  · refine lv_aload_n S.1 S.2.1 d_K_ownClock_0 rfl (lv_at hl 1 rfl) ?_
    refine fk_gn S E G x (by have := fk_Xlt hX; omega) (v := .ref (fk_a g (x + 1))) (congrArg (fk_ce g ov x (M x)) (fk_kx0 hX)) rfl 0 (by decide) rfl (List.mem_of_getElem? (i := 1) rfl) rfl d_K_ownClock_1 ?_
    refine lv_iload_n S.1 S.2.1 d_K_ownClock_4 rfl (lv_at hl 2 rfl) ?_
    refine fk_ia S E G (x + 1) (by have := fk_Xlt hX; omega) (congrArg (fk_ce g ov (x + 1) (M (x + 1))) (fk_kx1 hX)) i rfl (by omega) (by decide) (v := nI 7) (by rw [hb i hok.1, hk]) d_K_ownClock_5 ?_
    refine lv_lookup (off := 79) (tgt := 85) S.1 S.2.1 d_K_ownClock_6 (by decide +kernel) (by decide +kernel) rfl ?_
    refine lv_aload_n S.1 S.2.1 d_K_ownClock_85 rfl (lv_at hl 1 rfl) ?_
    refine fk_gn S E G x (by have := fk_Xlt hX; omega) (v := .ref (fk_a g (x + 3))) (congrArg (fk_ce g ov x (M x)) (fk_kx0 hX)) rfl 2 (by decide) rfl (List.mem_of_getElem? (i := 6) rfl) rfl d_K_ownClock_86 ?_
    refine lv_iload_n S.1 S.2.1 d_K_ownClock_89 rfl (lv_at hl 2 rfl) ?_
    refine fk_ia S E G (x + 3) (by have := fk_Xlt hX; omega) (congrArg (fk_ce g ov (x + 3) (M (x + 3))) (fk_kx3 hX)) i rfl (by omega) (by decide) (v := M (x + 3) i) rfl d_K_ownClock_90 ?_
    exact fk_iret S hr hlk E G rfl (by rw [hk]; rfl) d_K_ownClock_91
  · refine lv_aload_n S.1 S.2.1 d_K_ownClock_0 rfl (lv_at hl 1 rfl) ?_
    refine fk_gn S E G x (by have := fk_Xlt hX; omega) (v := .ref (fk_a g (x + 1))) (congrArg (fk_ce g ov x (M x)) (fk_kx0 hX)) rfl 0 (by decide) rfl (List.mem_of_getElem? (i := 1) rfl) rfl d_K_ownClock_1 ?_
    refine lv_iload_n S.1 S.2.1 d_K_ownClock_4 rfl (lv_at hl 2 rfl) ?_
    refine fk_ia S E G (x + 1) (by have := fk_Xlt hX; omega) (congrArg (fk_ce g ov (x + 1) (M (x + 1))) (fk_kx1 hX)) i rfl (by omega) (by decide) (v := nI 8) (by rw [hb i hok.1, hk]) d_K_ownClock_5 ?_
    refine lv_lookup (off := 79) (tgt := 85) S.1 S.2.1 d_K_ownClock_6 (by decide +kernel) (by decide +kernel) rfl ?_
    refine lv_aload_n S.1 S.2.1 d_K_ownClock_85 rfl (lv_at hl 1 rfl) ?_
    refine fk_gn S E G x (by have := fk_Xlt hX; omega) (v := .ref (fk_a g (x + 3))) (congrArg (fk_ce g ov x (M x)) (fk_kx0 hX)) rfl 2 (by decide) rfl (List.mem_of_getElem? (i := 6) rfl) rfl d_K_ownClock_86 ?_
    refine lv_iload_n S.1 S.2.1 d_K_ownClock_89 rfl (lv_at hl 2 rfl) ?_
    refine fk_ia S E G (x + 3) (by have := fk_Xlt hX; omega) (congrArg (fk_ce g ov (x + 3) (M (x + 3))) (fk_kx3 hX)) i rfl (by omega) (by decide) (v := M (x + 3) i) rfl d_K_ownClock_90 ?_
    exact fk_iret S hr hlk E G rfl (by rw [hk]; rfl) d_K_ownClock_91
  · refine lv_aload_n S.1 S.2.1 d_K_ownClock_0 rfl (lv_at hl 1 rfl) ?_
    refine fk_gn S E G x (by have := fk_Xlt hX; omega) (v := .ref (fk_a g (x + 1))) (congrArg (fk_ce g ov x (M x)) (fk_kx0 hX)) rfl 0 (by decide) rfl (List.mem_of_getElem? (i := 1) rfl) rfl d_K_ownClock_1 ?_
    refine lv_iload_n S.1 S.2.1 d_K_ownClock_4 rfl (lv_at hl 2 rfl) ?_
    refine fk_ia S E G (x + 1) (by have := fk_Xlt hX; omega) (congrArg (fk_ce g ov (x + 1) (M (x + 1))) (fk_kx1 hX)) i rfl (by omega) (by decide) (v := nI 9) (by rw [hb i hok.1, hk]) d_K_ownClock_5 ?_
    refine lv_lookup (off := 79) (tgt := 85) S.1 S.2.1 d_K_ownClock_6 (by decide +kernel) (by decide +kernel) rfl ?_
    refine lv_aload_n S.1 S.2.1 d_K_ownClock_85 rfl (lv_at hl 1 rfl) ?_
    refine fk_gn S E G x (by have := fk_Xlt hX; omega) (v := .ref (fk_a g (x + 3))) (congrArg (fk_ce g ov x (M x)) (fk_kx0 hX)) rfl 2 (by decide) rfl (List.mem_of_getElem? (i := 6) rfl) rfl d_K_ownClock_86 ?_
    refine lv_iload_n S.1 S.2.1 d_K_ownClock_89 rfl (lv_at hl 2 rfl) ?_
    refine fk_ia S E G (x + 3) (by have := fk_Xlt hX; omega) (congrArg (fk_ce g ov (x + 3) (M (x + 3))) (fk_kx3 hX)) i rfl (by omega) (by decide) (v := M (x + 3) i) rfl d_K_ownClock_90 ?_
    exact fk_iret S hr hlk E G rfl (by rw [hk]; rfl) d_K_ownClock_91
  · refine lv_aload_n S.1 S.2.1 d_K_ownClock_0 rfl (lv_at hl 1 rfl) ?_
    refine fk_gn S E G x (by have := fk_Xlt hX; omega) (v := .ref (fk_a g (x + 1))) (congrArg (fk_ce g ov x (M x)) (fk_kx0 hX)) rfl 0 (by decide) rfl (List.mem_of_getElem? (i := 1) rfl) rfl d_K_ownClock_1 ?_
    refine lv_iload_n S.1 S.2.1 d_K_ownClock_4 rfl (lv_at hl 2 rfl) ?_
    refine fk_ia S E G (x + 1) (by have := fk_Xlt hX; omega) (congrArg (fk_ce g ov (x + 1) (M (x + 1))) (fk_kx1 hX)) i rfl (by omega) (by decide) (v := nI 10) (by rw [hb i hok.1, hk]) d_K_ownClock_5 ?_
    refine lv_lookup (off := 79) (tgt := 85) S.1 S.2.1 d_K_ownClock_6 (by decide +kernel) (by decide +kernel) rfl ?_
    refine lv_aload_n S.1 S.2.1 d_K_ownClock_85 rfl (lv_at hl 1 rfl) ?_
    refine fk_gn S E G x (by have := fk_Xlt hX; omega) (v := .ref (fk_a g (x + 3))) (congrArg (fk_ce g ov x (M x)) (fk_kx0 hX)) rfl 2 (by decide) rfl (List.mem_of_getElem? (i := 6) rfl) rfl d_K_ownClock_86 ?_
    refine lv_iload_n S.1 S.2.1 d_K_ownClock_89 rfl (lv_at hl 2 rfl) ?_
    refine fk_ia S E G (x + 3) (by have := fk_Xlt hX; omega) (congrArg (fk_ce g ov (x + 3) (M (x + 3))) (fk_kx3 hX)) i rfl (by omega) (by decide) (v := M (x + 3) i) rfl d_K_ownClock_90 ?_
    exact fk_iret S hr hlk E G rfl (by rw [hk]; rfl) d_K_ownClock_91
  · refine lv_aload_n S.1 S.2.1 d_K_ownClock_0 rfl (lv_at hl 1 rfl) ?_
    refine fk_gn S E G x (by have := fk_Xlt hX; omega) (v := .ref (fk_a g (x + 1))) (congrArg (fk_ce g ov x (M x)) (fk_kx0 hX)) rfl 0 (by decide) rfl (List.mem_of_getElem? (i := 1) rfl) rfl d_K_ownClock_1 ?_
    refine lv_iload_n S.1 S.2.1 d_K_ownClock_4 rfl (lv_at hl 2 rfl) ?_
    refine fk_ia S E G (x + 1) (by have := fk_Xlt hX; omega) (congrArg (fk_ce g ov (x + 1) (M (x + 1))) (fk_kx1 hX)) i rfl (by omega) (by decide) (v := nI 11) (by rw [hb i hok.1, hk]) d_K_ownClock_5 ?_
    refine lv_lookup (off := 79) (tgt := 85) S.1 S.2.1 d_K_ownClock_6 (by decide +kernel) (by decide +kernel) rfl ?_
    refine lv_aload_n S.1 S.2.1 d_K_ownClock_85 rfl (lv_at hl 1 rfl) ?_
    refine fk_gn S E G x (by have := fk_Xlt hX; omega) (v := .ref (fk_a g (x + 3))) (congrArg (fk_ce g ov x (M x)) (fk_kx0 hX)) rfl 2 (by decide) rfl (List.mem_of_getElem? (i := 6) rfl) rfl d_K_ownClock_86 ?_
    refine lv_iload_n S.1 S.2.1 d_K_ownClock_89 rfl (lv_at hl 2 rfl) ?_
    refine fk_ia S E G (x + 3) (by have := fk_Xlt hX; omega) (congrArg (fk_ce g ov (x + 3) (M (x + 3))) (fk_kx3 hX)) i rfl (by omega) (by decide) (v := M (x + 3) i) rfl d_K_ownClock_90 ?_
    exact fk_iret S hr hlk E G rfl (by rw [hk]; rfl) d_K_ownClock_91
  · refine lv_aload_n S.1 S.2.1 d_K_ownClock_0 rfl (lv_at hl 1 rfl) ?_
    refine fk_gn S E G x (by have := fk_Xlt hX; omega) (v := .ref (fk_a g (x + 1))) (congrArg (fk_ce g ov x (M x)) (fk_kx0 hX)) rfl 0 (by decide) rfl (List.mem_of_getElem? (i := 1) rfl) rfl d_K_ownClock_1 ?_
    refine lv_iload_n S.1 S.2.1 d_K_ownClock_4 rfl (lv_at hl 2 rfl) ?_
    refine fk_ia S E G (x + 1) (by have := fk_Xlt hX; omega) (congrArg (fk_ce g ov (x + 1) (M (x + 1))) (fk_kx1 hX)) i rfl (by omega) (by decide) (v := nI 12) (by rw [hb i hok.1, hk]) d_K_ownClock_5 ?_
    refine lv_lookup (off := 79) (tgt := 85) S.1 S.2.1 d_K_ownClock_6 (by decide +kernel) (by decide +kernel) rfl ?_
    refine lv_aload_n S.1 S.2.1 d_K_ownClock_85 rfl (lv_at hl 1 rfl) ?_
    refine fk_gn S E G x (by have := fk_Xlt hX; omega) (v := .ref (fk_a g (x + 3))) (congrArg (fk_ce g ov x (M x)) (fk_kx0 hX)) rfl 2 (by decide) rfl (List.mem_of_getElem? (i := 6) rfl) rfl d_K_ownClock_86 ?_
    refine lv_iload_n S.1 S.2.1 d_K_ownClock_89 rfl (lv_at hl 2 rfl) ?_
    refine fk_ia S E G (x + 3) (by have := fk_Xlt hX; omega) (congrArg (fk_ce g ov (x + 3) (M (x + 3))) (fk_kx3 hX)) i rfl (by omega) (by decide) (v := M (x + 3) i) rfl d_K_ownClock_90 ?_
    exact fk_iret S hr hlk E G rfl (by rw [hk]; rfl) d_K_ownClock_91
  · refine lv_aload_n S.1 S.2.1 d_K_ownClock_0 rfl (lv_at hl 1 rfl) ?_
    refine fk_gn S E G x (by have := fk_Xlt hX; omega) (v := .ref (fk_a g (x + 1))) (congrArg (fk_ce g ov x (M x)) (fk_kx0 hX)) rfl 0 (by decide) rfl (List.mem_of_getElem? (i := 1) rfl) rfl d_K_ownClock_1 ?_
    refine lv_iload_n S.1 S.2.1 d_K_ownClock_4 rfl (lv_at hl 2 rfl) ?_
    refine fk_ia S E G (x + 1) (by have := fk_Xlt hX; omega) (congrArg (fk_ce g ov (x + 1) (M (x + 1))) (fk_kx1 hX)) i rfl (by omega) (by decide) (v := nI 13) (by rw [hb i hok.1, hk]) d_K_ownClock_5 ?_
    refine lv_lookup (off := 79) (tgt := 85) S.1 S.2.1 d_K_ownClock_6 (by decide +kernel) (by decide +kernel) rfl ?_
    refine lv_aload_n S.1 S.2.1 d_K_ownClock_85 rfl (lv_at hl 1 rfl) ?_
    refine fk_gn S E G x (by have := fk_Xlt hX; omega) (v := .ref (fk_a g (x + 3))) (congrArg (fk_ce g ov x (M x)) (fk_kx0 hX)) rfl 2 (by decide) rfl (List.mem_of_getElem? (i := 6) rfl) rfl d_K_ownClock_86 ?_
    refine lv_iload_n S.1 S.2.1 d_K_ownClock_89 rfl (lv_at hl 2 rfl) ?_
    refine fk_ia S E G (x + 3) (by have := fk_Xlt hX; omega) (congrArg (fk_ce g ov (x + 3) (M (x + 3))) (fk_kx3 hX)) i rfl (by omega) (by decide) (v := M (x + 3) i) rfl d_K_ownClock_90 ?_
    exact fk_iret S hr hlk E G rfl (by rw [hk]; rfl) d_K_ownClock_91
  · refine lv_aload_n S.1 S.2.1 d_K_ownClock_0 rfl (lv_at hl 1 rfl) ?_
    refine fk_gn S E G x (by have := fk_Xlt hX; omega) (v := .ref (fk_a g (x + 1))) (congrArg (fk_ce g ov x (M x)) (fk_kx0 hX)) rfl 0 (by decide) rfl (List.mem_of_getElem? (i := 1) rfl) rfl d_K_ownClock_1 ?_
    refine lv_iload_n S.1 S.2.1 d_K_ownClock_4 rfl (lv_at hl 2 rfl) ?_
    refine fk_ia S E G (x + 1) (by have := fk_Xlt hX; omega) (congrArg (fk_ce g ov (x + 1) (M (x + 1))) (fk_kx1 hX)) i rfl (by omega) (by decide) (v := nI 14) (by rw [hb i hok.1, hk]) d_K_ownClock_5 ?_
    refine lv_lookup (off := 79) (tgt := 85) S.1 S.2.1 d_K_ownClock_6 (by decide +kernel) (by decide +kernel) rfl ?_
    refine lv_aload_n S.1 S.2.1 d_K_ownClock_85 rfl (lv_at hl 1 rfl) ?_
    refine fk_gn S E G x (by have := fk_Xlt hX; omega) (v := .ref (fk_a g (x + 3))) (congrArg (fk_ce g ov x (M x)) (fk_kx0 hX)) rfl 2 (by decide) rfl (List.mem_of_getElem? (i := 6) rfl) rfl d_K_ownClock_86 ?_
    refine lv_iload_n S.1 S.2.1 d_K_ownClock_89 rfl (lv_at hl 2 rfl) ?_
    refine fk_ia S E G (x + 3) (by have := fk_Xlt hX; omega) (congrArg (fk_ce g ov (x + 3) (M (x + 3))) (fk_kx3 hX)) i rfl (by omega) (by decide) (v := M (x + 3) i) rfl d_K_ownClock_90 ?_
    exact fk_iret S hr hlk E G rfl (by rw [hk]; rfl) d_K_ownClock_91
  · refine lv_aload_n S.1 S.2.1 d_K_ownClock_0 rfl (lv_at hl 1 rfl) ?_
    refine fk_gn S E G x (by have := fk_Xlt hX; omega) (v := .ref (fk_a g (x + 1))) (congrArg (fk_ce g ov x (M x)) (fk_kx0 hX)) rfl 0 (by decide) rfl (List.mem_of_getElem? (i := 1) rfl) rfl d_K_ownClock_1 ?_
    refine lv_iload_n S.1 S.2.1 d_K_ownClock_4 rfl (lv_at hl 2 rfl) ?_
    refine fk_ia S E G (x + 1) (by have := fk_Xlt hX; omega) (congrArg (fk_ce g ov (x + 1) (M (x + 1))) (fk_kx1 hX)) i rfl (by omega) (by decide) (v := nI 15) (by rw [hb i hok.1, hk]) d_K_ownClock_5 ?_
    refine lv_lookup (off := 79) (tgt := 85) S.1 S.2.1 d_K_ownClock_6 (by decide +kernel) (by decide +kernel) rfl ?_
    refine lv_aload_n S.1 S.2.1 d_K_ownClock_85 rfl (lv_at hl 1 rfl) ?_
    refine fk_gn S E G x (by have := fk_Xlt hX; omega) (v := .ref (fk_a g (x + 3))) (congrArg (fk_ce g ov x (M x)) (fk_kx0 hX)) rfl 2 (by decide) rfl (List.mem_of_getElem? (i := 6) rfl) rfl d_K_ownClock_86 ?_
    refine lv_iload_n S.1 S.2.1 d_K_ownClock_89 rfl (lv_at hl 2 rfl) ?_
    refine fk_ia S E G (x + 3) (by have := fk_Xlt hX; omega) (congrArg (fk_ce g ov (x + 3) (M (x + 3))) (fk_kx3 hX)) i rfl (by omega) (by decide) (v := M (x + 3) i) rfl d_K_ownClock_90 ?_
    exact fk_iret S hr hlk E G rfl (by rw [hk]; rfl) d_K_ownClock_91
  · refine lv_aload_n S.1 S.2.1 d_K_ownClock_0 rfl (lv_at hl 1 rfl) ?_
    refine fk_gn S E G x (by have := fk_Xlt hX; omega) (v := .ref (fk_a g (x + 1))) (congrArg (fk_ce g ov x (M x)) (fk_kx0 hX)) rfl 0 (by decide) rfl (List.mem_of_getElem? (i := 1) rfl) rfl d_K_ownClock_1 ?_
    refine lv_iload_n S.1 S.2.1 d_K_ownClock_4 rfl (lv_at hl 2 rfl) ?_
    refine fk_ia S E G (x + 1) (by have := fk_Xlt hX; omega) (congrArg (fk_ce g ov (x + 1) (M (x + 1))) (fk_kx1 hX)) i rfl (by omega) (by decide) (v := nI 16) (by rw [hb i hok.1, hk]) d_K_ownClock_5 ?_
    refine lv_lookup (off := 59) (tgt := 65) S.1 S.2.1 d_K_ownClock_6 (by decide +kernel) (by decide +kernel) rfl ?_
    have hw := hok.2.2.2 (by omega)
    have hd2 := fk_hd2 (k := bf i) (by omega)
    have hlen := hok.2.2.1
    refine lv_aload_n S.1 S.2.1 d_K_ownClock_65 rfl (lv_at hl 1 rfl) ?_
    refine lv_iload_n S.1 S.2.1 d_K_ownClock_66 rfl (lv_at hl 2 rfl) ?_
    refine fk_cni S E G x (by have := fk_Xlt hX; omega) (congrArg (fk_ce g ov x (M x)) (fk_kx0 hX)) rfl (rest := []) (hb (i + 1) (by omega) ▸ c_E_named l g ov M x hX i (by omega)) m_E_named (List.mem_of_getElem? (i := 18) rfl) ⟨rfl, rfl⟩ ⟨by decide, by decide⟩ rfl rfl hl.1 (Nat.le_of_ble_eq_true rfl) d_K_ownClock_67 ⟨Nat.zero_le _, Nat.zero_le _⟩ (fun H locs G => ?_)
    refine lv_iconst (v := nI 1) S.1 S.2.1 d_K_ownClock_70 (by decide +kernel) ?_
    refine fk_cti S E G (rest := []) (show fk_CI _ _ _ _ _ _ _ _ _ _ _ (nI (2 * bf (i + 1) + 1)) from c_D_clockWhere l g ov M (bf (i + 1)) 1 (by decide)) m_D_clockWhere (List.mem_of_getElem? (i := 21) rfl) ⟨rfl, rfl⟩ ⟨by decide, by decide⟩ rfl rfl hl.1 (Nat.le_of_ble_eq_true rfl) d_K_ownClock_71 ⟨Nat.zero_le _, Nat.zero_le _⟩ (fun H locs G => ?_)
    exact fk_iret S hr hlk E G rfl (by rw [hk]; rfl) d_K_ownClock_74
  · refine lv_aload_n S.1 S.2.1 d_K_ownClock_0 rfl (lv_at hl 1 rfl) ?_
    refine fk_gn S E G x (by have := fk_Xlt hX; omega) (v := .ref (fk_a g (x + 1))) (congrArg (fk_ce g ov x (M x)) (fk_kx0 hX)) rfl 0 (by decide) rfl (List.mem_of_getElem? (i := 1) rfl) rfl d_K_ownClock_1 ?_
    refine lv_iload_n S.1 S.2.1 d_K_ownClock_4 rfl (lv_at hl 2 rfl) ?_
    refine fk_ia S E G (x + 1) (by have := fk_Xlt hX; omega) (congrArg (fk_ce g ov (x + 1) (M (x + 1))) (fk_kx1 hX)) i rfl (by omega) (by decide) (v := nI 17) (by rw [hb i hok.1, hk]) d_K_ownClock_5 ?_
    refine lv_lookup (off := 69) (tgt := 75) S.1 S.2.1 d_K_ownClock_6 (by decide +kernel) (by decide +kernel) rfl ?_
    have hw := hok.2.2.2 (by omega)
    have hd2 := fk_hd2 (k := bf i) (by omega)
    have hlen := hok.2.2.1
    refine lv_aload_n S.1 S.2.1 d_K_ownClock_75 rfl (lv_at hl 1 rfl) ?_
    refine lv_iload_n S.1 S.2.1 d_K_ownClock_76 rfl (lv_at hl 2 rfl) ?_
    refine fk_cni S E G x (by have := fk_Xlt hX; omega) (congrArg (fk_ce g ov x (M x)) (fk_kx0 hX)) rfl (rest := []) (hb (i + 1) (by omega) ▸ c_E_named l g ov M x hX i (by omega)) m_E_named (List.mem_of_getElem? (i := 18) rfl) ⟨rfl, rfl⟩ ⟨by decide, by decide⟩ rfl rfl hl.1 (Nat.le_of_ble_eq_true rfl) d_K_ownClock_77 ⟨Nat.zero_le _, Nat.zero_le _⟩ (fun H locs G => ?_)
    refine lv_iconst (v := nI 0) S.1 S.2.1 d_K_ownClock_80 (by decide +kernel) ?_
    refine fk_cti S E G (rest := []) (show fk_CI _ _ _ _ _ _ _ _ _ _ _ (nI (2 * bf (i + 1) + 2)) from c_D_clockWhere l g ov M (bf (i + 1)) 0 (by decide)) m_D_clockWhere (List.mem_of_getElem? (i := 21) rfl) ⟨rfl, rfl⟩ ⟨by decide, by decide⟩ rfl rfl hl.1 (Nat.le_of_ble_eq_true rfl) d_K_ownClock_81 ⟨Nat.zero_le _, Nat.zero_le _⟩ (fun H locs G => ?_)
    exact fk_iret S hr hlk E G rfl (by rw [hk]; rfl) d_K_ownClock_84
  · refine lv_aload_n S.1 S.2.1 d_K_ownClock_0 rfl (lv_at hl 1 rfl) ?_
    refine fk_gn S E G x (by have := fk_Xlt hX; omega) (v := .ref (fk_a g (x + 1))) (congrArg (fk_ce g ov x (M x)) (fk_kx0 hX)) rfl 0 (by decide) rfl (List.mem_of_getElem? (i := 1) rfl) rfl d_K_ownClock_1 ?_
    refine lv_iload_n S.1 S.2.1 d_K_ownClock_4 rfl (lv_at hl 2 rfl) ?_
    refine fk_ia S E G (x + 1) (by have := fk_Xlt hX; omega) (congrArg (fk_ce g ov (x + 1) (M (x + 1))) (fk_kx1 hX)) i rfl (by omega) (by decide) (v := nI 18) (by rw [hb i hok.1, hk]) d_K_ownClock_5 ?_
    refine lv_lookup (off := 42) (tgt := 48) S.1 S.2.1 d_K_ownClock_6 (by decide +kernel) (by decide +kernel) rfl ?_
    have hw := hok.2.2.2 (by omega)
    have hd2 := fk_hd2 (k := bf i) (by omega)
    have hlen := hok.2.2.1
    refine lv_aload_n S.1 S.2.1 d_K_ownClock_48 rfl (lv_at hl 0 rfl) ?_
    refine fk_gf S E G 79 (by decide) (v := .ref (fk_a g 1)) (congrArg (fk_ce g ov 79 (M 79)) kd_79) rfl 0 (by decide) rfl i_156 rfl d_K_ownClock_49 ?_
    refine fk_gn S E G 1 (by decide) (v := .ref (fk_a g 2)) (congrArg (fk_ce g ov 1 (M 1)) kd_1) rfl 0 (by decide) rfl (List.mem_of_getElem? (i := 37) rfl) rfl d_K_ownClock_52 ?_
    refine lv_aload_n S.1 S.2.1 d_K_ownClock_55 rfl (lv_at hl 1 rfl) ?_
    refine lv_iload_n S.1 S.2.1 d_K_ownClock_56 rfl (lv_at hl 2 rfl) ?_
    refine fk_cni S E G x (by have := fk_Xlt hX; omega) (congrArg (fk_ce g ov x (M x)) (fk_kx0 hX)) rfl (rest := [.ref (fk_a g 2)]) (hb (i + 1) (by omega) ▸ c_E_named l g ov M x hX i (by omega)) m_E_named (List.mem_of_getElem? (i := 18) rfl) ⟨rfl, rfl⟩ ⟨by decide, by decide⟩ rfl rfl hl.1 (Nat.le_of_ble_eq_true rfl) d_K_ownClock_57 ⟨Nat.zero_le _, Nat.zero_le _⟩ (fun H locs G => ?_)
    refine fk_rw S E G (bf (i + 1)) rfl (by omega) d_K_ownClock_60 ?_
    refine fk_gn S E G (3 + 6 * (bf (i + 1))) (by omega) (v := .int (M (3 + 6 * (bf (i + 1))) 3)) (congrArg (fk_ce g ov (3 + 6 * (bf (i + 1))) (M (3 + 6 * (bf (i + 1))))) (fk_kf (show bf (i + 1) < 12 by omega))) rfl 3 (by decide) rfl (List.mem_of_getElem? (i := 27) rfl) rfl d_K_ownClock_61 ?_
    rw [hck _ (by omega)]
    exact fk_iret S hr hlk E G rfl (by rw [hk]; rfl) d_K_ownClock_64
theorem d_K_clockOfPart_0 : decode b_K_clockOfPart 0 = .ok (.aload_n 1, 1) := by decide +kernel
theorem d_K_clockOfPart_1 : decode b_K_clockOfPart 1 = .ok (.getfield 117, 3) := by decide +kernel
theorem d_K_clockOfPart_4 : decode b_K_clockOfPart 4 = .ok (.iload_n 2, 1) := by decide +kernel
theorem d_K_clockOfPart_5 : decode b_K_clockOfPart 5 = .ok (.iaload, 1) := by decide +kernel
theorem d_K_clockOfPart_6 : decode b_K_clockOfPart 6 = .ok (.tableswitch 61 16 18 #[26, 26, 43], 26) := by decide +kernel
theorem d_K_clockOfPart_32 : decode b_K_clockOfPart 32 = .ok (.aload_n 0, 1) := by decide +kernel
theorem d_K_clockOfPart_33 : decode b_K_clockOfPart 33 = .ok (.getfield 26, 3) := by decide +kernel
theorem d_K_clockOfPart_36 : decode b_K_clockOfPart 36 = .ok (.getfield 62, 3) := by decide +kernel
theorem d_K_clockOfPart_39 : decode b_K_clockOfPart 39 = .ok (.aload_n 1, 1) := by decide +kernel
theorem d_K_clockOfPart_40 : decode b_K_clockOfPart 40 = .ok (.iload_n 2, 1) := by decide +kernel
theorem d_K_clockOfPart_41 : decode b_K_clockOfPart 41 = .ok (.invokevirtual 120, 3) := by decide +kernel
theorem d_K_clockOfPart_44 : decode b_K_clockOfPart 44 = .ok (.aaload, 1) := by decide +kernel
theorem d_K_clockOfPart_45 : decode b_K_clockOfPart 45 = .ok (.getfield 91, 3) := by decide +kernel
theorem d_K_clockOfPart_48 : decode b_K_clockOfPart 48 = .ok (.ireturn, 1) := by decide +kernel
theorem d_K_clockOfPart_49 : decode b_K_clockOfPart 49 = .ok (.aload_n 1, 1) := by decide +kernel
theorem d_K_clockOfPart_50 : decode b_K_clockOfPart 50 = .ok (.iload_n 2, 1) := by decide +kernel
theorem d_K_clockOfPart_51 : decode b_K_clockOfPart 51 = .ok (.invokevirtual 120, 3) := by decide +kernel
theorem d_K_clockOfPart_54 : decode b_K_clockOfPart 54 = .ok (.iload_n 3, 1) := by decide +kernel
theorem d_K_clockOfPart_55 : decode b_K_clockOfPart 55 = .ok (.ifCond .ne 7, 3) := by decide +kernel
theorem d_K_clockOfPart_58 : decode b_K_clockOfPart 58 = .ok (.iconst 1, 1) := by decide +kernel
theorem d_K_clockOfPart_59 : decode b_K_clockOfPart 59 = .ok (.goto 4, 3) := by decide +kernel
theorem d_K_clockOfPart_62 : decode b_K_clockOfPart 62 = .ok (.iconst 0, 1) := by decide +kernel
theorem d_K_clockOfPart_63 : decode b_K_clockOfPart 63 = .ok (.invokestatic 150, 3) := by decide +kernel
theorem d_K_clockOfPart_66 : decode b_K_clockOfPart 66 = .ok (.ireturn, 1) := by decide +kernel
theorem d_K_clockOfPart_67 : decode b_K_clockOfPart 67 = .ok (.aload_n 1, 1) := by decide +kernel
theorem d_K_clockOfPart_68 : decode b_K_clockOfPart 68 = .ok (.getfield 141, 3) := by decide +kernel
theorem d_K_clockOfPart_71 : decode b_K_clockOfPart 71 = .ok (.iload_n 2, 1) := by decide +kernel
theorem d_K_clockOfPart_72 : decode b_K_clockOfPart 72 = .ok (.iaload, 1) := by decide +kernel
theorem d_K_clockOfPart_73 : decode b_K_clockOfPart 73 = .ok (.ireturn, 1) := by decide +kernel
theorem m_K_clockOfPart : fk_MI y_K_clockOfPart b_K_clockOfPart 4 (some .int) 3 := ⟨i_327, i_326, fk_mp (q := (y_K_clockOfPart, 7)) (by decide +kernel), i_6, by decide +kernel⟩
set_option maxHeartbeats 4000000 in
set_option maxRecDepth 100000 in
theorem c_K_clockOfPart (l : Launch) (g : fk_G) (ov : Int64) (M : fk_M) (x : Nat) (hX : fk_X x) (bf : Nat → Nat) (n cnt : Nat) (hn40 : n ≤ 40) (h12 : cnt ≤ 12) (hb : ∀ j, j < n → M (x + 1) j = nI (bf j)) (i : Nat) (hok : fk_ok bf n cnt i) (ck : Nat → Nat) (hck : ∀ j, j < 12 → M (3 + 6 * j) 3 = nI (ck j)) (q : Nat) (hq : q < 4) : fk_CI l y_K_clockOfPart b_K_clockOfPart 4 (some .int) (fk_rm 1) g ov M M [.ref (fk_a g 79), .ref (fk_a g x), .int (nI i), .int (nI q)] (fk_cpt ck (bf i) (bf (i + 1)) q (M (x + 3) i)) := by
  refine fk_ofI rfl (Nat.le_of_ble_eq_true rfl) ?_
  intro p e s m args below meth c ls S hr hlk E G hl
  have hl : lv_has ls 4 [(0, .ref (fk_a g 79)), (1, .ref (fk_a g x)), (2, .int (nI i)), (3, .int (nI q))] := hl
  have hok2 := hok.2.1
  have hi := hok.1
  rcases (show bf i = 0 ∨ bf i = 1 ∨ bf i = 2 ∨ bf i = 3 ∨ bf i = 4 ∨ bf i = 5 ∨ bf i = 6 ∨ bf i = 7 ∨ bf i = 8 ∨ bf i = 9 ∨ bf i = 10 ∨ bf i = 11 ∨ bf i = 12 ∨ bf i = 13 ∨ bf i = 14 ∨ bf i = 15 ∨ bf i = 16 ∨ bf i = 17 ∨ bf i = 18 by omega) with hk | hk | hk | hk | hk | hk | hk | hk | hk | hk | hk | hk | hk | hk | hk | hk | hk | hk | hk
  · refine lv_aload_n S.1 S.2.1 d_K_clockOfPart_0 rfl (lv_at hl 1 rfl) ?_
    refine fk_gn S E G x (by have := fk_Xlt hX; omega) (v := .ref (fk_a g (x + 1))) (congrArg (fk_ce g ov x (M x)) (fk_kx0 hX)) rfl 0 (by decide) rfl (List.mem_of_getElem? (i := 1) rfl) rfl d_K_clockOfPart_1 ?_
    refine lv_iload_n S.1 S.2.1 d_K_clockOfPart_4 rfl (lv_at hl 2 rfl) ?_
    refine fk_ia S E G (x + 1) (by have := fk_Xlt hX; omega) (congrArg (fk_ce g ov (x + 1) (M (x + 1))) (fk_kx1 hX)) i rfl (by omega) (by decide) (v := nI 0) (by rw [hb i hok.1, hk]) d_K_clockOfPart_5 ?_
    refine lv_tableOut (tgt := 67) S.1 S.2.1 d_K_clockOfPart_6 (by decide +kernel) rfl ?_
    refine lv_aload_n S.1 S.2.1 d_K_clockOfPart_67 rfl (lv_at hl 1 rfl) ?_
    refine fk_gn S E G x (by have := fk_Xlt hX; omega) (v := .ref (fk_a g (x + 3))) (congrArg (fk_ce g ov x (M x)) (fk_kx0 hX)) rfl 2 (by decide) rfl (List.mem_of_getElem? (i := 6) rfl) rfl d_K_clockOfPart_68 ?_
    refine lv_iload_n S.1 S.2.1 d_K_clockOfPart_71 rfl (lv_at hl 2 rfl) ?_
    refine fk_ia S E G (x + 3) (by have := fk_Xlt hX; omega) (congrArg (fk_ce g ov (x + 3) (M (x + 3))) (fk_kx3 hX)) i rfl (by omega) (by decide) (v := M (x + 3) i) rfl d_K_clockOfPart_72 ?_
    exact fk_iret S hr hlk E G rfl (by rw [hk]; rfl) d_K_clockOfPart_73
  · refine lv_aload_n S.1 S.2.1 d_K_clockOfPart_0 rfl (lv_at hl 1 rfl) ?_
    refine fk_gn S E G x (by have := fk_Xlt hX; omega) (v := .ref (fk_a g (x + 1))) (congrArg (fk_ce g ov x (M x)) (fk_kx0 hX)) rfl 0 (by decide) rfl (List.mem_of_getElem? (i := 1) rfl) rfl d_K_clockOfPart_1 ?_
    refine lv_iload_n S.1 S.2.1 d_K_clockOfPart_4 rfl (lv_at hl 2 rfl) ?_
    refine fk_ia S E G (x + 1) (by have := fk_Xlt hX; omega) (congrArg (fk_ce g ov (x + 1) (M (x + 1))) (fk_kx1 hX)) i rfl (by omega) (by decide) (v := nI 1) (by rw [hb i hok.1, hk]) d_K_clockOfPart_5 ?_
    refine lv_tableOut (tgt := 67) S.1 S.2.1 d_K_clockOfPart_6 (by decide +kernel) rfl ?_
    refine lv_aload_n S.1 S.2.1 d_K_clockOfPart_67 rfl (lv_at hl 1 rfl) ?_
    refine fk_gn S E G x (by have := fk_Xlt hX; omega) (v := .ref (fk_a g (x + 3))) (congrArg (fk_ce g ov x (M x)) (fk_kx0 hX)) rfl 2 (by decide) rfl (List.mem_of_getElem? (i := 6) rfl) rfl d_K_clockOfPart_68 ?_
    refine lv_iload_n S.1 S.2.1 d_K_clockOfPart_71 rfl (lv_at hl 2 rfl) ?_
    refine fk_ia S E G (x + 3) (by have := fk_Xlt hX; omega) (congrArg (fk_ce g ov (x + 3) (M (x + 3))) (fk_kx3 hX)) i rfl (by omega) (by decide) (v := M (x + 3) i) rfl d_K_clockOfPart_72 ?_
    exact fk_iret S hr hlk E G rfl (by rw [hk]; rfl) d_K_clockOfPart_73
  · refine lv_aload_n S.1 S.2.1 d_K_clockOfPart_0 rfl (lv_at hl 1 rfl) ?_
    refine fk_gn S E G x (by have := fk_Xlt hX; omega) (v := .ref (fk_a g (x + 1))) (congrArg (fk_ce g ov x (M x)) (fk_kx0 hX)) rfl 0 (by decide) rfl (List.mem_of_getElem? (i := 1) rfl) rfl d_K_clockOfPart_1 ?_
    refine lv_iload_n S.1 S.2.1 d_K_clockOfPart_4 rfl (lv_at hl 2 rfl) ?_
    refine fk_ia S E G (x + 1) (by have := fk_Xlt hX; omega) (congrArg (fk_ce g ov (x + 1) (M (x + 1))) (fk_kx1 hX)) i rfl (by omega) (by decide) (v := nI 2) (by rw [hb i hok.1, hk]) d_K_clockOfPart_5 ?_
    refine lv_tableOut (tgt := 67) S.1 S.2.1 d_K_clockOfPart_6 (by decide +kernel) rfl ?_
    refine lv_aload_n S.1 S.2.1 d_K_clockOfPart_67 rfl (lv_at hl 1 rfl) ?_
    refine fk_gn S E G x (by have := fk_Xlt hX; omega) (v := .ref (fk_a g (x + 3))) (congrArg (fk_ce g ov x (M x)) (fk_kx0 hX)) rfl 2 (by decide) rfl (List.mem_of_getElem? (i := 6) rfl) rfl d_K_clockOfPart_68 ?_
    refine lv_iload_n S.1 S.2.1 d_K_clockOfPart_71 rfl (lv_at hl 2 rfl) ?_
    refine fk_ia S E G (x + 3) (by have := fk_Xlt hX; omega) (congrArg (fk_ce g ov (x + 3) (M (x + 3))) (fk_kx3 hX)) i rfl (by omega) (by decide) (v := M (x + 3) i) rfl d_K_clockOfPart_72 ?_
    exact fk_iret S hr hlk E G rfl (by rw [hk]; rfl) d_K_clockOfPart_73
  · refine lv_aload_n S.1 S.2.1 d_K_clockOfPart_0 rfl (lv_at hl 1 rfl) ?_
    refine fk_gn S E G x (by have := fk_Xlt hX; omega) (v := .ref (fk_a g (x + 1))) (congrArg (fk_ce g ov x (M x)) (fk_kx0 hX)) rfl 0 (by decide) rfl (List.mem_of_getElem? (i := 1) rfl) rfl d_K_clockOfPart_1 ?_
    refine lv_iload_n S.1 S.2.1 d_K_clockOfPart_4 rfl (lv_at hl 2 rfl) ?_
    refine fk_ia S E G (x + 1) (by have := fk_Xlt hX; omega) (congrArg (fk_ce g ov (x + 1) (M (x + 1))) (fk_kx1 hX)) i rfl (by omega) (by decide) (v := nI 3) (by rw [hb i hok.1, hk]) d_K_clockOfPart_5 ?_
    refine lv_tableOut (tgt := 67) S.1 S.2.1 d_K_clockOfPart_6 (by decide +kernel) rfl ?_
    refine lv_aload_n S.1 S.2.1 d_K_clockOfPart_67 rfl (lv_at hl 1 rfl) ?_
    refine fk_gn S E G x (by have := fk_Xlt hX; omega) (v := .ref (fk_a g (x + 3))) (congrArg (fk_ce g ov x (M x)) (fk_kx0 hX)) rfl 2 (by decide) rfl (List.mem_of_getElem? (i := 6) rfl) rfl d_K_clockOfPart_68 ?_
    refine lv_iload_n S.1 S.2.1 d_K_clockOfPart_71 rfl (lv_at hl 2 rfl) ?_
    refine fk_ia S E G (x + 3) (by have := fk_Xlt hX; omega) (congrArg (fk_ce g ov (x + 3) (M (x + 3))) (fk_kx3 hX)) i rfl (by omega) (by decide) (v := M (x + 3) i) rfl d_K_clockOfPart_72 ?_
    exact fk_iret S hr hlk E G rfl (by rw [hk]; rfl) d_K_clockOfPart_73
  · refine lv_aload_n S.1 S.2.1 d_K_clockOfPart_0 rfl (lv_at hl 1 rfl) ?_
    refine fk_gn S E G x (by have := fk_Xlt hX; omega) (v := .ref (fk_a g (x + 1))) (congrArg (fk_ce g ov x (M x)) (fk_kx0 hX)) rfl 0 (by decide) rfl (List.mem_of_getElem? (i := 1) rfl) rfl d_K_clockOfPart_1 ?_
    refine lv_iload_n S.1 S.2.1 d_K_clockOfPart_4 rfl (lv_at hl 2 rfl) ?_
    refine fk_ia S E G (x + 1) (by have := fk_Xlt hX; omega) (congrArg (fk_ce g ov (x + 1) (M (x + 1))) (fk_kx1 hX)) i rfl (by omega) (by decide) (v := nI 4) (by rw [hb i hok.1, hk]) d_K_clockOfPart_5 ?_
    refine lv_tableOut (tgt := 67) S.1 S.2.1 d_K_clockOfPart_6 (by decide +kernel) rfl ?_
    refine lv_aload_n S.1 S.2.1 d_K_clockOfPart_67 rfl (lv_at hl 1 rfl) ?_
    refine fk_gn S E G x (by have := fk_Xlt hX; omega) (v := .ref (fk_a g (x + 3))) (congrArg (fk_ce g ov x (M x)) (fk_kx0 hX)) rfl 2 (by decide) rfl (List.mem_of_getElem? (i := 6) rfl) rfl d_K_clockOfPart_68 ?_
    refine lv_iload_n S.1 S.2.1 d_K_clockOfPart_71 rfl (lv_at hl 2 rfl) ?_
    refine fk_ia S E G (x + 3) (by have := fk_Xlt hX; omega) (congrArg (fk_ce g ov (x + 3) (M (x + 3))) (fk_kx3 hX)) i rfl (by omega) (by decide) (v := M (x + 3) i) rfl d_K_clockOfPart_72 ?_
    exact fk_iret S hr hlk E G rfl (by rw [hk]; rfl) d_K_clockOfPart_73
  · refine lv_aload_n S.1 S.2.1 d_K_clockOfPart_0 rfl (lv_at hl 1 rfl) ?_
    refine fk_gn S E G x (by have := fk_Xlt hX; omega) (v := .ref (fk_a g (x + 1))) (congrArg (fk_ce g ov x (M x)) (fk_kx0 hX)) rfl 0 (by decide) rfl (List.mem_of_getElem? (i := 1) rfl) rfl d_K_clockOfPart_1 ?_
    refine lv_iload_n S.1 S.2.1 d_K_clockOfPart_4 rfl (lv_at hl 2 rfl) ?_
    refine fk_ia S E G (x + 1) (by have := fk_Xlt hX; omega) (congrArg (fk_ce g ov (x + 1) (M (x + 1))) (fk_kx1 hX)) i rfl (by omega) (by decide) (v := nI 5) (by rw [hb i hok.1, hk]) d_K_clockOfPart_5 ?_
    refine lv_tableOut (tgt := 67) S.1 S.2.1 d_K_clockOfPart_6 (by decide +kernel) rfl ?_
    refine lv_aload_n S.1 S.2.1 d_K_clockOfPart_67 rfl (lv_at hl 1 rfl) ?_
    refine fk_gn S E G x (by have := fk_Xlt hX; omega) (v := .ref (fk_a g (x + 3))) (congrArg (fk_ce g ov x (M x)) (fk_kx0 hX)) rfl 2 (by decide) rfl (List.mem_of_getElem? (i := 6) rfl) rfl d_K_clockOfPart_68 ?_
    refine lv_iload_n S.1 S.2.1 d_K_clockOfPart_71 rfl (lv_at hl 2 rfl) ?_
    refine fk_ia S E G (x + 3) (by have := fk_Xlt hX; omega) (congrArg (fk_ce g ov (x + 3) (M (x + 3))) (fk_kx3 hX)) i rfl (by omega) (by decide) (v := M (x + 3) i) rfl d_K_clockOfPart_72 ?_
    exact fk_iret S hr hlk E G rfl (by rw [hk]; rfl) d_K_clockOfPart_73
  · refine lv_aload_n S.1 S.2.1 d_K_clockOfPart_0 rfl (lv_at hl 1 rfl) ?_
    refine fk_gn S E G x (by have := fk_Xlt hX; omega) (v := .ref (fk_a g (x + 1))) (congrArg (fk_ce g ov x (M x)) (fk_kx0 hX)) rfl 0 (by decide) rfl (List.mem_of_getElem? (i := 1) rfl) rfl d_K_clockOfPart_1 ?_
    refine lv_iload_n S.1 S.2.1 d_K_clockOfPart_4 rfl (lv_at hl 2 rfl) ?_
    refine fk_ia S E G (x + 1) (by have := fk_Xlt hX; omega) (congrArg (fk_ce g ov (x + 1) (M (x + 1))) (fk_kx1 hX)) i rfl (by omega) (by decide) (v := nI 6) (by rw [hb i hok.1, hk]) d_K_clockOfPart_5 ?_
    refine lv_tableOut (tgt := 67) S.1 S.2.1 d_K_clockOfPart_6 (by decide +kernel) rfl ?_
    refine lv_aload_n S.1 S.2.1 d_K_clockOfPart_67 rfl (lv_at hl 1 rfl) ?_
    refine fk_gn S E G x (by have := fk_Xlt hX; omega) (v := .ref (fk_a g (x + 3))) (congrArg (fk_ce g ov x (M x)) (fk_kx0 hX)) rfl 2 (by decide) rfl (List.mem_of_getElem? (i := 6) rfl) rfl d_K_clockOfPart_68 ?_
    refine lv_iload_n S.1 S.2.1 d_K_clockOfPart_71 rfl (lv_at hl 2 rfl) ?_
    refine fk_ia S E G (x + 3) (by have := fk_Xlt hX; omega) (congrArg (fk_ce g ov (x + 3) (M (x + 3))) (fk_kx3 hX)) i rfl (by omega) (by decide) (v := M (x + 3) i) rfl d_K_clockOfPart_72 ?_
    exact fk_iret S hr hlk E G rfl (by rw [hk]; rfl) d_K_clockOfPart_73
  · refine lv_aload_n S.1 S.2.1 d_K_clockOfPart_0 rfl (lv_at hl 1 rfl) ?_
    refine fk_gn S E G x (by have := fk_Xlt hX; omega) (v := .ref (fk_a g (x + 1))) (congrArg (fk_ce g ov x (M x)) (fk_kx0 hX)) rfl 0 (by decide) rfl (List.mem_of_getElem? (i := 1) rfl) rfl d_K_clockOfPart_1 ?_
    refine lv_iload_n S.1 S.2.1 d_K_clockOfPart_4 rfl (lv_at hl 2 rfl) ?_
    refine fk_ia S E G (x + 1) (by have := fk_Xlt hX; omega) (congrArg (fk_ce g ov (x + 1) (M (x + 1))) (fk_kx1 hX)) i rfl (by omega) (by decide) (v := nI 7) (by rw [hb i hok.1, hk]) d_K_clockOfPart_5 ?_
    refine lv_tableOut (tgt := 67) S.1 S.2.1 d_K_clockOfPart_6 (by decide +kernel) rfl ?_
    refine lv_aload_n S.1 S.2.1 d_K_clockOfPart_67 rfl (lv_at hl 1 rfl) ?_
    refine fk_gn S E G x (by have := fk_Xlt hX; omega) (v := .ref (fk_a g (x + 3))) (congrArg (fk_ce g ov x (M x)) (fk_kx0 hX)) rfl 2 (by decide) rfl (List.mem_of_getElem? (i := 6) rfl) rfl d_K_clockOfPart_68 ?_
    refine lv_iload_n S.1 S.2.1 d_K_clockOfPart_71 rfl (lv_at hl 2 rfl) ?_
    refine fk_ia S E G (x + 3) (by have := fk_Xlt hX; omega) (congrArg (fk_ce g ov (x + 3) (M (x + 3))) (fk_kx3 hX)) i rfl (by omega) (by decide) (v := M (x + 3) i) rfl d_K_clockOfPart_72 ?_
    exact fk_iret S hr hlk E G rfl (by rw [hk]; rfl) d_K_clockOfPart_73
  · refine lv_aload_n S.1 S.2.1 d_K_clockOfPart_0 rfl (lv_at hl 1 rfl) ?_
    refine fk_gn S E G x (by have := fk_Xlt hX; omega) (v := .ref (fk_a g (x + 1))) (congrArg (fk_ce g ov x (M x)) (fk_kx0 hX)) rfl 0 (by decide) rfl (List.mem_of_getElem? (i := 1) rfl) rfl d_K_clockOfPart_1 ?_
    refine lv_iload_n S.1 S.2.1 d_K_clockOfPart_4 rfl (lv_at hl 2 rfl) ?_
    refine fk_ia S E G (x + 1) (by have := fk_Xlt hX; omega) (congrArg (fk_ce g ov (x + 1) (M (x + 1))) (fk_kx1 hX)) i rfl (by omega) (by decide) (v := nI 8) (by rw [hb i hok.1, hk]) d_K_clockOfPart_5 ?_
    refine lv_tableOut (tgt := 67) S.1 S.2.1 d_K_clockOfPart_6 (by decide +kernel) rfl ?_
    refine lv_aload_n S.1 S.2.1 d_K_clockOfPart_67 rfl (lv_at hl 1 rfl) ?_
    refine fk_gn S E G x (by have := fk_Xlt hX; omega) (v := .ref (fk_a g (x + 3))) (congrArg (fk_ce g ov x (M x)) (fk_kx0 hX)) rfl 2 (by decide) rfl (List.mem_of_getElem? (i := 6) rfl) rfl d_K_clockOfPart_68 ?_
    refine lv_iload_n S.1 S.2.1 d_K_clockOfPart_71 rfl (lv_at hl 2 rfl) ?_
    refine fk_ia S E G (x + 3) (by have := fk_Xlt hX; omega) (congrArg (fk_ce g ov (x + 3) (M (x + 3))) (fk_kx3 hX)) i rfl (by omega) (by decide) (v := M (x + 3) i) rfl d_K_clockOfPart_72 ?_
    exact fk_iret S hr hlk E G rfl (by rw [hk]; rfl) d_K_clockOfPart_73
  · refine lv_aload_n S.1 S.2.1 d_K_clockOfPart_0 rfl (lv_at hl 1 rfl) ?_
    refine fk_gn S E G x (by have := fk_Xlt hX; omega) (v := .ref (fk_a g (x + 1))) (congrArg (fk_ce g ov x (M x)) (fk_kx0 hX)) rfl 0 (by decide) rfl (List.mem_of_getElem? (i := 1) rfl) rfl d_K_clockOfPart_1 ?_
    refine lv_iload_n S.1 S.2.1 d_K_clockOfPart_4 rfl (lv_at hl 2 rfl) ?_
    refine fk_ia S E G (x + 1) (by have := fk_Xlt hX; omega) (congrArg (fk_ce g ov (x + 1) (M (x + 1))) (fk_kx1 hX)) i rfl (by omega) (by decide) (v := nI 9) (by rw [hb i hok.1, hk]) d_K_clockOfPart_5 ?_
    refine lv_tableOut (tgt := 67) S.1 S.2.1 d_K_clockOfPart_6 (by decide +kernel) rfl ?_
    refine lv_aload_n S.1 S.2.1 d_K_clockOfPart_67 rfl (lv_at hl 1 rfl) ?_
    refine fk_gn S E G x (by have := fk_Xlt hX; omega) (v := .ref (fk_a g (x + 3))) (congrArg (fk_ce g ov x (M x)) (fk_kx0 hX)) rfl 2 (by decide) rfl (List.mem_of_getElem? (i := 6) rfl) rfl d_K_clockOfPart_68 ?_
    refine lv_iload_n S.1 S.2.1 d_K_clockOfPart_71 rfl (lv_at hl 2 rfl) ?_
    refine fk_ia S E G (x + 3) (by have := fk_Xlt hX; omega) (congrArg (fk_ce g ov (x + 3) (M (x + 3))) (fk_kx3 hX)) i rfl (by omega) (by decide) (v := M (x + 3) i) rfl d_K_clockOfPart_72 ?_
    exact fk_iret S hr hlk E G rfl (by rw [hk]; rfl) d_K_clockOfPart_73
  · refine lv_aload_n S.1 S.2.1 d_K_clockOfPart_0 rfl (lv_at hl 1 rfl) ?_
    refine fk_gn S E G x (by have := fk_Xlt hX; omega) (v := .ref (fk_a g (x + 1))) (congrArg (fk_ce g ov x (M x)) (fk_kx0 hX)) rfl 0 (by decide) rfl (List.mem_of_getElem? (i := 1) rfl) rfl d_K_clockOfPart_1 ?_
    refine lv_iload_n S.1 S.2.1 d_K_clockOfPart_4 rfl (lv_at hl 2 rfl) ?_
    refine fk_ia S E G (x + 1) (by have := fk_Xlt hX; omega) (congrArg (fk_ce g ov (x + 1) (M (x + 1))) (fk_kx1 hX)) i rfl (by omega) (by decide) (v := nI 10) (by rw [hb i hok.1, hk]) d_K_clockOfPart_5 ?_
    refine lv_tableOut (tgt := 67) S.1 S.2.1 d_K_clockOfPart_6 (by decide +kernel) rfl ?_
    refine lv_aload_n S.1 S.2.1 d_K_clockOfPart_67 rfl (lv_at hl 1 rfl) ?_
    refine fk_gn S E G x (by have := fk_Xlt hX; omega) (v := .ref (fk_a g (x + 3))) (congrArg (fk_ce g ov x (M x)) (fk_kx0 hX)) rfl 2 (by decide) rfl (List.mem_of_getElem? (i := 6) rfl) rfl d_K_clockOfPart_68 ?_
    refine lv_iload_n S.1 S.2.1 d_K_clockOfPart_71 rfl (lv_at hl 2 rfl) ?_
    refine fk_ia S E G (x + 3) (by have := fk_Xlt hX; omega) (congrArg (fk_ce g ov (x + 3) (M (x + 3))) (fk_kx3 hX)) i rfl (by omega) (by decide) (v := M (x + 3) i) rfl d_K_clockOfPart_72 ?_
    exact fk_iret S hr hlk E G rfl (by rw [hk]; rfl) d_K_clockOfPart_73
  · refine lv_aload_n S.1 S.2.1 d_K_clockOfPart_0 rfl (lv_at hl 1 rfl) ?_
    refine fk_gn S E G x (by have := fk_Xlt hX; omega) (v := .ref (fk_a g (x + 1))) (congrArg (fk_ce g ov x (M x)) (fk_kx0 hX)) rfl 0 (by decide) rfl (List.mem_of_getElem? (i := 1) rfl) rfl d_K_clockOfPart_1 ?_
    refine lv_iload_n S.1 S.2.1 d_K_clockOfPart_4 rfl (lv_at hl 2 rfl) ?_
    refine fk_ia S E G (x + 1) (by have := fk_Xlt hX; omega) (congrArg (fk_ce g ov (x + 1) (M (x + 1))) (fk_kx1 hX)) i rfl (by omega) (by decide) (v := nI 11) (by rw [hb i hok.1, hk]) d_K_clockOfPart_5 ?_
    refine lv_tableOut (tgt := 67) S.1 S.2.1 d_K_clockOfPart_6 (by decide +kernel) rfl ?_
    refine lv_aload_n S.1 S.2.1 d_K_clockOfPart_67 rfl (lv_at hl 1 rfl) ?_
    refine fk_gn S E G x (by have := fk_Xlt hX; omega) (v := .ref (fk_a g (x + 3))) (congrArg (fk_ce g ov x (M x)) (fk_kx0 hX)) rfl 2 (by decide) rfl (List.mem_of_getElem? (i := 6) rfl) rfl d_K_clockOfPart_68 ?_
    refine lv_iload_n S.1 S.2.1 d_K_clockOfPart_71 rfl (lv_at hl 2 rfl) ?_
    refine fk_ia S E G (x + 3) (by have := fk_Xlt hX; omega) (congrArg (fk_ce g ov (x + 3) (M (x + 3))) (fk_kx3 hX)) i rfl (by omega) (by decide) (v := M (x + 3) i) rfl d_K_clockOfPart_72 ?_
    exact fk_iret S hr hlk E G rfl (by rw [hk]; rfl) d_K_clockOfPart_73
  · refine lv_aload_n S.1 S.2.1 d_K_clockOfPart_0 rfl (lv_at hl 1 rfl) ?_
    refine fk_gn S E G x (by have := fk_Xlt hX; omega) (v := .ref (fk_a g (x + 1))) (congrArg (fk_ce g ov x (M x)) (fk_kx0 hX)) rfl 0 (by decide) rfl (List.mem_of_getElem? (i := 1) rfl) rfl d_K_clockOfPart_1 ?_
    refine lv_iload_n S.1 S.2.1 d_K_clockOfPart_4 rfl (lv_at hl 2 rfl) ?_
    refine fk_ia S E G (x + 1) (by have := fk_Xlt hX; omega) (congrArg (fk_ce g ov (x + 1) (M (x + 1))) (fk_kx1 hX)) i rfl (by omega) (by decide) (v := nI 12) (by rw [hb i hok.1, hk]) d_K_clockOfPart_5 ?_
    refine lv_tableOut (tgt := 67) S.1 S.2.1 d_K_clockOfPart_6 (by decide +kernel) rfl ?_
    refine lv_aload_n S.1 S.2.1 d_K_clockOfPart_67 rfl (lv_at hl 1 rfl) ?_
    refine fk_gn S E G x (by have := fk_Xlt hX; omega) (v := .ref (fk_a g (x + 3))) (congrArg (fk_ce g ov x (M x)) (fk_kx0 hX)) rfl 2 (by decide) rfl (List.mem_of_getElem? (i := 6) rfl) rfl d_K_clockOfPart_68 ?_
    refine lv_iload_n S.1 S.2.1 d_K_clockOfPart_71 rfl (lv_at hl 2 rfl) ?_
    refine fk_ia S E G (x + 3) (by have := fk_Xlt hX; omega) (congrArg (fk_ce g ov (x + 3) (M (x + 3))) (fk_kx3 hX)) i rfl (by omega) (by decide) (v := M (x + 3) i) rfl d_K_clockOfPart_72 ?_
    exact fk_iret S hr hlk E G rfl (by rw [hk]; rfl) d_K_clockOfPart_73
  · refine lv_aload_n S.1 S.2.1 d_K_clockOfPart_0 rfl (lv_at hl 1 rfl) ?_
    refine fk_gn S E G x (by have := fk_Xlt hX; omega) (v := .ref (fk_a g (x + 1))) (congrArg (fk_ce g ov x (M x)) (fk_kx0 hX)) rfl 0 (by decide) rfl (List.mem_of_getElem? (i := 1) rfl) rfl d_K_clockOfPart_1 ?_
    refine lv_iload_n S.1 S.2.1 d_K_clockOfPart_4 rfl (lv_at hl 2 rfl) ?_
    refine fk_ia S E G (x + 1) (by have := fk_Xlt hX; omega) (congrArg (fk_ce g ov (x + 1) (M (x + 1))) (fk_kx1 hX)) i rfl (by omega) (by decide) (v := nI 13) (by rw [hb i hok.1, hk]) d_K_clockOfPart_5 ?_
    refine lv_tableOut (tgt := 67) S.1 S.2.1 d_K_clockOfPart_6 (by decide +kernel) rfl ?_
    refine lv_aload_n S.1 S.2.1 d_K_clockOfPart_67 rfl (lv_at hl 1 rfl) ?_
    refine fk_gn S E G x (by have := fk_Xlt hX; omega) (v := .ref (fk_a g (x + 3))) (congrArg (fk_ce g ov x (M x)) (fk_kx0 hX)) rfl 2 (by decide) rfl (List.mem_of_getElem? (i := 6) rfl) rfl d_K_clockOfPart_68 ?_
    refine lv_iload_n S.1 S.2.1 d_K_clockOfPart_71 rfl (lv_at hl 2 rfl) ?_
    refine fk_ia S E G (x + 3) (by have := fk_Xlt hX; omega) (congrArg (fk_ce g ov (x + 3) (M (x + 3))) (fk_kx3 hX)) i rfl (by omega) (by decide) (v := M (x + 3) i) rfl d_K_clockOfPart_72 ?_
    exact fk_iret S hr hlk E G rfl (by rw [hk]; rfl) d_K_clockOfPart_73
  · refine lv_aload_n S.1 S.2.1 d_K_clockOfPart_0 rfl (lv_at hl 1 rfl) ?_
    refine fk_gn S E G x (by have := fk_Xlt hX; omega) (v := .ref (fk_a g (x + 1))) (congrArg (fk_ce g ov x (M x)) (fk_kx0 hX)) rfl 0 (by decide) rfl (List.mem_of_getElem? (i := 1) rfl) rfl d_K_clockOfPart_1 ?_
    refine lv_iload_n S.1 S.2.1 d_K_clockOfPart_4 rfl (lv_at hl 2 rfl) ?_
    refine fk_ia S E G (x + 1) (by have := fk_Xlt hX; omega) (congrArg (fk_ce g ov (x + 1) (M (x + 1))) (fk_kx1 hX)) i rfl (by omega) (by decide) (v := nI 14) (by rw [hb i hok.1, hk]) d_K_clockOfPart_5 ?_
    refine lv_tableOut (tgt := 67) S.1 S.2.1 d_K_clockOfPart_6 (by decide +kernel) rfl ?_
    refine lv_aload_n S.1 S.2.1 d_K_clockOfPart_67 rfl (lv_at hl 1 rfl) ?_
    refine fk_gn S E G x (by have := fk_Xlt hX; omega) (v := .ref (fk_a g (x + 3))) (congrArg (fk_ce g ov x (M x)) (fk_kx0 hX)) rfl 2 (by decide) rfl (List.mem_of_getElem? (i := 6) rfl) rfl d_K_clockOfPart_68 ?_
    refine lv_iload_n S.1 S.2.1 d_K_clockOfPart_71 rfl (lv_at hl 2 rfl) ?_
    refine fk_ia S E G (x + 3) (by have := fk_Xlt hX; omega) (congrArg (fk_ce g ov (x + 3) (M (x + 3))) (fk_kx3 hX)) i rfl (by omega) (by decide) (v := M (x + 3) i) rfl d_K_clockOfPart_72 ?_
    exact fk_iret S hr hlk E G rfl (by rw [hk]; rfl) d_K_clockOfPart_73
  · refine lv_aload_n S.1 S.2.1 d_K_clockOfPart_0 rfl (lv_at hl 1 rfl) ?_
    refine fk_gn S E G x (by have := fk_Xlt hX; omega) (v := .ref (fk_a g (x + 1))) (congrArg (fk_ce g ov x (M x)) (fk_kx0 hX)) rfl 0 (by decide) rfl (List.mem_of_getElem? (i := 1) rfl) rfl d_K_clockOfPart_1 ?_
    refine lv_iload_n S.1 S.2.1 d_K_clockOfPart_4 rfl (lv_at hl 2 rfl) ?_
    refine fk_ia S E G (x + 1) (by have := fk_Xlt hX; omega) (congrArg (fk_ce g ov (x + 1) (M (x + 1))) (fk_kx1 hX)) i rfl (by omega) (by decide) (v := nI 15) (by rw [hb i hok.1, hk]) d_K_clockOfPart_5 ?_
    refine lv_tableOut (tgt := 67) S.1 S.2.1 d_K_clockOfPart_6 (by decide +kernel) rfl ?_
    refine lv_aload_n S.1 S.2.1 d_K_clockOfPart_67 rfl (lv_at hl 1 rfl) ?_
    refine fk_gn S E G x (by have := fk_Xlt hX; omega) (v := .ref (fk_a g (x + 3))) (congrArg (fk_ce g ov x (M x)) (fk_kx0 hX)) rfl 2 (by decide) rfl (List.mem_of_getElem? (i := 6) rfl) rfl d_K_clockOfPart_68 ?_
    refine lv_iload_n S.1 S.2.1 d_K_clockOfPart_71 rfl (lv_at hl 2 rfl) ?_
    refine fk_ia S E G (x + 3) (by have := fk_Xlt hX; omega) (congrArg (fk_ce g ov (x + 3) (M (x + 3))) (fk_kx3 hX)) i rfl (by omega) (by decide) (v := M (x + 3) i) rfl d_K_clockOfPart_72 ?_
    exact fk_iret S hr hlk E G rfl (by rw [hk]; rfl) d_K_clockOfPart_73
  · refine lv_aload_n S.1 S.2.1 d_K_clockOfPart_0 rfl (lv_at hl 1 rfl) ?_
    refine fk_gn S E G x (by have := fk_Xlt hX; omega) (v := .ref (fk_a g (x + 1))) (congrArg (fk_ce g ov x (M x)) (fk_kx0 hX)) rfl 0 (by decide) rfl (List.mem_of_getElem? (i := 1) rfl) rfl d_K_clockOfPart_1 ?_
    refine lv_iload_n S.1 S.2.1 d_K_clockOfPart_4 rfl (lv_at hl 2 rfl) ?_
    refine fk_ia S E G (x + 1) (by have := fk_Xlt hX; omega) (congrArg (fk_ce g ov (x + 1) (M (x + 1))) (fk_kx1 hX)) i rfl (by omega) (by decide) (v := nI 16) (by rw [hb i hok.1, hk]) d_K_clockOfPart_5 ?_
    refine lv_tableIn (off := 26) (tgt := 32) S.1 S.2.1 d_K_clockOfPart_6 (by decide +kernel) (by decide +kernel) (by decide +kernel) rfl ?_
    have hw := hok.2.2.2 (by omega)
    have hd2 := fk_hd2 (k := bf i) (by omega)
    have hlen := hok.2.2.1
    refine lv_aload_n S.1 S.2.1 d_K_clockOfPart_32 rfl (lv_at hl 0 rfl) ?_
    refine fk_gf S E G 79 (by decide) (v := .ref (fk_a g 1)) (congrArg (fk_ce g ov 79 (M 79)) kd_79) rfl 0 (by decide) rfl i_156 rfl d_K_clockOfPart_33 ?_
    refine fk_gn S E G 1 (by decide) (v := .ref (fk_a g 2)) (congrArg (fk_ce g ov 1 (M 1)) kd_1) rfl 0 (by decide) rfl (List.mem_of_getElem? (i := 37) rfl) rfl d_K_clockOfPart_36 ?_
    refine lv_aload_n S.1 S.2.1 d_K_clockOfPart_39 rfl (lv_at hl 1 rfl) ?_
    refine lv_iload_n S.1 S.2.1 d_K_clockOfPart_40 rfl (lv_at hl 2 rfl) ?_
    refine fk_cni S E G x (by have := fk_Xlt hX; omega) (congrArg (fk_ce g ov x (M x)) (fk_kx0 hX)) rfl (rest := [.ref (fk_a g 2)]) (hb (i + 1) (by omega) ▸ c_E_named l g ov M x hX i (by omega)) m_E_named (List.mem_of_getElem? (i := 18) rfl) ⟨rfl, rfl⟩ ⟨by decide, by decide⟩ rfl rfl hl.1 (Nat.le_of_ble_eq_true rfl) d_K_clockOfPart_41 ⟨Nat.zero_le _, Nat.zero_le _⟩ (fun H locs G => ?_)
    refine fk_rw S E G (bf (i + 1)) rfl (by omega) d_K_clockOfPart_44 ?_
    refine fk_gn S E G (3 + 6 * (bf (i + 1))) (by omega) (v := .int (M (3 + 6 * (bf (i + 1))) 3)) (congrArg (fk_ce g ov (3 + 6 * (bf (i + 1))) (M (3 + 6 * (bf (i + 1))))) (fk_kf (show bf (i + 1) < 12 by omega))) rfl 3 (by decide) rfl (List.mem_of_getElem? (i := 27) rfl) rfl d_K_clockOfPart_45 ?_
    rw [hck _ (by omega)]
    exact fk_iret S hr hlk E G rfl (by rw [hk]; rfl) d_K_clockOfPart_48
  · refine lv_aload_n S.1 S.2.1 d_K_clockOfPart_0 rfl (lv_at hl 1 rfl) ?_
    refine fk_gn S E G x (by have := fk_Xlt hX; omega) (v := .ref (fk_a g (x + 1))) (congrArg (fk_ce g ov x (M x)) (fk_kx0 hX)) rfl 0 (by decide) rfl (List.mem_of_getElem? (i := 1) rfl) rfl d_K_clockOfPart_1 ?_
    refine lv_iload_n S.1 S.2.1 d_K_clockOfPart_4 rfl (lv_at hl 2 rfl) ?_
    refine fk_ia S E G (x + 1) (by have := fk_Xlt hX; omega) (congrArg (fk_ce g ov (x + 1) (M (x + 1))) (fk_kx1 hX)) i rfl (by omega) (by decide) (v := nI 17) (by rw [hb i hok.1, hk]) d_K_clockOfPart_5 ?_
    refine lv_tableIn (off := 26) (tgt := 32) S.1 S.2.1 d_K_clockOfPart_6 (by decide +kernel) (by decide +kernel) (by decide +kernel) rfl ?_
    have hw := hok.2.2.2 (by omega)
    have hd2 := fk_hd2 (k := bf i) (by omega)
    have hlen := hok.2.2.1
    refine lv_aload_n S.1 S.2.1 d_K_clockOfPart_32 rfl (lv_at hl 0 rfl) ?_
    refine fk_gf S E G 79 (by decide) (v := .ref (fk_a g 1)) (congrArg (fk_ce g ov 79 (M 79)) kd_79) rfl 0 (by decide) rfl i_156 rfl d_K_clockOfPart_33 ?_
    refine fk_gn S E G 1 (by decide) (v := .ref (fk_a g 2)) (congrArg (fk_ce g ov 1 (M 1)) kd_1) rfl 0 (by decide) rfl (List.mem_of_getElem? (i := 37) rfl) rfl d_K_clockOfPart_36 ?_
    refine lv_aload_n S.1 S.2.1 d_K_clockOfPart_39 rfl (lv_at hl 1 rfl) ?_
    refine lv_iload_n S.1 S.2.1 d_K_clockOfPart_40 rfl (lv_at hl 2 rfl) ?_
    refine fk_cni S E G x (by have := fk_Xlt hX; omega) (congrArg (fk_ce g ov x (M x)) (fk_kx0 hX)) rfl (rest := [.ref (fk_a g 2)]) (hb (i + 1) (by omega) ▸ c_E_named l g ov M x hX i (by omega)) m_E_named (List.mem_of_getElem? (i := 18) rfl) ⟨rfl, rfl⟩ ⟨by decide, by decide⟩ rfl rfl hl.1 (Nat.le_of_ble_eq_true rfl) d_K_clockOfPart_41 ⟨Nat.zero_le _, Nat.zero_le _⟩ (fun H locs G => ?_)
    refine fk_rw S E G (bf (i + 1)) rfl (by omega) d_K_clockOfPart_44 ?_
    refine fk_gn S E G (3 + 6 * (bf (i + 1))) (by omega) (v := .int (M (3 + 6 * (bf (i + 1))) 3)) (congrArg (fk_ce g ov (3 + 6 * (bf (i + 1))) (M (3 + 6 * (bf (i + 1))))) (fk_kf (show bf (i + 1) < 12 by omega))) rfl 3 (by decide) rfl (List.mem_of_getElem? (i := 27) rfl) rfl d_K_clockOfPart_45 ?_
    rw [hck _ (by omega)]
    exact fk_iret S hr hlk E G rfl (by rw [hk]; rfl) d_K_clockOfPart_48
  · refine lv_aload_n S.1 S.2.1 d_K_clockOfPart_0 rfl (lv_at hl 1 rfl) ?_
    refine fk_gn S E G x (by have := fk_Xlt hX; omega) (v := .ref (fk_a g (x + 1))) (congrArg (fk_ce g ov x (M x)) (fk_kx0 hX)) rfl 0 (by decide) rfl (List.mem_of_getElem? (i := 1) rfl) rfl d_K_clockOfPart_1 ?_
    refine lv_iload_n S.1 S.2.1 d_K_clockOfPart_4 rfl (lv_at hl 2 rfl) ?_
    refine fk_ia S E G (x + 1) (by have := fk_Xlt hX; omega) (congrArg (fk_ce g ov (x + 1) (M (x + 1))) (fk_kx1 hX)) i rfl (by omega) (by decide) (v := nI 18) (by rw [hb i hok.1, hk]) d_K_clockOfPart_5 ?_
    refine lv_tableIn (off := 43) (tgt := 49) S.1 S.2.1 d_K_clockOfPart_6 (by decide +kernel) (by decide +kernel) (by decide +kernel) rfl ?_
    have hw := hok.2.2.2 (by omega)
    have hd2 := fk_hd2 (k := bf i) (by omega)
    have hlen := hok.2.2.1
    refine lv_aload_n S.1 S.2.1 d_K_clockOfPart_49 rfl (lv_at hl 1 rfl) ?_
    refine lv_iload_n S.1 S.2.1 d_K_clockOfPart_50 rfl (lv_at hl 2 rfl) ?_
    refine fk_cni S E G x (by have := fk_Xlt hX; omega) (congrArg (fk_ce g ov x (M x)) (fk_kx0 hX)) rfl (rest := []) (hb (i + 1) (by omega) ▸ c_E_named l g ov M x hX i (by omega)) m_E_named (List.mem_of_getElem? (i := 18) rfl) ⟨rfl, rfl⟩ ⟨by decide, by decide⟩ rfl rfl hl.1 (Nat.le_of_ble_eq_true rfl) d_K_clockOfPart_51 ⟨Nat.zero_le _, Nat.zero_le _⟩ (fun H locs G => ?_)
    refine lv_iload_n S.1 S.2.1 d_K_clockOfPart_54 rfl (lv_at hl 3 rfl) ?_
    refine fk_zne (tgt := 62) S.1 S.2.1 (by omega) d_K_clockOfPart_55 rfl (fun hc1 => ?_) (fun hc1 => ?_)
    · refine lv_iconst (v := nI 0) S.1 S.2.1 d_K_clockOfPart_62 (by decide +kernel) ?_
      refine fk_cti S E G (rest := []) (show fk_CI _ _ _ _ _ _ _ _ _ _ _ (nI (2 * bf (i + 1) + 2)) from c_D_clockWhere l g ov M (bf (i + 1)) 0 (by decide)) m_D_clockWhere (List.mem_of_getElem? (i := 21) rfl) ⟨rfl, rfl⟩ ⟨by decide, by decide⟩ rfl rfl hl.1 (Nat.le_of_ble_eq_true rfl) d_K_clockOfPart_63 ⟨Nat.zero_le _, Nat.zero_le _⟩ (fun H locs G => ?_)
      exact fk_iret S hr hlk E G rfl (by rw [hk]; show _ = nI (2 * bf (i + 1) + if q = 0 then 1 else 2); rw [if_neg (by omega)]) d_K_clockOfPart_66
    · refine lv_iconst (v := nI 1) S.1 S.2.1 d_K_clockOfPart_58 (by decide +kernel) ?_
      refine lv_goto (tgt := 63) S.1 S.2.1 d_K_clockOfPart_59 rfl ?_
      refine fk_cti S E G (rest := []) (show fk_CI _ _ _ _ _ _ _ _ _ _ _ (nI (2 * bf (i + 1) + 1)) from c_D_clockWhere l g ov M (bf (i + 1)) 1 (by decide)) m_D_clockWhere (List.mem_of_getElem? (i := 21) rfl) ⟨rfl, rfl⟩ ⟨by decide, by decide⟩ rfl rfl hl.1 (Nat.le_of_ble_eq_true rfl) d_K_clockOfPart_63 ⟨Nat.zero_le _, Nat.zero_le _⟩ (fun H locs G => ?_)
      exact fk_iret S hr hlk E G rfl (by rw [hk]; show _ = nI (2 * bf (i + 1) + if q = 0 then 1 else 2); rw [if_pos hc1]) d_K_clockOfPart_66
theorem d_K_wantClocksOfParts_0 : decode b_K_wantClocksOfParts 0 = .ok (.aload_n 1, 1) := by decide +kernel
theorem d_K_wantClocksOfParts_1 : decode b_K_wantClocksOfParts 1 = .ok (.iload_n 2, 1) := by decide +kernel
theorem d_K_wantClocksOfParts_2 : decode b_K_wantClocksOfParts 2 = .ok (.invokevirtual 132, 3) := by decide +kernel
theorem d_K_wantClocksOfParts_5 : decode b_K_wantClocksOfParts 5 = .ok (.istore_n 3, 1) := by decide +kernel
theorem d_K_wantClocksOfParts_6 : decode b_K_wantClocksOfParts 6 = .ok (.iconst 0, 1) := by decide +kernel
theorem d_K_wantClocksOfParts_7 : decode b_K_wantClocksOfParts 7 = .ok (.istore 4, 2) := by decide +kernel
theorem d_K_wantClocksOfParts_9 : decode b_K_wantClocksOfParts 9 = .ok (.iload 4, 2) := by decide +kernel
theorem d_K_wantClocksOfParts_11 : decode b_K_wantClocksOfParts 11 = .ok (.getstatic 135, 3) := by decide +kernel
theorem d_K_wantClocksOfParts_14 : decode b_K_wantClocksOfParts 14 = .ok (.aload_n 1, 1) := by decide +kernel
theorem d_K_wantClocksOfParts_15 : decode b_K_wantClocksOfParts 15 = .ok (.getfield 117, 3) := by decide +kernel
theorem d_K_wantClocksOfParts_18 : decode b_K_wantClocksOfParts 18 = .ok (.iload_n 2, 1) := by decide +kernel
theorem d_K_wantClocksOfParts_19 : decode b_K_wantClocksOfParts 19 = .ok (.iaload, 1) := by decide +kernel
theorem d_K_wantClocksOfParts_20 : decode b_K_wantClocksOfParts 20 = .ok (.iaload, 1) := by decide +kernel
theorem d_K_wantClocksOfParts_21 : decode b_K_wantClocksOfParts 21 = .ok (.if_icmp .ge 30, 3) := by decide +kernel
theorem d_K_wantClocksOfParts_24 : decode b_K_wantClocksOfParts 24 = .ok (.aload_n 1, 1) := by decide +kernel
theorem d_K_wantClocksOfParts_25 : decode b_K_wantClocksOfParts 25 = .ok (.getfield 141, 3) := by decide +kernel
theorem d_K_wantClocksOfParts_28 : decode b_K_wantClocksOfParts 28 = .ok (.iload_n 3, 1) := by decide +kernel
theorem d_K_wantClocksOfParts_29 : decode b_K_wantClocksOfParts 29 = .ok (.aload_n 0, 1) := by decide +kernel
theorem d_K_wantClocksOfParts_30 : decode b_K_wantClocksOfParts 30 = .ok (.aload_n 1, 1) := by decide +kernel
theorem d_K_wantClocksOfParts_31 : decode b_K_wantClocksOfParts 31 = .ok (.iload_n 2, 1) := by decide +kernel
theorem d_K_wantClocksOfParts_32 : decode b_K_wantClocksOfParts 32 = .ok (.iload 4, 2) := by decide +kernel
theorem d_K_wantClocksOfParts_34 : decode b_K_wantClocksOfParts 34 = .ok (.invokevirtual 154, 3) := by decide +kernel
theorem d_K_wantClocksOfParts_37 : decode b_K_wantClocksOfParts 37 = .ok (.iastore, 1) := by decide +kernel
theorem d_K_wantClocksOfParts_38 : decode b_K_wantClocksOfParts 38 = .ok (.aload_n 1, 1) := by decide +kernel
theorem d_K_wantClocksOfParts_39 : decode b_K_wantClocksOfParts 39 = .ok (.getfield 138, 3) := by decide +kernel
theorem d_K_wantClocksOfParts_42 : decode b_K_wantClocksOfParts 42 = .ok (.iload_n 3, 1) := by decide +kernel
theorem d_K_wantClocksOfParts_43 : decode b_K_wantClocksOfParts 43 = .ok (.iaload, 1) := by decide +kernel
theorem d_K_wantClocksOfParts_44 : decode b_K_wantClocksOfParts 44 = .ok (.istore_n 3, 1) := by decide +kernel
theorem d_K_wantClocksOfParts_45 : decode b_K_wantClocksOfParts 45 = .ok (.iinc 4 1, 3) := by decide +kernel
theorem d_K_wantClocksOfParts_48 : decode b_K_wantClocksOfParts 48 = .ok (.goto (-39), 3) := by decide +kernel
theorem d_K_wantClocksOfParts_51 : decode b_K_wantClocksOfParts 51 = .ok (.return_, 1) := by decide +kernel
theorem m_K_wantClocksOfParts : fk_MI y_K_wantClocksOfParts b_K_wantClocksOfParts 5 none 2 := ⟨i_323, i_322, fk_mp (q := (y_K_wantClocksOfParts, 7)) (by decide +kernel), i_6, by decide +kernel⟩
set_option maxHeartbeats 4000000 in
set_option maxRecDepth 100000 in
theorem c_K_wantClocksOfParts (l : Launch) (g : fk_G) (ov : Int64) (M : fk_M) (x : Nat) (hX : fk_X x) (bf : Nat → Nat) (n cnt : Nat) (hn40 : n ≤ 40) (h12 : cnt ≤ 12) (hb : ∀ j, j < n → M (x + 1) j = nI (bf j)) (i : Nat) (hok : fk_ok bf n cnt i) (ck : Nat → Nat) (hck : ∀ j, j < 12 → M (3 + 6 * j) 3 = nI (ck j)) (r ee : Nat) (hts : fk_Ts (fk_T bf n cnt (M (x + 2)) r) (fk_ar (bf i)) (i + fk_hd (bf i)) ee) : fk_CV l y_K_wantClocksOfParts b_K_wantClocksOfParts 5 (fk_rm 2) g ov M (va_up M (x + 3) (fk_wc (M (x + 2)) ck (bf i) (bf (i + 1)) i (fk_ar (bf i)) 0 (i + fk_hd (bf i)) (M (x + 3)))) [.ref (fk_a g 79), .ref (fk_a g x), .int (nI i)] := by
  refine fk_ofV rfl (Nat.le_of_ble_eq_true rfl) ?_
  intro p e s m args below meth c ls S hr hlk E G hl
  have hl : lv_has ls 5 [(0, .ref (fk_a g 79)), (1, .ref (fk_a g x)), (2, .int (nI i))] := hl
  have hok2 := hok.2.1
  have hi := hok.1
  have har := fk_ar_le (bf i)
  have exl := fk_Xlt hX
  have loop : ∀ (d : Nat) (q y : Nat) (A : Nat → Int32) (H : Heap) (locs : List Loc) (ls : Array Slot), q + d = fk_ar (bf i) → fk_Ts (fk_T bf n cnt (M (x + 2)) r) d y ee → va_up M (x + 3) (fk_wc (M (x + 2)) ck (bf i) (bf (i + 1)) i d q y A) = va_up M (x + 3) (fk_wc (M (x + 2)) ck (bf i) (bf (i + 1)) i (fk_ar (bf i)) 0 (i + fk_hd (bf i)) (M (x + 3))) → fk_H g ov (va_up M (x + 3) A) s H locs → lv_has ls 5 [(4, .int (nI q)), (3, .int (nI y)), (0, .ref (fk_a g 79)), (1, .ref (fk_a g x)), (2, .int (nI i))] → W p l e (fk_rm (2)) s m args below meth c H locs 0 0 (MQ below (va_Qv (fun (_ : Unit) => True) (fun _ t9 => fk_Wd g ov (va_up M (x + 3) (fk_wc (M (x + 2)) ck (bf i) (bf (i + 1)) i (fk_ar (bf i)) 0 (i + fk_hd (bf i)) (M (x + 3)))) t9) (fk_A g)) args s 0 0 (fk_A g)) (F0 m 9 ls []) := by
    intro d
    induction d with
    | zero =>
      intro q y A H locs ls hv0 hv1 hv2 G hl
      obtain ⟨M1, hM1⟩ : ∃ z : fk_M, z = va_up M (x + 3) A := ⟨_, rfl⟩
      rw [← hM1] at G
      have ex : ∀ k, k ≠ x + 3 → M1 k = M k := fun k hk => by rw [hM1, va_up_ne _ _ hk]
      have hx1 : M1 (x + 1) = M (x + 1) := ex _ (by omega)
      have hx2 : M1 (x + 2) = M (x + 2) := ex _ (by omega)
      have hx3 : M1 (x + 3) = A := by rw [hM1, va_up_self]
      have hb1 : ∀ j, j < n → M1 (x + 1) j = nI (bf j) := fun j hj => by rw [hx1]; exact hb j hj
      have hck1 : ∀ j, j < 12 → M1 (3 + 6 * j) 3 = nI (ck j) := fun j hj => by rw [ex _ (by rcases hX with h9 | ⟨z, h8, h9⟩ <;> omega)]; exact hck j hj
      refine lv_iload S.1 S.2.1 d_K_wantClocksOfParts_9 (lv_at hl 0 rfl) ?_
      refine fk_gsn S E G 1 (by decide) (List.mem_of_getElem? (i := 52) rfl) d_K_wantClocksOfParts_11 ?_
      refine lv_aload_n S.1 S.2.1 d_K_wantClocksOfParts_14 rfl (lv_at hl 3 rfl) ?_
      refine fk_gn S E G x (by have := fk_Xlt hX; omega) (v := .ref (fk_a g (x + 1))) (congrArg (fk_ce g ov x (M1 x)) (fk_kx0 hX)) rfl 0 (by decide) rfl (List.mem_of_getElem? (i := 1) rfl) rfl d_K_wantClocksOfParts_15 ?_
      refine lv_iload_n S.1 S.2.1 d_K_wantClocksOfParts_18 rfl (lv_at hl 4 rfl) ?_
      refine fk_ia S E G (x + 1) (by have := fk_Xlt hX; omega) (congrArg (fk_ce g ov (x + 1) (M1 (x + 1))) (fk_kx1 hX)) i rfl (by omega) (by decide) (v := nI (bf i)) (hb1 i hi) d_K_wantClocksOfParts_19 ?_
      refine fk_ti S E G 1 (by decide) (bf i) rfl (by omega) (v := nI (fk_ar (bf i))) (fk_tv1 _ (by omega)) d_K_wantClocksOfParts_20 ?_
      refine fk_cge (tgt := 51) S.1 S.2.1 (by omega) (by omega) d_K_wantClocksOfParts_21 rfl (fun hc1 => ?_) (fun hc1 => ?_)
      · exact fk_vret S hr hlk E G (by rw [hM1, ← hv2]; rfl) d_K_wantClocksOfParts_51
      · exact absurd hv0 (by omega)
    | succ d ih =>
      intro q y A H locs ls hv0 hv1 hv2 G hl
      obtain ⟨M1, hM1⟩ : ∃ z : fk_M, z = va_up M (x + 3) A := ⟨_, rfl⟩
      rw [← hM1] at G
      have ex : ∀ k, k ≠ x + 3 → M1 k = M k := fun k hk => by rw [hM1, va_up_ne _ _ hk]
      have hx1 : M1 (x + 1) = M (x + 1) := ex _ (by omega)
      have hx2 : M1 (x + 2) = M (x + 2) := ex _ (by omega)
      have hx3 : M1 (x + 3) = A := by rw [hM1, va_up_self]
      have hb1 : ∀ j, j < n → M1 (x + 1) j = nI (bf j) := fun j hj => by rw [hx1]; exact hb j hj
      have hck1 : ∀ j, j < 12 → M1 (3 + 6 * j) 3 = nI (ck j) := fun j hj => by rw [ex _ (by rcases hX with h9 | ⟨z, h8, h9⟩ <;> omega)]; exact hck j hj
      refine lv_iload S.1 S.2.1 d_K_wantClocksOfParts_9 (lv_at hl 0 rfl) ?_
      refine fk_gsn S E G 1 (by decide) (List.mem_of_getElem? (i := 52) rfl) d_K_wantClocksOfParts_11 ?_
      refine lv_aload_n S.1 S.2.1 d_K_wantClocksOfParts_14 rfl (lv_at hl 3 rfl) ?_
      refine fk_gn S E G x (by have := fk_Xlt hX; omega) (v := .ref (fk_a g (x + 1))) (congrArg (fk_ce g ov x (M1 x)) (fk_kx0 hX)) rfl 0 (by decide) rfl (List.mem_of_getElem? (i := 1) rfl) rfl d_K_wantClocksOfParts_15 ?_
      refine lv_iload_n S.1 S.2.1 d_K_wantClocksOfParts_18 rfl (lv_at hl 4 rfl) ?_
      refine fk_ia S E G (x + 1) (by have := fk_Xlt hX; omega) (congrArg (fk_ce g ov (x + 1) (M1 (x + 1))) (fk_kx1 hX)) i rfl (by omega) (by decide) (v := nI (bf i)) (hb1 i hi) d_K_wantClocksOfParts_19 ?_
      refine fk_ti S E G 1 (by decide) (bf i) rfl (by omega) (v := nI (fk_ar (bf i))) (fk_tv1 _ (by omega)) d_K_wantClocksOfParts_20 ?_
      refine fk_cge (tgt := 51) S.1 S.2.1 (by omega) (by omega) d_K_wantClocksOfParts_21 rfl (fun hc2 => ?_) (fun hc2 => ?_)
      · exact absurd hv0 (by omega)
      · obtain ⟨y2, t1, hts2⟩ := hv1
        have l1 := fk_T_lt _ _ _ t1
        have hEy := fk_T_E t1
        refine lv_aload_n S.1 S.2.1 d_K_wantClocksOfParts_24 rfl (lv_at hl 3 rfl) ?_
        refine fk_gn S E G x (by have := fk_Xlt hX; omega) (v := .ref (fk_a g (x + 3))) (congrArg (fk_ce g ov x (M1 x)) (fk_kx0 hX)) rfl 2 (by decide) rfl (List.mem_of_getElem? (i := 6) rfl) rfl d_K_wantClocksOfParts_25 ?_
        refine lv_iload_n S.1 S.2.1 d_K_wantClocksOfParts_28 rfl (lv_at hl 1 rfl) ?_
        refine lv_aload_n S.1 S.2.1 d_K_wantClocksOfParts_29 rfl (lv_at hl 2 rfl) ?_
        refine lv_aload_n S.1 S.2.1 d_K_wantClocksOfParts_30 rfl (lv_at hl 3 rfl) ?_
        refine lv_iload_n S.1 S.2.1 d_K_wantClocksOfParts_31 rfl (lv_at hl 4 rfl) ?_
        refine lv_iload S.1 S.2.1 d_K_wantClocksOfParts_32 (lv_at hl 0 rfl) ?_
        refine fk_cvi S E G 79 (by decide) (congrArg (fk_ce g ov 79 (M1 79)) kd_79) rfl (rest := [.int (nI y), .ref (fk_a g (x + 3))]) (c_K_clockOfPart l g ov M1 x hX bf n cnt hn40 h12 hb1 i hok ck hck1 q (by omega)) m_K_clockOfPart i_324 ⟨rfl, rfl⟩ ⟨by decide, by decide⟩ rfl rfl hl.1 (Nat.le_of_ble_eq_true rfl) d_K_wantClocksOfParts_34 ⟨Nat.zero_le _, Nat.zero_le _⟩ (fun H locs G => ?_)
        refine fk_is S E G (x + 3) (by have := fk_Xlt hX; omega) (fun r => congrArg (fk_ce g ov (x + 3) r) (fk_kx3 hX)) y rfl (by omega) (by decide) d_K_wantClocksOfParts_37 (fun H locs G => ?_)
        obtain ⟨M3, hM3⟩ : ∃ z : fk_M, z = va_up M1 (x + 3) (upd (M1 (x + 3)) y (fk_cpt ck (bf i) (bf (i + 1)) q (M1 (x + 3) i))) := ⟨_, rfl⟩
        rw [← hM3] at G
        have hx4 : M3 (x + 2) = M (x + 2) := by rw [hM3, va_up_ne _ _ (by omega), hx2]
        refine lv_aload_n S.1 S.2.1 d_K_wantClocksOfParts_38 rfl (lv_at hl 3 rfl) ?_
        refine fk_gn S E G x (by have := fk_Xlt hX; omega) (v := .ref (fk_a g (x + 2))) (congrArg (fk_ce g ov x (M3 x)) (fk_kx0 hX)) rfl 1 (by decide) rfl (List.mem_of_getElem? (i := 4) rfl) rfl d_K_wantClocksOfParts_39 ?_
        refine lv_iload_n S.1 S.2.1 d_K_wantClocksOfParts_42 rfl (lv_at hl 1 rfl) ?_
        refine fk_ia S E G (x + 2) (by have := fk_Xlt hX; omega) (congrArg (fk_ce g ov (x + 2) (M3 (x + 2))) (fk_kx2 hX)) y rfl (by omega) (by decide) (v := nI y2) (by rw [hx4]; exact hEy) d_K_wantClocksOfParts_43 ?_
        refine lv_istore_n (lv' := [(3, .int (nI y2)), (4, .int (nI q)), (0, .ref (fk_a g 79)), (1, .ref (fk_a g x)), (2, .int (nI i))]) S.1 S.2.1 d_K_wantClocksOfParts_44 rfl hl (by decide) rfl (fun ls hl => ?_)
        refine lv_iinc (k := 1) (v := nI (q + 1)) (lv' := [(4, .int (nI (q + 1))), (3, .int (nI y2)), (0, .ref (fk_a g 79)), (1, .ref (fk_a g x)), (2, .int (nI i))]) S.1 S.2.1 d_K_wantClocksOfParts_45 hl rfl (nI_1 q) (by decide) rfl (fun ls hl => ?_)
        refine lv_goto (tgt := 9) S.1 S.2.1 d_K_wantClocksOfParts_48 rfl ?_
        refine ih (q + 1) y2 (upd A y (fk_cpt ck (bf i) (bf (i + 1)) q (A i))) H locs ls (by omega) hts2 (by rw [← hv2]; show _ = va_up M (x + 3) (fk_wc (M (x + 2)) ck (bf i) (bf (i + 1)) i d (q + 1) (M (x + 2) y).toNatClampNeg _); rw [hEy, nI_clamp (by omega)]) ?_ (lv_sub hl [0, 1, 2, 3, 4] rfl)
        rw [hM3, hx3, hM1, bx_uu] at G
        exact G
  refine lv_aload_n S.1 S.2.1 d_K_wantClocksOfParts_0 rfl (lv_at hl 1 rfl) ?_
  refine lv_iload_n S.1 S.2.1 d_K_wantClocksOfParts_1 rfl (lv_at hl 2 rfl) ?_
  refine fk_cni S E G x (by have := fk_Xlt hX; omega) (congrArg (fk_ce g ov x (M x)) (fk_kx0 hX)) rfl (rest := []) (c_E_firstPart l g ov M x hX i (bf i) (by omega) (by omega) (hb i hi)) m_E_firstPart (List.mem_of_getElem? (i := 20) rfl) ⟨rfl, rfl⟩ ⟨by decide, by decide⟩ rfl rfl hl.1 (Nat.le_of_ble_eq_true rfl) d_K_wantClocksOfParts_2 ⟨Nat.zero_le _, Nat.zero_le _⟩ (fun H locs G => ?_)
  refine lv_istore_n (lv' := [(3, .int (nI (i + fk_hd (bf i)))), (0, .ref (fk_a g 79)), (1, .ref (fk_a g x)), (2, .int (nI i))]) S.1 S.2.1 d_K_wantClocksOfParts_5 rfl hl (by decide) rfl (fun ls hl => ?_)
  refine lv_iconst (v := nI 0) S.1 S.2.1 d_K_wantClocksOfParts_6 (by decide +kernel) ?_
  refine lv_istore (lv' := [(4, .int (nI 0)), (3, .int (nI (i + fk_hd (bf i)))), (0, .ref (fk_a g 79)), (1, .ref (fk_a g x)), (2, .int (nI i))]) S.1 S.2.1 d_K_wantClocksOfParts_7 hl (by decide) rfl (fun ls hl => ?_)
  exact loop (fk_ar (bf i)) 0 (i + fk_hd (bf i)) (M (x + 3)) H locs ls (by omega) hts rfl (by rw [fk_upid]; exact G) hl
theorem d_K_clockFault_0 : decode b_K_clockFault 0 = .ok (.aload_n 1, 1) := by decide +kernel
theorem d_K_clockFault_1 : decode b_K_clockFault 1 = .ok (.getfield 141, 3) := by decide +kernel
theorem d_K_clockFault_4 : decode b_K_clockFault 4 = .ok (.iconst 0, 1) := by decide +kernel
theorem d_K_clockFault_5 : decode b_K_clockFault 5 = .ok (.iload_n 2, 1) := by decide +kernel
theorem d_K_clockFault_6 : decode b_K_clockFault 6 = .ok (.iastore, 1) := by decide +kernel
theorem d_K_clockFault_7 : decode b_K_clockFault 7 = .ok (.iconst 0, 1) := by decide +kernel
theorem d_K_clockFault_8 : decode b_K_clockFault 8 = .ok (.istore_n 3, 1) := by decide +kernel
theorem d_K_clockFault_9 : decode b_K_clockFault 9 = .ok (.iload_n 3, 1) := by decide +kernel
theorem d_K_clockFault_10 : decode b_K_clockFault 10 = .ok (.aload_n 1, 1) := by decide +kernel
theorem d_K_clockFault_11 : decode b_K_clockFault 11 = .ok (.getfield 101, 3) := by decide +kernel
theorem d_K_clockFault_14 : decode b_K_clockFault 14 = .ok (.if_icmp .ge 43, 3) := by decide +kernel
theorem d_K_clockFault_17 : decode b_K_clockFault 17 = .ok (.aload_n 1, 1) := by decide +kernel
theorem d_K_clockFault_18 : decode b_K_clockFault 18 = .ok (.iload_n 3, 1) := by decide +kernel
theorem d_K_clockFault_19 : decode b_K_clockFault 19 = .ok (.invokevirtual 106, 3) := by decide +kernel
theorem d_K_clockFault_22 : decode b_K_clockFault 22 = .ok (.ifCond .ne 6, 3) := by decide +kernel
theorem d_K_clockFault_25 : decode b_K_clockFault 25 = .ok (.goto 26, 3) := by decide +kernel
theorem d_K_clockFault_28 : decode b_K_clockFault 28 = .ok (.aload_n 0, 1) := by decide +kernel
theorem d_K_clockFault_29 : decode b_K_clockFault 29 = .ok (.aload_n 1, 1) := by decide +kernel
theorem d_K_clockFault_30 : decode b_K_clockFault 30 = .ok (.iload_n 3, 1) := by decide +kernel
theorem d_K_clockFault_31 : decode b_K_clockFault 31 = .ok (.invokevirtual 144, 3) := by decide +kernel
theorem d_K_clockFault_34 : decode b_K_clockFault 34 = .ok (.aload_n 1, 1) := by decide +kernel
theorem d_K_clockFault_35 : decode b_K_clockFault 35 = .ok (.getfield 141, 3) := by decide +kernel
theorem d_K_clockFault_38 : decode b_K_clockFault 38 = .ok (.iload_n 3, 1) := by decide +kernel
theorem d_K_clockFault_39 : decode b_K_clockFault 39 = .ok (.iaload, 1) := by decide +kernel
theorem d_K_clockFault_40 : decode b_K_clockFault 40 = .ok (.if_icmp .eq 5, 3) := by decide +kernel
theorem d_K_clockFault_43 : decode b_K_clockFault 43 = .ok (.iload_n 3, 1) := by decide +kernel
theorem d_K_clockFault_44 : decode b_K_clockFault 44 = .ok (.ireturn, 1) := by decide +kernel
theorem d_K_clockFault_45 : decode b_K_clockFault 45 = .ok (.aload_n 0, 1) := by decide +kernel
theorem d_K_clockFault_46 : decode b_K_clockFault 46 = .ok (.aload_n 1, 1) := by decide +kernel
theorem d_K_clockFault_47 : decode b_K_clockFault 47 = .ok (.iload_n 3, 1) := by decide +kernel
theorem d_K_clockFault_48 : decode b_K_clockFault 48 = .ok (.invokevirtual 147, 3) := by decide +kernel
theorem d_K_clockFault_51 : decode b_K_clockFault 51 = .ok (.iinc 3 1, 3) := by decide +kernel
theorem d_K_clockFault_54 : decode b_K_clockFault 54 = .ok (.goto (-45), 3) := by decide +kernel
theorem d_K_clockFault_57 : decode b_K_clockFault 57 = .ok (.iconst (-1), 1) := by decide +kernel
theorem d_K_clockFault_58 : decode b_K_clockFault 58 = .ok (.ireturn, 1) := by decide +kernel
theorem m_K_clockFault : fk_MI y_K_clockFault b_K_clockFault 4 (some .int) 2 := ⟨i_312, i_311, fk_mp (q := (y_K_clockFault, 7)) (by decide +kernel), i_6, by decide +kernel⟩
set_option maxHeartbeats 4000000 in
set_option maxRecDepth 100000 in
theorem c_K_clockFault (l : Launch) (g : fk_G) (ov : Int64) (M : fk_M) (x : Nat) (hX : fk_X x) (bf : Nat → Nat) (n cnt : Nat) (hn40 : n ≤ 40) (h12 : cnt ≤ 12) (hb : ∀ j, j < n → M (x + 1) j = nI (bf j)) (hlen : M x 4 = nI n) (hT : fk_T bf n cnt (M (x + 2)) 11 0 n) (ck : Nat → Nat) (hck : ∀ j, j < 12 → M (3 + 6 * j) 3 = nI (ck j)) (t : Nat) : fk_CI l y_K_clockFault b_K_clockFault 4 (some .int) (fk_rm 3) g ov M (va_up M (x + 3) (fk_cf bf (M (x + 2)) ck n 0 (upd (M (x + 3)) 0 (nI t))).2) [.ref (fk_a g 79), .ref (fk_a g x), .int (nI t)] (fk_rv (fk_cf bf (M (x + 2)) ck n 0 (upd (M (x + 3)) 0 (nI t))).1) := by
  refine fk_ofI rfl (Nat.le_of_ble_eq_true rfl) ?_
  intro p e s m args below meth c ls S hr hlk E G hl
  have hl : lv_has ls 4 [(0, .ref (fk_a g 79)), (1, .ref (fk_a g x)), (2, .int (nI t))] := hl
  have exl := fk_Xlt hX
  have loop : ∀ (d : Nat) (i : Nat) (A : Nat → Int32) (H : Heap) (locs : List Loc) (ls : Array Slot), i + d = n → fk_cf bf (M (x + 2)) ck d i A = fk_cf bf (M (x + 2)) ck n 0 (upd (M (x + 3)) 0 (nI t)) → fk_H g ov (va_up M (x + 3) A) s H locs → lv_has ls 4 [(3, .int (nI i)), (0, .ref (fk_a g 79)), (1, .ref (fk_a g x)), (2, .int (nI t))] → W p l e (fk_rm (3)) s m args below meth c H locs 0 0 (MQ below (va_Qi (fun rr (_ : Unit) => rr = fk_rv (fk_cf bf (M (x + 2)) ck n 0 (upd (M (x + 3)) 0 (nI t))).1) (fun _ t9 => fk_Wd g ov (va_up M (x + 3) (fk_cf bf (M (x + 2)) ck n 0 (upd (M (x + 3)) 0 (nI t))).2) t9) (fk_A g)) args s 0 0 (fk_A g)) (F0 m 9 ls []) := by
    intro d
    induction d with
    | zero =>
      intro i A H locs ls hv0 hv1 G hl
      obtain ⟨M1, hM1⟩ : ∃ z : fk_M, z = va_up M (x + 3) A := ⟨_, rfl⟩
      rw [← hM1] at G
      have ex : ∀ k, k ≠ x + 3 → M1 k = M k := fun k hk => by rw [hM1, va_up_ne _ _ hk]
      have hx0 : M1 x = M x := ex _ (by omega)
      have hx1 : M1 (x + 1) = M (x + 1) := ex _ (by omega)
      have hx2 : M1 (x + 2) = M (x + 2) := ex _ (by omega)
      have hx3 : M1 (x + 3) = A := by rw [hM1, va_up_self]
      have hb1 : ∀ j, j < n → M1 (x + 1) j = nI (bf j) := fun j hj => by rw [hx1]; exact hb j hj
      have hck1 : ∀ j, j < 12 → M1 (3 + 6 * j) 3 = nI (ck j) := fun j hj => by rw [ex _ (by rcases hX with h9 | ⟨z, h8, h9⟩ <;> omega)]; exact hck j hj
      refine lv_iload_n S.1 S.2.1 d_K_clockFault_9 rfl (lv_at hl 0 rfl) ?_
      refine lv_aload_n S.1 S.2.1 d_K_clockFault_10 rfl (lv_at hl 2 rfl) ?_
      refine fk_gn S E G x (by have := fk_Xlt hX; omega) (v := .int (M1 x 4)) (congrArg (fk_ce g ov x (M1 x)) (fk_kx0 hX)) rfl 4 (by decide) rfl (List.mem_of_getElem? (i := 11) rfl) rfl d_K_clockFault_11 ?_
      rw [hx0, hlen]
      refine fk_cge (tgt := 57) S.1 S.2.1 (by omega) (by omega) d_K_clockFault_14 rfl (fun hc1 => ?_) (fun hc1 => ?_)
      · refine lv_iconst (v := -1) S.1 S.2.1 d_K_clockFault_57 (by decide +kernel) ?_
        exact fk_iret S hr hlk E G (by rw [hM1, ← hv1]; rfl) (by rw [← hv1]; rfl) d_K_clockFault_58
      · exact absurd hv0 (by omega)
    | succ d ih =>
      intro i A H locs ls hv0 hv1 G hl
      obtain ⟨M1, hM1⟩ : ∃ z : fk_M, z = va_up M (x + 3) A := ⟨_, rfl⟩
      rw [← hM1] at G
      have ex : ∀ k, k ≠ x + 3 → M1 k = M k := fun k hk => by rw [hM1, va_up_ne _ _ hk]
      have hx0 : M1 x = M x := ex _ (by omega)
      have hx1 : M1 (x + 1) = M (x + 1) := ex _ (by omega)
      have hx2 : M1 (x + 2) = M (x + 2) := ex _ (by omega)
      have hx3 : M1 (x + 3) = A := by rw [hM1, va_up_self]
      have hb1 : ∀ j, j < n → M1 (x + 1) j = nI (bf j) := fun j hj => by rw [hx1]; exact hb j hj
      have hck1 : ∀ j, j < 12 → M1 (3 + 6 * j) 3 = nI (ck j) := fun j hj => by rw [ex _ (by rcases hX with h9 | ⟨z, h8, h9⟩ <;> omega)]; exact hck j hj
      refine lv_iload_n S.1 S.2.1 d_K_clockFault_9 rfl (lv_at hl 0 rfl) ?_
      refine lv_aload_n S.1 S.2.1 d_K_clockFault_10 rfl (lv_at hl 2 rfl) ?_
      refine fk_gn S E G x (by have := fk_Xlt hX; omega) (v := .int (M1 x 4)) (congrArg (fk_ce g ov x (M1 x)) (fk_kx0 hX)) rfl 4 (by decide) rfl (List.mem_of_getElem? (i := 11) rfl) rfl d_K_clockFault_11 ?_
      rw [hx0, hlen]
      refine fk_cge (tgt := 57) S.1 S.2.1 (by omega) (by omega) d_K_clockFault_14 rfl (fun hc2 => ?_) (fun hc2 => ?_)
      · exact absurd hv0 (by omega)
      · refine lv_aload_n S.1 S.2.1 d_K_clockFault_17 rfl (lv_at hl 2 rfl) ?_
        refine lv_iload_n S.1 S.2.1 d_K_clockFault_18 rfl (lv_at hl 0 rfl) ?_
        refine fk_cni S E G x (by have := fk_Xlt hX; omega) (congrArg (fk_ce g ov x (M1 x)) (fk_kx0 hX)) rfl (rest := []) (c_E_beginsAt l g ov M1 x hX i (by omega)) m_E_beginsAt (List.mem_of_getElem? (i := 17) rfl) ⟨rfl, rfl⟩ ⟨by decide, by decide⟩ rfl rfl hl.1 (Nat.le_of_ble_eq_true rfl) d_K_clockFault_19 ⟨Nat.zero_le _, Nat.zero_le _⟩ (fun H locs G => ?_)
        refine fk_zne (tgt := 28) S.1 S.2.1 (fk_bl _) d_K_clockFault_22 rfl (fun hc3 => ?_) (fun hc3 => ?_)
        · have hE := of_decide_eq_true (fk_bt hc3)
          rw [hx2] at hE
          obtain ⟨r, ee, hq10, hok, hEe, hlt, hle, hts⟩ := fk_node (by omega) hT (show i < n by omega) hE
          refine lv_aload_n S.1 S.2.1 d_K_clockFault_28 rfl (lv_at hl 1 rfl) ?_
          refine lv_aload_n S.1 S.2.1 d_K_clockFault_29 rfl (lv_at hl 2 rfl) ?_
          refine lv_iload_n S.1 S.2.1 d_K_clockFault_30 rfl (lv_at hl 0 rfl) ?_
          refine fk_cvi S E G 79 (by decide) (congrArg (fk_ce g ov 79 (M1 79)) kd_79) rfl (rest := []) (hx3 ▸ c_K_ownClock l g ov M1 x hX bf n cnt hn40 h12 hb1 i hok ck hck1) m_K_ownClock i_313 ⟨rfl, rfl⟩ ⟨by decide, by decide⟩ rfl rfl hl.1 (Nat.le_of_ble_eq_true rfl) d_K_clockFault_31 ⟨Nat.zero_le _, Nat.zero_le _⟩ (fun H locs G => ?_)
          refine lv_aload_n S.1 S.2.1 d_K_clockFault_34 rfl (lv_at hl 2 rfl) ?_
          refine fk_gn S E G x (by have := fk_Xlt hX; omega) (v := .ref (fk_a g (x + 3))) (congrArg (fk_ce g ov x (M1 x)) (fk_kx0 hX)) rfl 2 (by decide) rfl (List.mem_of_getElem? (i := 6) rfl) rfl d_K_clockFault_35 ?_
          refine lv_iload_n S.1 S.2.1 d_K_clockFault_38 rfl (lv_at hl 0 rfl) ?_
          refine fk_ia S E G (x + 3) (by have := fk_Xlt hX; omega) (congrArg (fk_ce g ov (x + 3) (M1 (x + 3))) (fk_kx3 hX)) i rfl (by omega) (by decide) (v := A i) (by rw [hx3]) d_K_clockFault_39 ?_
          refine lv_icmp_eq (tgt := 45) S.1 S.2.1 d_K_clockFault_40 rfl (fun hc4 => ?_) (fun hc4 => ?_)
          · refine lv_aload_n S.1 S.2.1 d_K_clockFault_45 rfl (lv_at hl 1 rfl) ?_
            refine lv_aload_n S.1 S.2.1 d_K_clockFault_46 rfl (lv_at hl 2 rfl) ?_
            refine lv_iload_n S.1 S.2.1 d_K_clockFault_47 rfl (lv_at hl 0 rfl) ?_
            refine fk_cvv S E G 79 (by decide) (congrArg (fk_ce g ov 79 (M1 79)) kd_79) rfl (rest := []) (c_K_wantClocksOfParts l g ov M1 x hX bf n cnt hn40 h12 hb1 i hok ck hck1 r ee (by rw [hx2]; exact hts)) m_K_wantClocksOfParts i_320 ⟨rfl, rfl⟩ ⟨by decide, by decide⟩ rfl rfl hl.1 (Nat.le_of_ble_eq_true rfl) d_K_clockFault_48 ⟨Nat.zero_le _, Nat.zero_le _⟩ (fun H locs G => ?_)
            refine lv_iinc (k := 0) (v := nI (i + 1)) (lv' := [(3, .int (nI (i + 1))), (0, .ref (fk_a g 79)), (1, .ref (fk_a g x)), (2, .int (nI t))]) S.1 S.2.1 d_K_clockFault_51 hl rfl (nI_1 i) (by decide) rfl (fun ls hl => ?_)
            refine lv_goto (tgt := 9) S.1 S.2.1 d_K_clockFault_54 rfl ?_
            rw [hx2, hx3, hM1, bx_uu] at G
            exact ih (i + 1) _ H locs ls (by omega) (by rw [← hv1, fk_cf_S, if_neg (fun q => q hE), if_pos hc4]) G hl
          · have hres : fk_cf bf (M (x + 2)) ck (d + 1) i A = (some i, A) := by
              rw [fk_cf_S, if_neg (fun q => q hE), if_neg hc4]
            refine lv_iload_n S.1 S.2.1 d_K_clockFault_43 rfl (lv_at hl 0 rfl) ?_
            exact fk_iret S hr hlk E G (by rw [hM1, ← hv1, hres]) (by rw [← hv1, hres]; rfl) d_K_clockFault_44
        · have hE := of_decide_eq_false (fk_bf hc3)
          rw [hx2] at hE
          refine lv_goto (tgt := 51) S.1 S.2.1 d_K_clockFault_25 rfl ?_
          refine lv_iinc (k := 0) (v := nI (i + 1)) (lv' := [(3, .int (nI (i + 1))), (0, .ref (fk_a g 79)), (1, .ref (fk_a g x)), (2, .int (nI t))]) S.1 S.2.1 d_K_clockFault_51 hl rfl (nI_1 i) (by decide) rfl (fun ls hl => ?_)
          refine lv_goto (tgt := 9) S.1 S.2.1 d_K_clockFault_54 rfl ?_
          rw [hM1] at G
          exact ih (i + 1) A H locs ls (by omega) (by rw [← hv1, fk_cf_S, if_pos hE]) G hl
  refine lv_aload_n S.1 S.2.1 d_K_clockFault_0 rfl (lv_at hl 1 rfl) ?_
  refine fk_gn S E G x (by have := fk_Xlt hX; omega) (v := .ref (fk_a g (x + 3))) (congrArg (fk_ce g ov x (M x)) (fk_kx0 hX)) rfl 2 (by decide) rfl (List.mem_of_getElem? (i := 6) rfl) rfl d_K_clockFault_1 ?_
  refine lv_iconst (v := nI 0) S.1 S.2.1 d_K_clockFault_4 (by decide +kernel) ?_
  refine lv_iload_n S.1 S.2.1 d_K_clockFault_5 rfl (lv_at hl 2 rfl) ?_
  refine fk_is S E G (x + 3) (by have := fk_Xlt hX; omega) (fun r => congrArg (fk_ce g ov (x + 3) r) (fk_kx3 hX)) 0 rfl (by omega) (by decide) d_K_clockFault_6 (fun H locs G => ?_)
  obtain ⟨M5, hM5⟩ : ∃ z : fk_M, z = va_up M (x + 3) (upd (M (x + 3)) 0 (nI t)) := ⟨_, rfl⟩
  rw [← hM5] at G
  refine lv_iconst (v := nI 0) S.1 S.2.1 d_K_clockFault_7 (by decide +kernel) ?_
  refine lv_istore_n (lv' := [(3, .int (nI 0)), (0, .ref (fk_a g 79)), (1, .ref (fk_a g x)), (2, .int (nI t))]) S.1 S.2.1 d_K_clockFault_8 rfl hl (by decide) rfl (fun ls hl => ?_)
  rw [hM5] at G
  exact loop n 0 _ H locs ls (by omega) rfl G hl
theorem d_K_hasNothing_0 : decode b_K_hasNothing 0 = .ok (.aload_n 1, 1) := by decide +kernel
theorem d_K_hasNothing_1 : decode b_K_hasNothing 1 = .ok (.getfield 117, 3) := by decide +kernel
theorem d_K_hasNothing_4 : decode b_K_hasNothing 4 = .ok (.iload_n 2, 1) := by decide +kernel
theorem d_K_hasNothing_5 : decode b_K_hasNothing 5 = .ok (.iaload, 1) := by decide +kernel
theorem d_K_hasNothing_6 : decode b_K_hasNothing 6 = .ok (.istore_n 3, 1) := by decide +kernel
theorem d_K_hasNothing_7 : decode b_K_hasNothing 7 = .ok (.iload_n 3, 1) := by decide +kernel
theorem d_K_hasNothing_8 : decode b_K_hasNothing 8 = .ok (.bipush 15, 2) := by decide +kernel
theorem d_K_hasNothing_10 : decode b_K_hasNothing 10 = .ok (.if_icmp .ne 7, 3) := by decide +kernel
theorem d_K_hasNothing_13 : decode b_K_hasNothing 13 = .ok (.iconst 1, 1) := by decide +kernel
theorem d_K_hasNothing_14 : decode b_K_hasNothing 14 = .ok (.goto 8, 3) := by decide +kernel
theorem d_K_hasNothing_17 : decode b_K_hasNothing 17 = .ok (.getstatic 135, 3) := by decide +kernel
theorem d_K_hasNothing_20 : decode b_K_hasNothing 20 = .ok (.iload_n 3, 1) := by decide +kernel
theorem d_K_hasNothing_21 : decode b_K_hasNothing 21 = .ok (.iaload, 1) := by decide +kernel
theorem d_K_hasNothing_22 : decode b_K_hasNothing 22 = .ok (.istore 4, 2) := by decide +kernel
theorem d_K_hasNothing_24 : decode b_K_hasNothing 24 = .ok (.aload_n 1, 1) := by decide +kernel
theorem d_K_hasNothing_25 : decode b_K_hasNothing 25 = .ok (.iload_n 2, 1) := by decide +kernel
theorem d_K_hasNothing_26 : decode b_K_hasNothing 26 = .ok (.invokevirtual 132, 3) := by decide +kernel
theorem d_K_hasNothing_29 : decode b_K_hasNothing 29 = .ok (.istore 5, 2) := by decide +kernel
theorem d_K_hasNothing_31 : decode b_K_hasNothing 31 = .ok (.iconst 0, 1) := by decide +kernel
theorem d_K_hasNothing_32 : decode b_K_hasNothing 32 = .ok (.istore 6, 2) := by decide +kernel
theorem d_K_hasNothing_34 : decode b_K_hasNothing 34 = .ok (.iload 6, 2) := by decide +kernel
theorem d_K_hasNothing_36 : decode b_K_hasNothing 36 = .ok (.iload 4, 2) := by decide +kernel
theorem d_K_hasNothing_38 : decode b_K_hasNothing 38 = .ok (.if_icmp .ge 30, 3) := by decide +kernel
theorem d_K_hasNothing_41 : decode b_K_hasNothing 41 = .ok (.aload_n 0, 1) := by decide +kernel
theorem d_K_hasNothing_42 : decode b_K_hasNothing 42 = .ok (.getfield 15, 3) := by decide +kernel
theorem d_K_hasNothing_45 : decode b_K_hasNothing 45 = .ok (.iload 5, 2) := by decide +kernel
theorem d_K_hasNothing_47 : decode b_K_hasNothing 47 = .ok (.baload, 1) := by decide +kernel
theorem d_K_hasNothing_48 : decode b_K_hasNothing 48 = .ok (.ifCond .eq 5, 3) := by decide +kernel
theorem d_K_hasNothing_51 : decode b_K_hasNothing 51 = .ok (.iconst 1, 1) := by decide +kernel
theorem d_K_hasNothing_52 : decode b_K_hasNothing 52 = .ok (.ireturn, 1) := by decide +kernel
theorem d_K_hasNothing_53 : decode b_K_hasNothing 53 = .ok (.aload_n 1, 1) := by decide +kernel
theorem d_K_hasNothing_54 : decode b_K_hasNothing 54 = .ok (.getfield 138, 3) := by decide +kernel
theorem d_K_hasNothing_57 : decode b_K_hasNothing 57 = .ok (.iload 5, 2) := by decide +kernel
theorem d_K_hasNothing_59 : decode b_K_hasNothing 59 = .ok (.iaload, 1) := by decide +kernel
theorem d_K_hasNothing_60 : decode b_K_hasNothing 60 = .ok (.istore 5, 2) := by decide +kernel
theorem d_K_hasNothing_62 : decode b_K_hasNothing 62 = .ok (.iinc 6 1, 3) := by decide +kernel
theorem d_K_hasNothing_65 : decode b_K_hasNothing 65 = .ok (.goto (-31), 3) := by decide +kernel
theorem d_K_hasNothing_68 : decode b_K_hasNothing 68 = .ok (.iconst 0, 1) := by decide +kernel
theorem d_K_hasNothing_69 : decode b_K_hasNothing 69 = .ok (.ireturn, 1) := by decide +kernel
theorem m_K_hasNothing : fk_MI y_K_hasNothing b_K_hasNothing 7 (some .boolean) 2 := ⟨i_335, i_334, fk_mp (q := (y_K_hasNothing, 7)) (by decide +kernel), i_6, by decide +kernel⟩
set_option maxHeartbeats 4000000 in
set_option maxRecDepth 100000 in
theorem c_K_hasNothing (l : Launch) (g : fk_G) (ov : Int64) (M : fk_M) (x : Nat) (hX : fk_X x) (bf : Nat → Nat) (n cnt : Nat) (hn40 : n ≤ 40) (h12 : cnt ≤ 12) (hb : ∀ j, j < n → M (x + 1) j = nI (bf j)) (i : Nat) (hok : fk_ok bf n cnt i) (r ee : Nat) (hts : fk_Ts (fk_T bf n cnt (M (x + 2)) r) (fk_ar (bf i)) (i + fk_hd (bf i)) ee) : fk_CI l y_K_hasNothing b_K_hasNothing 7 (some .boolean) (fk_rm 1) g ov M M [.ref (fk_a g 79), .ref (fk_a g x), .int (nI i)] (nI (fk_hn (M (x + 2)) (M 81) (fk_as (bf i)) (i + fk_hd (bf i))).toNat) := by
  refine fk_ofI rfl (Nat.le_of_ble_eq_true rfl) ?_
  intro p e s m args below meth c ls S hr hlk E G hl
  have hl : lv_has ls 7 [(0, .ref (fk_a g 79)), (1, .ref (fk_a g x)), (2, .int (nI i))] := hl
  have hok2 := hok.2.1
  have hi := hok.1
  have har := fk_ar_le (bf i)
  have has : fk_as (bf i) ≤ fk_ar (bf i) := by
    unfold fk_as
    split
    · rename_i h9
      rw [h9]
      decide
    · exact Nat.le_refl _
  have loop : ∀ (d : Nat) (q y : Nat) (H : Heap) (locs : List Loc) (ls : Array Slot), q + d = fk_as (bf i) → fk_Ts (fk_T bf n cnt (M (x + 2)) r) (d + (fk_ar (bf i) - fk_as (bf i))) y ee → fk_hn (M (x + 2)) (M 81) d y = fk_hn (M (x + 2)) (M 81) (fk_as (bf i)) (i + fk_hd (bf i)) → fk_H g ov (M) s H locs → lv_has ls 7 [(6, .int (nI q)), (5, .int (nI y)), (4, .int (nI (fk_as (bf i)))), (3, .int (nI (bf i))), (0, .ref (fk_a g 79)), (1, .ref (fk_a g x)), (2, .int (nI i))] → W p l e (fk_rm (1)) s m args below meth c H locs 0 0 (MQ below (va_Qi (fun rr (_ : Unit) => rr = nI (fk_hn (M (x + 2)) (M 81) (fk_as (bf i)) (i + fk_hd (bf i))).toNat) (fun _ t9 => fk_Wd g ov (M) t9) (fk_A g)) args s 0 0 (fk_A g)) (F0 m 34 ls []) := by
    intro d
    induction d with
    | zero =>
      intro q y H locs ls hv0 hv1 hv2 G hl
      refine lv_iload S.1 S.2.1 d_K_hasNothing_34 (lv_at hl 0 rfl) ?_
      refine lv_iload S.1 S.2.1 d_K_hasNothing_36 (lv_at hl 2 rfl) ?_
      refine fk_cge (tgt := 68) S.1 S.2.1 (by omega) (by omega) d_K_hasNothing_38 rfl (fun hc1 => ?_) (fun hc1 => ?_)
      · refine lv_iconst (v := nI 0) S.1 S.2.1 d_K_hasNothing_68 (by decide +kernel) ?_
        exact fk_zret S hr hlk E G rfl (fk_b0 (by rw [← hv2]; rfl)) (fk_bz _) d_K_hasNothing_69
      · exact absurd hv0 (by omega)
    | succ d ih =>
      intro q y H locs ls hv0 hv1 hv2 G hl
      refine lv_iload S.1 S.2.1 d_K_hasNothing_34 (lv_at hl 0 rfl) ?_
      refine lv_iload S.1 S.2.1 d_K_hasNothing_36 (lv_at hl 2 rfl) ?_
      refine fk_cge (tgt := 68) S.1 S.2.1 (by omega) (by omega) d_K_hasNothing_38 rfl (fun hc2 => ?_) (fun hc2 => ?_)
      · exact absurd hv0 (by omega)
      · rw [show d + 1 + (fk_ar (bf i) - fk_as (bf i)) = (d + (fk_ar (bf i) - fk_as (bf i))) + 1 by omega] at hv1
        obtain ⟨y2, t1, hts2⟩ := hv1
        have l1 := fk_T_lt _ _ _ t1
        have hEy := fk_T_E t1
        refine lv_aload_n S.1 S.2.1 d_K_hasNothing_41 rfl (lv_at hl 4 rfl) ?_
        refine fk_gf S E G 79 (by decide) (v := .ref (fk_a g 81)) (congrArg (fk_ce g ov 79 (M 79)) kd_79) rfl 3 (by decide) rfl i_159 rfl d_K_hasNothing_42 ?_
        refine lv_iload S.1 S.2.1 d_K_hasNothing_45 (lv_at hl 1 rfl) ?_
        refine fk_za S E G 81 (by decide) (congrArg (fk_ce g ov 81 (M 81)) kd_81) y rfl (by omega) (by decide) (v := M 81 y) rfl d_K_hasNothing_47 ?_
        refine lv_if_eq (tgt := 53) S.1 S.2.1 d_K_hasNothing_48 rfl (fun hc3 => ?_) (fun hc3 => ?_)
        · refine lv_aload_n S.1 S.2.1 d_K_hasNothing_53 rfl (lv_at hl 5 rfl) ?_
          refine fk_gn S E G x (by have := fk_Xlt hX; omega) (v := .ref (fk_a g (x + 2))) (congrArg (fk_ce g ov x (M x)) (fk_kx0 hX)) rfl 1 (by decide) rfl (List.mem_of_getElem? (i := 4) rfl) rfl d_K_hasNothing_54 ?_
          refine lv_iload S.1 S.2.1 d_K_hasNothing_57 (lv_at hl 1 rfl) ?_
          refine fk_ia S E G (x + 2) (by have := fk_Xlt hX; omega) (congrArg (fk_ce g ov (x + 2) (M (x + 2))) (fk_kx2 hX)) y rfl (by omega) (by decide) (v := nI y2) hEy d_K_hasNothing_59 ?_
          refine lv_istore (lv' := [(5, .int (nI y2)), (6, .int (nI q)), (4, .int (nI (fk_as (bf i)))), (3, .int (nI (bf i))), (0, .ref (fk_a g 79)), (1, .ref (fk_a g x)), (2, .int (nI i))]) S.1 S.2.1 d_K_hasNothing_60 hl (by decide) rfl (fun ls hl => ?_)
          refine lv_iinc (k := 1) (v := nI (q + 1)) (lv' := [(6, .int (nI (q + 1))), (5, .int (nI y2)), (4, .int (nI (fk_as (bf i)))), (3, .int (nI (bf i))), (0, .ref (fk_a g 79)), (1, .ref (fk_a g x)), (2, .int (nI i))]) S.1 S.2.1 d_K_hasNothing_62 hl rfl (nI_1 q) (by decide) rfl (fun ls hl => ?_)
          refine lv_goto (tgt := 34) S.1 S.2.1 d_K_hasNothing_65 rfl ?_
          exact ih (q + 1) y2 H locs ls (by omega) hts2 (by rw [← hv2, fk_hn_S, if_pos hc3, hEy, nI_clamp (by omega)]) G (lv_sub hl [0, 1, 2, 3, 4, 5, 6] rfl)
        · refine lv_iconst (v := nI 1) S.1 S.2.1 d_K_hasNothing_51 (by decide +kernel) ?_
          exact fk_zret S hr hlk E G rfl (fk_b1 (by rw [← hv2, fk_hn_S, if_neg hc3])) (fk_bz _) d_K_hasNothing_52
  refine lv_aload_n S.1 S.2.1 d_K_hasNothing_0 rfl (lv_at hl 1 rfl) ?_
  refine fk_gn S E G x (by have := fk_Xlt hX; omega) (v := .ref (fk_a g (x + 1))) (congrArg (fk_ce g ov x (M x)) (fk_kx0 hX)) rfl 0 (by decide) rfl (List.mem_of_getElem? (i := 1) rfl) rfl d_K_hasNothing_1 ?_
  refine lv_iload_n S.1 S.2.1 d_K_hasNothing_4 rfl (lv_at hl 2 rfl) ?_
  refine fk_ia S E G (x + 1) (by have := fk_Xlt hX; omega) (congrArg (fk_ce g ov (x + 1) (M (x + 1))) (fk_kx1 hX)) i rfl (by omega) (by decide) (v := nI (bf i)) (hb i hi) d_K_hasNothing_5 ?_
  refine lv_istore_n (lv' := [(3, .int (nI (bf i))), (0, .ref (fk_a g 79)), (1, .ref (fk_a g x)), (2, .int (nI i))]) S.1 S.2.1 d_K_hasNothing_6 rfl hl (by decide) rfl (fun ls hl => ?_)
  refine lv_iload_n S.1 S.2.1 d_K_hasNothing_7 rfl (lv_at hl 0 rfl) ?_
  refine lv_bipush (v := nI 15) S.1 S.2.1 d_K_hasNothing_8 (by decide +kernel) ?_
  refine fk_cne (tgt := 17) S.1 S.2.1 (by omega) (by omega) d_K_hasNothing_10 rfl (fun hc4 => ?_) (fun hc4 => ?_)
  · refine fk_gsn S E G 1 (by decide) (List.mem_of_getElem? (i := 52) rfl) d_K_hasNothing_17 ?_
    refine lv_iload_n S.1 S.2.1 d_K_hasNothing_20 rfl (lv_at hl 0 rfl) ?_
    refine fk_ti S E G 1 (by decide) (bf i) rfl (by omega) (v := nI (fk_ar (bf i))) (fk_tv1 _ (by omega)) d_K_hasNothing_21 ?_
    refine lv_istore (lv' := [(4, .int (nI (fk_ar (bf i)))), (3, .int (nI (bf i))), (0, .ref (fk_a g 79)), (1, .ref (fk_a g x)), (2, .int (nI i))]) S.1 S.2.1 d_K_hasNothing_22 hl (by decide) rfl (fun ls hl => ?_)
    refine lv_aload_n S.1 S.2.1 d_K_hasNothing_24 rfl (lv_at hl 3 rfl) ?_
    refine lv_iload_n S.1 S.2.1 d_K_hasNothing_25 rfl (lv_at hl 4 rfl) ?_
    refine fk_cni S E G x (by have := fk_Xlt hX; omega) (congrArg (fk_ce g ov x (M x)) (fk_kx0 hX)) rfl (rest := []) (c_E_firstPart l g ov M x hX i (bf i) (by omega) (by omega) (hb i hi)) m_E_firstPart (List.mem_of_getElem? (i := 20) rfl) ⟨rfl, rfl⟩ ⟨by decide, by decide⟩ rfl rfl hl.1 (Nat.le_of_ble_eq_true rfl) d_K_hasNothing_26 ⟨Nat.zero_le _, Nat.zero_le _⟩ (fun H locs G => ?_)
    refine lv_istore (lv' := [(5, .int (nI (i + fk_hd (bf i)))), (4, .int (nI (fk_ar (bf i)))), (3, .int (nI (bf i))), (0, .ref (fk_a g 79)), (1, .ref (fk_a g x)), (2, .int (nI i))]) S.1 S.2.1 d_K_hasNothing_29 hl (by decide) rfl (fun ls hl => ?_)
    refine lv_iconst (v := nI 0) S.1 S.2.1 d_K_hasNothing_31 (by decide +kernel) ?_
    refine lv_istore (lv' := [(6, .int (nI 0)), (5, .int (nI (i + fk_hd (bf i)))), (4, .int (nI (fk_ar (bf i)))), (3, .int (nI (bf i))), (0, .ref (fk_a g 79)), (1, .ref (fk_a g x)), (2, .int (nI i))]) S.1 S.2.1 d_K_hasNothing_32 hl (by decide) rfl (fun ls hl => ?_)
    refine loop (fk_as (bf i)) 0 (i + fk_hd (bf i)) H locs ls (by omega) (by rw [Nat.add_sub_cancel' has]; exact hts) rfl G ?_
    rw [show fk_as (bf i) = fk_ar (bf i) from if_neg hc4]
    exact hl
  · refine lv_iconst (v := nI 1) S.1 S.2.1 d_K_hasNothing_13 (by decide +kernel) ?_
    refine lv_goto (tgt := 22) S.1 S.2.1 d_K_hasNothing_14 rfl ?_
    refine lv_istore (lv' := [(4, .int (nI 1)), (3, .int (nI (bf i))), (0, .ref (fk_a g 79)), (1, .ref (fk_a g x)), (2, .int (nI i))]) S.1 S.2.1 d_K_hasNothing_22 hl (by decide) rfl (fun ls hl => ?_)
    refine lv_aload_n S.1 S.2.1 d_K_hasNothing_24 rfl (lv_at hl 3 rfl) ?_
    refine lv_iload_n S.1 S.2.1 d_K_hasNothing_25 rfl (lv_at hl 4 rfl) ?_
    refine fk_cni S E G x (by have := fk_Xlt hX; omega) (congrArg (fk_ce g ov x (M x)) (fk_kx0 hX)) rfl (rest := []) (c_E_firstPart l g ov M x hX i (bf i) (by omega) (by omega) (hb i hi)) m_E_firstPart (List.mem_of_getElem? (i := 20) rfl) ⟨rfl, rfl⟩ ⟨by decide, by decide⟩ rfl rfl hl.1 (Nat.le_of_ble_eq_true rfl) d_K_hasNothing_26 ⟨Nat.zero_le _, Nat.zero_le _⟩ (fun H locs G => ?_)
    refine lv_istore (lv' := [(5, .int (nI (i + fk_hd (bf i)))), (4, .int (nI 1)), (3, .int (nI (bf i))), (0, .ref (fk_a g 79)), (1, .ref (fk_a g x)), (2, .int (nI i))]) S.1 S.2.1 d_K_hasNothing_29 hl (by decide) rfl (fun ls hl => ?_)
    refine lv_iconst (v := nI 0) S.1 S.2.1 d_K_hasNothing_31 (by decide +kernel) ?_
    refine lv_istore (lv' := [(6, .int (nI 0)), (5, .int (nI (i + fk_hd (bf i)))), (4, .int (nI 1)), (3, .int (nI (bf i))), (0, .ref (fk_a g 79)), (1, .ref (fk_a g x)), (2, .int (nI i))]) S.1 S.2.1 d_K_hasNothing_32 hl (by decide) rfl (fun ls hl => ?_)
    refine loop (fk_as (bf i)) 0 (i + fk_hd (bf i)) H locs ls (by omega) (by rw [Nat.add_sub_cancel' has]; exact hts) rfl G ?_
    rw [show fk_as (bf i) = 1 from if_pos hc4]
    exact hl
theorem d_K_beginningFault_0 : decode b_K_beginningFault 0 = .ok (.iconst (-1), 1) := by decide +kernel
theorem d_K_beginningFault_1 : decode b_K_beginningFault 1 = .ok (.istore_n 2, 1) := by decide +kernel
theorem d_K_beginningFault_2 : decode b_K_beginningFault 2 = .ok (.aload_n 1, 1) := by decide +kernel
theorem d_K_beginningFault_3 : decode b_K_beginningFault 3 = .ok (.getfield 101, 3) := by decide +kernel
theorem d_K_beginningFault_6 : decode b_K_beginningFault 6 = .ok (.iconst 1, 1) := by decide +kernel
theorem d_K_beginningFault_7 : decode b_K_beginningFault 7 = .ok (.isub, 1) := by decide +kernel
theorem d_K_beginningFault_8 : decode b_K_beginningFault 8 = .ok (.istore_n 3, 1) := by decide +kernel
theorem d_K_beginningFault_9 : decode b_K_beginningFault 9 = .ok (.iload_n 3, 1) := by decide +kernel
theorem d_K_beginningFault_10 : decode b_K_beginningFault 10 = .ok (.ifCond .lt 84, 3) := by decide +kernel
theorem d_K_beginningFault_13 : decode b_K_beginningFault 13 = .ok (.aload_n 1, 1) := by decide +kernel
theorem d_K_beginningFault_14 : decode b_K_beginningFault 14 = .ok (.iload_n 3, 1) := by decide +kernel
theorem d_K_beginningFault_15 : decode b_K_beginningFault 15 = .ok (.invokevirtual 106, 3) := by decide +kernel
theorem d_K_beginningFault_18 : decode b_K_beginningFault 18 = .ok (.ifCond .ne 6, 3) := by decide +kernel
theorem d_K_beginningFault_21 : decode b_K_beginningFault 21 = .ok (.goto 67, 3) := by decide +kernel
theorem d_K_beginningFault_24 : decode b_K_beginningFault 24 = .ok (.aload_n 1, 1) := by decide +kernel
theorem d_K_beginningFault_25 : decode b_K_beginningFault 25 = .ok (.getfield 117, 3) := by decide +kernel
theorem d_K_beginningFault_28 : decode b_K_beginningFault 28 = .ok (.iload_n 3, 1) := by decide +kernel
theorem d_K_beginningFault_29 : decode b_K_beginningFault 29 = .ok (.iaload, 1) := by decide +kernel
theorem d_K_beginningFault_30 : decode b_K_beginningFault 30 = .ok (.istore 4, 2) := by decide +kernel
theorem d_K_beginningFault_32 : decode b_K_beginningFault 32 = .ok (.iload 4, 2) := by decide +kernel
theorem d_K_beginningFault_34 : decode b_K_beginningFault 34 = .ok (.bipush 14, 2) := by decide +kernel
theorem d_K_beginningFault_36 : decode b_K_beginningFault 36 = .ok (.if_icmp .eq 10, 3) := by decide +kernel
theorem d_K_beginningFault_39 : decode b_K_beginningFault 39 = .ok (.iload 4, 2) := by decide +kernel
theorem d_K_beginningFault_41 : decode b_K_beginningFault 41 = .ok (.bipush 15, 2) := by decide +kernel
theorem d_K_beginningFault_43 : decode b_K_beginningFault 43 = .ok (.if_icmp .ne 18, 3) := by decide +kernel
theorem d_K_beginningFault_46 : decode b_K_beginningFault 46 = .ok (.aload_n 0, 1) := by decide +kernel
theorem d_K_beginningFault_47 : decode b_K_beginningFault 47 = .ok (.getfield 15, 3) := by decide +kernel
theorem d_K_beginningFault_50 : decode b_K_beginningFault 50 = .ok (.aload_n 1, 1) := by decide +kernel
theorem d_K_beginningFault_51 : decode b_K_beginningFault 51 = .ok (.iload_n 3, 1) := by decide +kernel
theorem d_K_beginningFault_52 : decode b_K_beginningFault 52 = .ok (.invokevirtual 132, 3) := by decide +kernel
theorem d_K_beginningFault_55 : decode b_K_beginningFault 55 = .ok (.baload, 1) := by decide +kernel
theorem d_K_beginningFault_56 : decode b_K_beginningFault 56 = .ok (.ifCond .eq 5, 3) := by decide +kernel
theorem d_K_beginningFault_59 : decode b_K_beginningFault 59 = .ok (.iload_n 3, 1) := by decide +kernel
theorem d_K_beginningFault_60 : decode b_K_beginningFault 60 = .ok (.istore_n 2, 1) := by decide +kernel
theorem d_K_beginningFault_61 : decode b_K_beginningFault 61 = .ok (.aload_n 0, 1) := by decide +kernel
theorem d_K_beginningFault_62 : decode b_K_beginningFault 62 = .ok (.getfield 15, 3) := by decide +kernel
theorem d_K_beginningFault_65 : decode b_K_beginningFault 65 = .ok (.iload_n 3, 1) := by decide +kernel
theorem d_K_beginningFault_66 : decode b_K_beginningFault 66 = .ok (.iload 4, 2) := by decide +kernel
theorem d_K_beginningFault_68 : decode b_K_beginningFault 68 = .ok (.bipush 14, 2) := by decide +kernel
theorem d_K_beginningFault_70 : decode b_K_beginningFault 70 = .ok (.if_icmp .eq 12, 3) := by decide +kernel
theorem d_K_beginningFault_73 : decode b_K_beginningFault 73 = .ok (.aload_n 0, 1) := by decide +kernel
theorem d_K_beginningFault_74 : decode b_K_beginningFault 74 = .ok (.aload_n 1, 1) := by decide +kernel
theorem d_K_beginningFault_75 : decode b_K_beginningFault 75 = .ok (.iload_n 3, 1) := by decide +kernel
theorem d_K_beginningFault_76 : decode b_K_beginningFault 76 = .ok (.invokevirtual 158, 3) := by decide +kernel
theorem d_K_beginningFault_79 : decode b_K_beginningFault 79 = .ok (.ifCond .eq 7, 3) := by decide +kernel
theorem d_K_beginningFault_82 : decode b_K_beginningFault 82 = .ok (.iconst 1, 1) := by decide +kernel
theorem d_K_beginningFault_83 : decode b_K_beginningFault 83 = .ok (.goto 4, 3) := by decide +kernel
theorem d_K_beginningFault_86 : decode b_K_beginningFault 86 = .ok (.iconst 0, 1) := by decide +kernel
theorem d_K_beginningFault_87 : decode b_K_beginningFault 87 = .ok (.bastore, 1) := by decide +kernel
theorem d_K_beginningFault_88 : decode b_K_beginningFault 88 = .ok (.iinc 3 (-1), 3) := by decide +kernel
theorem d_K_beginningFault_91 : decode b_K_beginningFault 91 = .ok (.goto (-82), 3) := by decide +kernel
theorem d_K_beginningFault_94 : decode b_K_beginningFault 94 = .ok (.aload_n 0, 1) := by decide +kernel
theorem d_K_beginningFault_95 : decode b_K_beginningFault 95 = .ok (.getfield 15, 3) := by decide +kernel
theorem d_K_beginningFault_98 : decode b_K_beginningFault 98 = .ok (.iconst 0, 1) := by decide +kernel
theorem d_K_beginningFault_99 : decode b_K_beginningFault 99 = .ok (.baload, 1) := by decide +kernel
theorem d_K_beginningFault_100 : decode b_K_beginningFault 100 = .ok (.ifCond .eq 7, 3) := by decide +kernel
theorem d_K_beginningFault_103 : decode b_K_beginningFault 103 = .ok (.iconst 0, 1) := by decide +kernel
theorem d_K_beginningFault_104 : decode b_K_beginningFault 104 = .ok (.goto 4, 3) := by decide +kernel
theorem d_K_beginningFault_107 : decode b_K_beginningFault 107 = .ok (.iload_n 2, 1) := by decide +kernel
theorem d_K_beginningFault_108 : decode b_K_beginningFault 108 = .ok (.ireturn, 1) := by decide +kernel
theorem m_K_beginningFault : fk_MI y_K_beginningFault b_K_beginningFault 5 (some .int) 1 := ⟨i_331, i_330, fk_mp (q := (y_K_beginningFault, 7)) (by decide +kernel), i_6, by decide +kernel⟩
set_option maxHeartbeats 4000000 in
set_option maxRecDepth 100000 in
theorem c_K_beginningFault (l : Launch) (g : fk_G) (ov : Int64) (M : fk_M) (x : Nat) (hX : fk_X x) (bf : Nat → Nat) (n cnt : Nat) (hn40 : n ≤ 40) (h12 : cnt ≤ 12) (hb : ∀ j, j < n → M (x + 1) j = nI (bf j)) (hlen : M x 4 = nI n) (hT : fk_T bf n cnt (M (x + 2)) 11 0 n) (hpos : 0 < n) : fk_CI l y_K_beginningFault b_K_beginningFault 5 (some .int) (fk_rm 2) g ov M (va_up M 81 (fk_bg bf (M (x + 2)) n none (M 81)).2) [.ref (fk_a g 79), .ref (fk_a g x)] (if (fk_bg bf (M (x + 2)) n none (M 81)).2 0 = 0 then fk_rv (fk_bg bf (M (x + 2)) n none (M 81)).1 else nI 0) := by
  refine fk_ofI rfl (Nat.le_of_ble_eq_true rfl) ?_
  intro p e s m args below meth c ls S hr hlk E G hl
  have hl : lv_has ls 5 [(0, .ref (fk_a g 79)), (1, .ref (fk_a g x))] := hl
  have exl := fk_Xlt hX
  have loop : ∀ (d : Nat) (lo : Option Nat) (A : Nat → Int32) (H : Heap) (locs : List Loc) (ls : Array Slot), d ≤ n → fk_bg bf (M (x + 2)) d lo A = fk_bg bf (M (x + 2)) n none (M 81) → fk_H g ov (va_up M 81 A) s H locs → lv_has ls 5 [(3, .int (nI d - 1)), (2, .int (fk_rv lo)), (0, .ref (fk_a g 79)), (1, .ref (fk_a g x))] → W p l e (fk_rm (2)) s m args below meth c H locs 0 0 (MQ below (va_Qi (fun rr (_ : Unit) => rr = (if (fk_bg bf (M (x + 2)) n none (M 81)).2 0 = 0 then fk_rv (fk_bg bf (M (x + 2)) n none (M 81)).1 else nI 0)) (fun _ t9 => fk_Wd g ov (va_up M 81 (fk_bg bf (M (x + 2)) n none (M 81)).2) t9) (fk_A g)) args s 0 0 (fk_A g)) (F0 m 9 ls []) := by
    intro d
    induction d with
    | zero =>
      intro lo A H locs ls hv0 hv1 G hl
      obtain ⟨M1, hM1⟩ : ∃ z : fk_M, z = va_up M 81 A := ⟨_, rfl⟩
      rw [← hM1] at G
      have ex : ∀ k, k ≠ 81 → M1 k = M k := fun k hk => by rw [hM1, va_up_ne _ _ hk]
      have hx1 : M1 (x + 1) = M (x + 1) := ex _ (by rcases hX with h9 | ⟨z, h8, h9⟩ <;> omega)
      have hx2 : M1 (x + 2) = M (x + 2) := ex _ (by rcases hX with h9 | ⟨z, h8, h9⟩ <;> omega)
      have h81 : M1 81 = A := by rw [hM1, va_up_self]
      have hb1 : ∀ j, j < n → M1 (x + 1) j = nI (bf j) := fun j hj => by rw [hx1]; exact hb j hj
      refine lv_iload_n S.1 S.2.1 d_K_beginningFault_9 rfl (lv_at hl 0 rfl) ?_
      refine lv_if_lt (tgt := 94) S.1 S.2.1 d_K_beginningFault_10 rfl (fun hc1 => ?_) (fun hc1 => ?_)
      · refine lv_aload_n S.1 S.2.1 d_K_beginningFault_94 rfl (lv_at hl 2 rfl) ?_
        refine fk_gf S E G 79 (by decide) (v := .ref (fk_a g 81)) (congrArg (fk_ce g ov 79 (M1 79)) kd_79) rfl 3 (by decide) rfl i_159 rfl d_K_beginningFault_95 ?_
        refine lv_iconst (v := nI 0) S.1 S.2.1 d_K_beginningFault_98 (by decide +kernel) ?_
        refine fk_za S E G 81 (by decide) (congrArg (fk_ce g ov 81 (M1 81)) kd_81) 0 rfl (by omega) (by decide) (v := M1 81 0) rfl d_K_beginningFault_99 ?_
        refine lv_if_eq (tgt := 107) S.1 S.2.1 d_K_beginningFault_100 rfl (fun hc2 => ?_) (fun hc2 => ?_)
        · have hres : fk_bg bf (M (x + 2)) n none (M 81) = (lo, A) := hv1.symm
          rw [h81] at hc2
          refine lv_iload_n S.1 S.2.1 d_K_beginningFault_107 rfl (lv_at hl 1 rfl) ?_
          exact fk_iret S hr hlk E G (by rw [hM1, hres]) (by rw [hres]; exact (if_pos hc2).symm) d_K_beginningFault_108
        · have hres : fk_bg bf (M (x + 2)) n none (M 81) = (lo, A) := hv1.symm
          rw [h81] at hc2
          refine lv_iconst (v := nI 0) S.1 S.2.1 d_K_beginningFault_103 (by decide +kernel) ?_
          refine lv_goto (tgt := 108) S.1 S.2.1 d_K_beginningFault_104 rfl ?_
          exact fk_iret S hr hlk E G (by rw [hM1, hres]) (by rw [hres]; exact (if_neg hc2).symm) d_K_beginningFault_108
      · exact absurd (by decide +kernel) hc1
    | succ d ih =>
      intro lo A H locs ls hv0 hv1 G hl
      rw [nI_pred] at hl
      obtain ⟨M1, hM1⟩ : ∃ z : fk_M, z = va_up M 81 A := ⟨_, rfl⟩
      rw [← hM1] at G
      have ex : ∀ k, k ≠ 81 → M1 k = M k := fun k hk => by rw [hM1, va_up_ne _ _ hk]
      have hx1 : M1 (x + 1) = M (x + 1) := ex _ (by rcases hX with h9 | ⟨z, h8, h9⟩ <;> omega)
      have hx2 : M1 (x + 2) = M (x + 2) := ex _ (by rcases hX with h9 | ⟨z, h8, h9⟩ <;> omega)
      have h81 : M1 81 = A := by rw [hM1, va_up_self]
      have hb1 : ∀ j, j < n → M1 (x + 1) j = nI (bf j) := fun j hj => by rw [hx1]; exact hb j hj
      refine lv_iload_n S.1 S.2.1 d_K_beginningFault_9 rfl (lv_at hl 0 rfl) ?_
      refine lv_if_lt (tgt := 94) S.1 S.2.1 d_K_beginningFault_10 rfl (fun hc3 => ?_) (fun hc3 => ?_)
      · exact absurd hc3 (nI_pos (by omega))
      · refine lv_aload_n S.1 S.2.1 d_K_beginningFault_13 rfl (lv_at hl 3 rfl) ?_
        refine lv_iload_n S.1 S.2.1 d_K_beginningFault_14 rfl (lv_at hl 0 rfl) ?_
        refine fk_cni S E G x (by have := fk_Xlt hX; omega) (congrArg (fk_ce g ov x (M1 x)) (fk_kx0 hX)) rfl (rest := []) (c_E_beginsAt l g ov M1 x hX d (by omega)) m_E_beginsAt (List.mem_of_getElem? (i := 17) rfl) ⟨rfl, rfl⟩ ⟨by decide, by decide⟩ rfl rfl hl.1 (Nat.le_of_ble_eq_true rfl) d_K_beginningFault_15 ⟨Nat.zero_le _, Nat.zero_le _⟩ (fun H locs G => ?_)
        refine fk_zne (tgt := 24) S.1 S.2.1 (fk_bl _) d_K_beginningFault_18 rfl (fun hc4 => ?_) (fun hc4 => ?_)
        · have hE := of_decide_eq_true (fk_bt hc4)
          rw [hx2] at hE
          obtain ⟨r, ee, hq10, hok, hEe, hlt, hle, hts⟩ := fk_node (by omega) hT (show d < n by omega) hE
          have hok2 := hok.2.1
          have hlen2 := hok.2.2.1
          have hhn := c_K_hasNothing l g ov M1 x hX bf n cnt hn40 h12 hb1 d hok r ee (by rw [hx2]; exact hts)
          rw [hx2, h81] at hhn
          refine lv_aload_n S.1 S.2.1 d_K_beginningFault_24 rfl (lv_at hl 3 rfl) ?_
          refine fk_gn S E G x (by have := fk_Xlt hX; omega) (v := .ref (fk_a g (x + 1))) (congrArg (fk_ce g ov x (M1 x)) (fk_kx0 hX)) rfl 0 (by decide) rfl (List.mem_of_getElem? (i := 1) rfl) rfl d_K_beginningFault_25 ?_
          refine lv_iload_n S.1 S.2.1 d_K_beginningFault_28 rfl (lv_at hl 0 rfl) ?_
          refine fk_ia S E G (x + 1) (by have := fk_Xlt hX; omega) (congrArg (fk_ce g ov (x + 1) (M1 (x + 1))) (fk_kx1 hX)) d rfl (by omega) (by decide) (v := nI (bf d)) (hb1 d (by omega)) d_K_beginningFault_29 ?_
          refine lv_istore (lv' := [(4, .int (nI (bf d))), (3, .int (nI d)), (2, .int (fk_rv lo)), (0, .ref (fk_a g 79)), (1, .ref (fk_a g x))]) S.1 S.2.1 d_K_beginningFault_30 hl (by decide) rfl (fun ls hl => ?_)
          have mid : ∀ (lo2 : Option Nat) (H : Heap) (locs : List Loc) (ls : Array Slot), lo2 = (if (bf d = 14 ∨ bf d = 15) ∧ ¬ A (d + fk_hd (bf d)) = 0 then some d else lo) → fk_H g ov M1 s H locs → lv_has ls 5 [(4, .int (nI (bf d))), (3, .int (nI d)), (2, .int (fk_rv lo2)), (0, .ref (fk_a g 79)), (1, .ref (fk_a g x))] → W p l e (fk_rm (2)) s m args below meth c H locs 0 0 (MQ below (va_Qi (fun rr (_ : Unit) => rr = (if (fk_bg bf (M (x + 2)) n none (M 81)).2 0 = 0 then fk_rv (fk_bg bf (M (x + 2)) n none (M 81)).1 else nI 0)) (fun _ t9 => fk_Wd g ov (va_up M 81 (fk_bg bf (M (x + 2)) n none (M 81)).2) t9) (fk_A g)) args s 0 0 (fk_A g)) (F0 m 61 ls []) := by
            intro lo2 H locs ls hlo G hl
            refine lv_aload_n S.1 S.2.1 d_K_beginningFault_61 rfl (lv_at hl 3 rfl) ?_
            refine fk_gf S E G 79 (by decide) (v := .ref (fk_a g 81)) (congrArg (fk_ce g ov 79 (M1 79)) kd_79) rfl 3 (by decide) rfl i_159 rfl d_K_beginningFault_62 ?_
            refine lv_iload_n S.1 S.2.1 d_K_beginningFault_65 rfl (lv_at hl 1 rfl) ?_
            refine lv_iload S.1 S.2.1 d_K_beginningFault_66 (lv_at hl 0 rfl) ?_
            refine lv_bipush (v := nI 14) S.1 S.2.1 d_K_beginningFault_68 (by decide +kernel) ?_
            refine fk_ceq (tgt := 82) S.1 S.2.1 (by omega) (by omega) d_K_beginningFault_70 rfl (fun hc5 => ?_) (fun hc5 => ?_)
            · refine lv_iconst (v := nI 1) S.1 S.2.1 d_K_beginningFault_82 (by decide +kernel) ?_
              refine lv_goto (tgt := 87) S.1 S.2.1 d_K_beginningFault_83 rfl ?_
              refine fk_zs S E G 81 (by decide) (fun r => congrArg (fk_ce g ov 81 r) kd_81) d rfl (by omega) (by decide) (Or.inr (by decide +kernel)) d_K_beginningFault_87 (fun H locs G => ?_)
              obtain ⟨M6, hM6⟩ : ∃ z : fk_M, z = va_up M1 81 (upd (M1 81) d (nI 1)) := ⟨_, rfl⟩
              rw [← hM6] at G
              rw [hM6, h81, hM1, bx_uu] at G
              have hbit : (decide (bf d = 14) || fk_hn (M (x + 2)) A (fk_as (bf d)) (d + fk_hd (bf d))) = true := by
                rw [decide_eq_true hc5]; rfl
              refine lv_iinc (k := 1) (v := nI d - 1) (lv' := [(3, .int (nI d - 1)), (4, .int (nI (bf d))), (2, .int (fk_rv lo2)), (0, .ref (fk_a g 79)), (1, .ref (fk_a g x))]) S.1 S.2.1 d_K_beginningFault_88 hl rfl (fk_dec _) (by decide) rfl (fun ls hl => ?_)
              refine lv_goto (tgt := 9) S.1 S.2.1 d_K_beginningFault_91 rfl ?_
              exact ih lo2 (upd A d (nI 1)) H locs ls (by omega) (by rw [← hv1, fk_bg_S, if_neg (fun q => q hE), hbit, ← hlo]; rfl) G (lv_sub hl [0, 2, 3, 4] rfl)
            · refine lv_aload_n S.1 S.2.1 d_K_beginningFault_73 rfl (lv_at hl 3 rfl) ?_
              refine lv_aload_n S.1 S.2.1 d_K_beginningFault_74 rfl (lv_at hl 4 rfl) ?_
              refine lv_iload_n S.1 S.2.1 d_K_beginningFault_75 rfl (lv_at hl 1 rfl) ?_
              refine fk_cvi S E G 79 (by decide) (congrArg (fk_ce g ov 79 (M1 79)) kd_79) rfl (rest := [.int (nI d), .ref (fk_a g 81)]) hhn m_K_hasNothing i_332 ⟨rfl, rfl⟩ ⟨by decide, by decide⟩ rfl rfl hl.1 (Nat.le_of_ble_eq_true rfl) d_K_beginningFault_76 ⟨Nat.zero_le _, Nat.zero_le _⟩ (fun H locs G => ?_)
              refine fk_zeq (tgt := 86) S.1 S.2.1 (fk_bl _) d_K_beginningFault_79 rfl (fun hc7 => ?_) (fun hc7 => ?_)
              · refine lv_iconst (v := nI 0) S.1 S.2.1 d_K_beginningFault_86 (by decide +kernel) ?_
                refine fk_zs S E G 81 (by decide) (fun r => congrArg (fk_ce g ov 81 r) kd_81) d rfl (by omega) (by decide) (Or.inl (by decide +kernel)) d_K_beginningFault_87 (fun H locs G => ?_)
                obtain ⟨M8, hM8⟩ : ∃ z : fk_M, z = va_up M1 81 (upd (M1 81) d (nI 0)) := ⟨_, rfl⟩
                rw [← hM8] at G
                rw [hM8, h81, hM1, bx_uu] at G
                have hbit : (decide (bf d = 14) || fk_hn (M (x + 2)) A (fk_as (bf d)) (d + fk_hd (bf d))) = false := by
                  rw [decide_eq_false hc5, fk_bf hc7]; rfl
                refine lv_iinc (k := 1) (v := nI d - 1) (lv' := [(3, .int (nI d - 1)), (4, .int (nI (bf d))), (2, .int (fk_rv lo2)), (0, .ref (fk_a g 79)), (1, .ref (fk_a g x))]) S.1 S.2.1 d_K_beginningFault_88 hl rfl (fk_dec _) (by decide) rfl (fun ls hl => ?_)
                refine lv_goto (tgt := 9) S.1 S.2.1 d_K_beginningFault_91 rfl ?_
                exact ih lo2 (upd A d (nI 0)) H locs ls (by omega) (by rw [← hv1, fk_bg_S, if_neg (fun q => q hE), hbit, ← hlo]; rfl) G (lv_sub hl [0, 2, 3, 4] rfl)
              · refine lv_iconst (v := nI 1) S.1 S.2.1 d_K_beginningFault_82 (by decide +kernel) ?_
                refine lv_goto (tgt := 87) S.1 S.2.1 d_K_beginningFault_83 rfl ?_
                refine fk_zs S E G 81 (by decide) (fun r => congrArg (fk_ce g ov 81 r) kd_81) d rfl (by omega) (by decide) (Or.inr (by decide +kernel)) d_K_beginningFault_87 (fun H locs G => ?_)
                obtain ⟨M9, hM9⟩ : ∃ z : fk_M, z = va_up M1 81 (upd (M1 81) d (nI 1)) := ⟨_, rfl⟩
                rw [← hM9] at G
                rw [hM9, h81, hM1, bx_uu] at G
                have hbit : (decide (bf d = 14) || fk_hn (M (x + 2)) A (fk_as (bf d)) (d + fk_hd (bf d))) = true := by
                  rw [decide_eq_false hc5, fk_bt hc7]; rfl
                refine lv_iinc (k := 1) (v := nI d - 1) (lv' := [(3, .int (nI d - 1)), (4, .int (nI (bf d))), (2, .int (fk_rv lo2)), (0, .ref (fk_a g 79)), (1, .ref (fk_a g x))]) S.1 S.2.1 d_K_beginningFault_88 hl rfl (fk_dec _) (by decide) rfl (fun ls hl => ?_)
                refine lv_goto (tgt := 9) S.1 S.2.1 d_K_beginningFault_91 rfl ?_
                exact ih lo2 (upd A d (nI 1)) H locs ls (by omega) (by rw [← hv1, fk_bg_S, if_neg (fun q => q hE), hbit, ← hlo]; rfl) G (lv_sub hl [0, 2, 3, 4] rfl)
          refine lv_iload S.1 S.2.1 d_K_beginningFault_32 (lv_at hl 0 rfl) ?_
          refine lv_bipush (v := nI 14) S.1 S.2.1 d_K_beginningFault_34 (by decide +kernel) ?_
          refine fk_ceq (tgt := 46) S.1 S.2.1 (by omega) (by omega) d_K_beginningFault_36 rfl (fun hc10 => ?_) (fun hc10 => ?_)
          · have hk2 : fk_ar (bf d) = 1 ∨ fk_ar (bf d) = 2 := by
              rcases (Or.inl hc10 : bf d = 14 ∨ bf d = 15) with h9 | h9 <;> rw [h9] <;> decide
            have hc1 : d + fk_hd (bf d) < 40 := by
              rcases hk2 with h9 | h9 <;> rw [h9] at hts
              · obtain ⟨y1, t1, -⟩ := hts
                have := fk_T_lt _ _ _ t1
                omega
              · obtain ⟨y1, t1, -⟩ := hts
                have := fk_T_lt _ _ _ t1
                omega
            refine lv_aload_n S.1 S.2.1 d_K_beginningFault_46 rfl (lv_at hl 3 rfl) ?_
            refine fk_gf S E G 79 (by decide) (v := .ref (fk_a g 81)) (congrArg (fk_ce g ov 79 (M1 79)) kd_79) rfl 3 (by decide) rfl i_159 rfl d_K_beginningFault_47 ?_
            refine lv_aload_n S.1 S.2.1 d_K_beginningFault_50 rfl (lv_at hl 4 rfl) ?_
            refine lv_iload_n S.1 S.2.1 d_K_beginningFault_51 rfl (lv_at hl 1 rfl) ?_
            refine fk_cni S E G x (by have := fk_Xlt hX; omega) (congrArg (fk_ce g ov x (M1 x)) (fk_kx0 hX)) rfl (rest := [.ref (fk_a g 81)]) (c_E_firstPart l g ov M1 x hX d (bf d) (by omega) (by omega) (hb1 d (by omega))) m_E_firstPart (List.mem_of_getElem? (i := 20) rfl) ⟨rfl, rfl⟩ ⟨by decide, by decide⟩ rfl rfl hl.1 (Nat.le_of_ble_eq_true rfl) d_K_beginningFault_52 ⟨Nat.zero_le _, Nat.zero_le _⟩ (fun H locs G => ?_)
            refine fk_za S E G 81 (by decide) (congrArg (fk_ce g ov 81 (M1 81)) kd_81) (d + fk_hd (bf d)) rfl hc1 (by decide) (v := A (d + fk_hd (bf d))) (by rw [h81]) d_K_beginningFault_55 ?_
            refine lv_if_eq (tgt := 61) S.1 S.2.1 d_K_beginningFault_56 rfl (fun hc11 => ?_) (fun hc11 => ?_)
            · exact mid lo H locs ls (if_neg (fun q => q.2 hc11)).symm G hl
            · refine lv_iload_n S.1 S.2.1 d_K_beginningFault_59 rfl (lv_at hl 1 rfl) ?_
              refine lv_istore_n (lv' := [(2, .int (nI d)), (4, .int (nI (bf d))), (3, .int (nI d)), (0, .ref (fk_a g 79)), (1, .ref (fk_a g x))]) S.1 S.2.1 d_K_beginningFault_60 rfl hl (by decide) rfl (fun ls hl => ?_)
              exact mid (some d) H locs ls (if_pos ⟨(Or.inl hc10 : bf d = 14 ∨ bf d = 15), hc11⟩).symm G (lv_sub hl [1, 2, 0, 3, 4] rfl)
          · refine lv_iload S.1 S.2.1 d_K_beginningFault_39 (lv_at hl 0 rfl) ?_
            refine lv_bipush (v := nI 15) S.1 S.2.1 d_K_beginningFault_41 (by decide +kernel) ?_
            refine fk_cne (tgt := 61) S.1 S.2.1 (by omega) (by omega) d_K_beginningFault_43 rfl (fun hc12 => ?_) (fun hc12 => ?_)
            · exact mid lo H locs ls (if_neg (fun q => q.1.elim hc10 hc12)).symm G hl
            · have hk2 : fk_ar (bf d) = 1 ∨ fk_ar (bf d) = 2 := by
                rcases (Or.inr hc12 : bf d = 14 ∨ bf d = 15) with h9 | h9 <;> rw [h9] <;> decide
              have hc1 : d + fk_hd (bf d) < 40 := by
                rcases hk2 with h9 | h9 <;> rw [h9] at hts
                · obtain ⟨y1, t1, -⟩ := hts
                  have := fk_T_lt _ _ _ t1
                  omega
                · obtain ⟨y1, t1, -⟩ := hts
                  have := fk_T_lt _ _ _ t1
                  omega
              refine lv_aload_n S.1 S.2.1 d_K_beginningFault_46 rfl (lv_at hl 3 rfl) ?_
              refine fk_gf S E G 79 (by decide) (v := .ref (fk_a g 81)) (congrArg (fk_ce g ov 79 (M1 79)) kd_79) rfl 3 (by decide) rfl i_159 rfl d_K_beginningFault_47 ?_
              refine lv_aload_n S.1 S.2.1 d_K_beginningFault_50 rfl (lv_at hl 4 rfl) ?_
              refine lv_iload_n S.1 S.2.1 d_K_beginningFault_51 rfl (lv_at hl 1 rfl) ?_
              refine fk_cni S E G x (by have := fk_Xlt hX; omega) (congrArg (fk_ce g ov x (M1 x)) (fk_kx0 hX)) rfl (rest := [.ref (fk_a g 81)]) (c_E_firstPart l g ov M1 x hX d (bf d) (by omega) (by omega) (hb1 d (by omega))) m_E_firstPart (List.mem_of_getElem? (i := 20) rfl) ⟨rfl, rfl⟩ ⟨by decide, by decide⟩ rfl rfl hl.1 (Nat.le_of_ble_eq_true rfl) d_K_beginningFault_52 ⟨Nat.zero_le _, Nat.zero_le _⟩ (fun H locs G => ?_)
              refine fk_za S E G 81 (by decide) (congrArg (fk_ce g ov 81 (M1 81)) kd_81) (d + fk_hd (bf d)) rfl hc1 (by decide) (v := A (d + fk_hd (bf d))) (by rw [h81]) d_K_beginningFault_55 ?_
              refine lv_if_eq (tgt := 61) S.1 S.2.1 d_K_beginningFault_56 rfl (fun hc13 => ?_) (fun hc13 => ?_)
              · exact mid lo H locs ls (if_neg (fun q => q.2 hc13)).symm G hl
              · refine lv_iload_n S.1 S.2.1 d_K_beginningFault_59 rfl (lv_at hl 1 rfl) ?_
                refine lv_istore_n (lv' := [(2, .int (nI d)), (4, .int (nI (bf d))), (3, .int (nI d)), (0, .ref (fk_a g 79)), (1, .ref (fk_a g x))]) S.1 S.2.1 d_K_beginningFault_60 rfl hl (by decide) rfl (fun ls hl => ?_)
                exact mid (some d) H locs ls (if_pos ⟨(Or.inr hc12 : bf d = 14 ∨ bf d = 15), hc13⟩).symm G (lv_sub hl [1, 2, 0, 3, 4] rfl)
        · have hE := of_decide_eq_false (fk_bf hc4)
          rw [hx2] at hE
          refine lv_goto (tgt := 88) S.1 S.2.1 d_K_beginningFault_21 rfl ?_
          rw [hM1] at G
          refine lv_iinc (k := 0) (v := nI d - 1) (lv' := [(3, .int (nI d - 1)), (2, .int (fk_rv lo)), (0, .ref (fk_a g 79)), (1, .ref (fk_a g x))]) S.1 S.2.1 d_K_beginningFault_88 hl rfl (fk_dec _) (by decide) rfl (fun ls hl => ?_)
          refine lv_goto (tgt := 9) S.1 S.2.1 d_K_beginningFault_91 rfl ?_
          exact ih lo A H locs ls (by omega) (by rw [← hv1, fk_bg_S, if_pos hE]) G (lv_sub hl [0, 1, 2, 3] rfl)
  refine lv_iconst (v := -1) S.1 S.2.1 d_K_beginningFault_0 (by decide +kernel) ?_
  refine lv_istore_n (lv' := [(2, .int (-1)), (0, .ref (fk_a g 79)), (1, .ref (fk_a g x))]) S.1 S.2.1 d_K_beginningFault_1 rfl hl (by decide) rfl (fun ls hl => ?_)
  refine lv_aload_n S.1 S.2.1 d_K_beginningFault_2 rfl (lv_at hl 2 rfl) ?_
  refine fk_gn S E G x (by have := fk_Xlt hX; omega) (v := .int (M x 4)) (congrArg (fk_ce g ov x (M x)) (fk_kx0 hX)) rfl 4 (by decide) rfl (List.mem_of_getElem? (i := 11) rfl) rfl d_K_beginningFault_3 ?_
  rw [hlen]
  refine lv_iconst (v := nI 1) S.1 S.2.1 d_K_beginningFault_6 (by decide +kernel) ?_
  refine fk_isub S.1 S.2.1 (by omega) d_K_beginningFault_7 ?_
  refine lv_istore_n (lv' := [(3, .int (nI (n - 1))), (2, .int (-1)), (0, .ref (fk_a g 79)), (1, .ref (fk_a g x))]) S.1 S.2.1 d_K_beginningFault_8 rfl hl (by decide) rfl (fun ls hl => ?_)
  rw [show nI (n - 1) = nI n - 1 by rw [← pk_sub (show 1 ≤ n by omega)]; rfl] at hl
  exact loop n none (M 81) s.heap [] ls (Nat.le_refl _) rfl (by rw [fk_upid]; exact G) hl
end
section
/-! Checker: faultOf, holdsForAll, examine. Written by wip/gen/s_exam.py. -/
/-- the rows of clocks stay rows of clocks -/
def fk_Cl (A : Nat → Int32) : Prop := ∀ i, i < 40 → ∃ q, q < 25 ∧ A i = nI q
theorem fk_Cl_up {A : Nat → Int32} (h : fk_Cl A) (y : Nat) {q : Nat} (hq : q < 25) : fk_Cl (upd A y (nI q)) := by
  intro i hi
  by_cases hy : i = y
  · subst hy
    exact ⟨q, hq, pk_us⟩
  · obtain ⟨z, h1, h2⟩ := h i hi
    exact ⟨z, h1, by rw [pk_un hy]; exact h2⟩
theorem fk_cpt_Cl {ck : Nat → Nat} {k w q z : Nat} (hck : k = 3 ∨ 15 < k → ck w < 25 ∧ w < 12) (hz : z < 25) : ∃ y, y < 25 ∧ fk_cpt ck k w q (nI z) = nI y := by
  by_cases h : k = 3 ∨ 15 < k
  · obtain ⟨h1, h2⟩ := hck h
    unfold fk_cpt
    split
    · exact ⟨_, h1, rfl⟩
    · exact ⟨_, h1, rfl⟩
    · exact ⟨2 * w + if q = 0 then 1 else 2, by split <;> omega, rfl⟩
    · exact ⟨z, hz, rfl⟩
  · unfold fk_cpt
    split
    · exact absurd (Or.inr (by decide)) h
    · exact absurd (Or.inr (by decide)) h
    · exact absurd (Or.inr (by decide)) h
    · exact ⟨z, hz, rfl⟩
theorem fk_wc_Cl {E : Nat → Int32} {ck : Nat → Nat} {k w i : Nat} (hi : i < 40) (hck : k = 3 ∨ 15 < k → ck w < 25 ∧ w < 12) : ∀ d q y A, fk_Cl A → fk_Cl (fk_wc E ck k w i d q y A) := by
  intro d
  induction d with
  | zero => intro q y A h; exact h
  | succ d ih =>
    intro q y A h
    obtain ⟨z, h1, h2⟩ := h i hi
    obtain ⟨z2, h3, h4⟩ := fk_cpt_Cl (q := q) hck h1
    refine ih _ _ _ ?_
    rw [h2, h4]
    exact fk_Cl_up h _ h3
theorem fk_cf_Cl {b : Nat → Nat} {n cnt : Nat} {E : Nat → Int32} {ck : Nat → Nat} (hn : n ≤ 40) (h12 : cnt ≤ 12) (hck : ∀ j, j < 12 → ck j < 25) (hT : fk_T b n cnt E 11 0 n) : ∀ d i A, i + d = n → fk_Cl A → fk_Cl (fk_cf b E ck d i A).2 := by
  intro d
  induction d with
  | zero => intro i A _ h; exact h
  | succ d ih =>
    intro i A hi h
    rw [fk_cf_S]
    by_cases hE : 0 < E i
    · rw [if_neg (fun q => q hE)]
      obtain ⟨r, ee, -, hok, -⟩ := fk_node (by omega) hT (show i < n by omega) hE
      by_cases ho : fk_oc ck (b i) (b (i + 1)) (A i) = A i
      · rw [if_pos ho]
        refine ih _ _ (by omega) (fk_wc_Cl (by omega) (fun h9 => ?_) _ _ _ _ h)
        have := hok.2.2.2 h9
        exact ⟨hck _ (by omega), by omega⟩
      · rw [if_neg ho]
        exact h
    · rw [if_pos hE]
      exact ih _ _ (by omega) h
/-- the rows of an expression's clocks change, no more -/
theorem fk_Sh_clk {n : Nat} {ck P sz : Nat → Nat} {bb : Nat → Nat → Nat} {M : fk_M} (h : fk_Sh n ck P sz bb M) {x : Nat} (hX : fk_X x) {A : Nat → Int32} (hA : fk_Cl A) : fk_Sh n ck P sz bb (va_up M (x + 3) A) := by
  obtain ⟨h1, h2, h3⟩ := h
  refine ⟨by rw [va_up_ne _ _ (by omega)]; exact h1, h2, fun j hj => ?_⟩
  obtain ⟨a1, a2, a3, a4, a5, a6, a7, a8, a9, a10, a11, a12⟩ := h3 j hj
  have e0 : 3 + 6 * j ≠ x + 3 := by rcases hX with h9 | ⟨z, h8, h9⟩ <;> omega
  have e1 : P j ≠ x + 3 := by rcases hX with h9 | ⟨z, h8, h9⟩ <;> rcases a1 with g9 | ⟨y, g8, g9⟩ <;> omega
  have e2 : P j + 1 ≠ x + 3 := by rcases hX with h9 | ⟨z, h8, h9⟩ <;> rcases a1 with g9 | ⟨y, g8, g9⟩ <;> omega
  have e3 : P j + 2 ≠ x + 3 := by rcases hX with h9 | ⟨z, h8, h9⟩ <;> rcases a1 with g9 | ⟨y, g8, g9⟩ <;> omega
  rw [va_up_ne _ _ e0, va_up_ne _ _ e1, va_up_ne _ _ e2, va_up_ne _ _ e3]
  refine ⟨a1, a2, a3, a4, a5, a6, a7, ?_, a9, a10, a11, a12⟩
  by_cases hx : P j + 3 = x + 3
  · rw [hx, va_up_self]
    exact hA
  · rw [va_up_ne _ _ hx]
    exact a8
/-- a rule at a flow: where it fails (-1: nowhere), and what the rows hold behind it -/
def fk_fo (ck P sz : Nat → Nat) (bb : Nat → Nat → Nat) (M : fk_M) (rule j : Nat) : Int32 × fk_M :=
  if rule = 5 then (if fk_wf (M 76 j) j = true then nI 0 else -1, M)
  else if ¬ M (3 + 6 * j) 2 = 0 then (-1, M)
  else match rule with
    | 1 => (if 0 < sz j then -1 else nI 0, M)
    | 2 => (fk_rv (fk_tf M (bb j) (M (P j + 2)) (sz j) 0 (upd (M 80) 0 (nI (fk_ty1 M j)))).1, va_up M 80 (fk_tf M (bb j) (M (P j + 2)) (sz j) 0 (upd (M 80) 0 (nI (fk_ty1 M j)))).2)
    | 3 => (fk_rv (fk_cf (bb j) (M (P j + 2)) ck (sz j) 0 (upd (M (P j + 3)) 0 (nI (ck j)))).1, va_up M (P j + 3) (fk_cf (bb j) (M (P j + 2)) ck (sz j) 0 (upd (M (P j + 3)) 0 (nI (ck j)))).2)
    | _ => (if (fk_bg (bb j) (M (P j + 2)) (sz j) none (M 81)).2 0 = 0 then fk_rv (fk_bg (bb j) (M (P j + 2)) (sz j) none (M 81)).1 else nI 0, va_up M 81 (fk_bg (bb j) (M (P j + 2)) (sz j) none (M 81)).2)
theorem fk_fo_Sh {n : Nat} {ck P sz : Nat → Nat} {bb : Nat → Nat → Nat} {M : fk_M} (h : fk_Sh n ck P sz bb M) {rule j : Nat} (hj : j < 12) (hp : 2 ≤ rule → M (3 + 6 * j) 2 = 0 → 0 < sz j) : fk_Sh n ck P sz bb (fk_fo ck P sz bb M rule j).2 := by
  obtain ⟨hX, hq, hck, h25, hsz, h40, hb, hcl, hT, -⟩ := h.2.2 j hj
  unfold fk_fo
  by_cases h5 : rule = 5
  · rw [if_pos h5]
    exact h
  · rw [if_neg h5]
    by_cases hin : M (3 + 6 * j) 2 = 0
    · rw [if_neg (fun q => q hin)]
      split
      · exact h
      · exact h.to (fk_Eq_k (by omega) _)
      · refine fk_Sh_clk h hX ?_
        exact fk_cf_Cl h40 h.2.1 (fun i hi => (h.2.2 i hi).2.2.2.1) (hT (hp (by decide) hin)) _ _ _ (by omega) (fk_Cl_up hcl _ h25)
      · exact h.to (fk_Eq_k (by omega) _)
    · rw [if_pos hin]
      exact h
/-- what a rule's rows don't touch: the masks, the answer of the check, the counts .. -/
theorem fk_fo_ne {n : Nat} {ck P sz : Nat → Nat} {bb : Nat → Nat → Nat} {M : fk_M} (h : fk_Sh n ck P sz bb M) {rule j k : Nat} (hj : j < 12) (hk : k ≠ 80 ∧ k ≠ 81 ∧ k ≠ P j + 3) : (fk_fo ck P sz bb M rule j).2 k = M k := by
  unfold fk_fo
  by_cases h5 : rule = 5
  · rw [if_pos h5]
  · rw [if_neg h5]
    by_cases hin : M (3 + 6 * j) 2 = 0
    · rw [if_neg (fun q => q hin)]
      split
      · rfl
      · exact va_up_ne _ _ hk.1
      · exact va_up_ne _ _ hk.2.2
      · exact va_up_ne _ _ hk.2.1
    · rw [if_pos hin]
def fk_hf (ck P sz : Nat → Nat) (bb : Nat → Nat → Nat) (rule : Nat) : Nat → Nat → fk_M → Bool × fk_M
  | 0, _, M => (true, M)
  | d + 1, j, M => if (fk_fo ck P sz bb M rule j).1 = -1 then fk_hf ck P sz bb rule d (j + 1) (fk_fo ck P sz bb M rule j).2 else (false, va_up (fk_fo ck P sz bb M rule j).2 79 (upd (upd ((fk_fo ck P sz bb M rule j).2 79) 5 (nI j)) 6 (fk_fo ck P sz bb M rule j).1))
theorem fk_hf_S (ck P sz : Nat → Nat) (bb : Nat → Nat → Nat) (rule d j : Nat) (M : fk_M) : fk_hf ck P sz bb rule (d + 1) j M = if (fk_fo ck P sz bb M rule j).1 = -1 then fk_hf ck P sz bb rule d (j + 1) (fk_fo ck P sz bb M rule j).2 else (false, va_up (fk_fo ck P sz bb M rule j).2 79 (upd (upd ((fk_fo ck P sz bb M rule j).2 79) 5 (nI j)) 6 (fk_fo ck P sz bb M rule j).1)) := rfl
theorem d_K_faultOf_0 : decode b_K_faultOf 0 = .ok (.aload_n 0, 1) := by decide +kernel
theorem d_K_faultOf_1 : decode b_K_faultOf 1 = .ok (.getfield 26, 3) := by decide +kernel
theorem d_K_faultOf_4 : decode b_K_faultOf 4 = .ok (.getfield 62, 3) := by decide +kernel
theorem d_K_faultOf_7 : decode b_K_faultOf 7 = .ok (.iload_n 2, 1) := by decide +kernel
theorem d_K_faultOf_8 : decode b_K_faultOf 8 = .ok (.aaload, 1) := by decide +kernel
theorem d_K_faultOf_9 : decode b_K_faultOf 9 = .ok (.astore_n 3, 1) := by decide +kernel
theorem d_K_faultOf_10 : decode b_K_faultOf 10 = .ok (.iload_n 1, 1) := by decide +kernel
theorem d_K_faultOf_11 : decode b_K_faultOf 11 = .ok (.iconst 5, 1) := by decide +kernel
theorem d_K_faultOf_12 : decode b_K_faultOf 12 = .ok (.if_icmp .ne 21, 3) := by decide +kernel
theorem d_K_faultOf_15 : decode b_K_faultOf 15 = .ok (.aload_n 0, 1) := by decide +kernel
theorem d_K_faultOf_16 : decode b_K_faultOf 16 = .ok (.getfield 30, 3) := by decide +kernel
theorem d_K_faultOf_19 : decode b_K_faultOf 19 = .ok (.iload_n 2, 1) := by decide +kernel
theorem d_K_faultOf_20 : decode b_K_faultOf 20 = .ok (.iload_n 2, 1) := by decide +kernel
theorem d_K_faultOf_21 : decode b_K_faultOf 21 = .ok (.invokevirtual 66, 3) := by decide +kernel
theorem d_K_faultOf_24 : decode b_K_faultOf 24 = .ok (.ifCond .eq 7, 3) := by decide +kernel
theorem d_K_faultOf_27 : decode b_K_faultOf 27 = .ok (.iconst 0, 1) := by decide +kernel
theorem d_K_faultOf_28 : decode b_K_faultOf 28 = .ok (.goto 4, 3) := by decide +kernel
theorem d_K_faultOf_31 : decode b_K_faultOf 31 = .ok (.iconst (-1), 1) := by decide +kernel
theorem d_K_faultOf_32 : decode b_K_faultOf 32 = .ok (.ireturn, 1) := by decide +kernel
theorem d_K_faultOf_33 : decode b_K_faultOf 33 = .ok (.aload_n 3, 1) := by decide +kernel
theorem d_K_faultOf_34 : decode b_K_faultOf 34 = .ok (.getfield 70, 3) := by decide +kernel
theorem d_K_faultOf_37 : decode b_K_faultOf 37 = .ok (.ifCond .eq 5, 3) := by decide +kernel
theorem d_K_faultOf_40 : decode b_K_faultOf 40 = .ok (.iconst (-1), 1) := by decide +kernel
theorem d_K_faultOf_41 : decode b_K_faultOf 41 = .ok (.ireturn, 1) := by decide +kernel
theorem d_K_faultOf_42 : decode b_K_faultOf 42 = .ok (.iload_n 1, 1) := by decide +kernel
theorem d_K_faultOf_43 : decode b_K_faultOf 43 = .ok (.tableswitch 81 1 4 #[29, 42, 59, 72], 29) := by decide +kernel
theorem d_K_faultOf_72 : decode b_K_faultOf 72 = .ok (.aload_n 3, 1) := by decide +kernel
theorem d_K_faultOf_73 : decode b_K_faultOf 73 = .ok (.invokevirtual 75, 3) := by decide +kernel
theorem d_K_faultOf_76 : decode b_K_faultOf 76 = .ok (.ifCond .eq 7, 3) := by decide +kernel
theorem d_K_faultOf_79 : decode b_K_faultOf 79 = .ok (.iconst (-1), 1) := by decide +kernel
theorem d_K_faultOf_80 : decode b_K_faultOf 80 = .ok (.goto 4, 3) := by decide +kernel
theorem d_K_faultOf_83 : decode b_K_faultOf 83 = .ok (.iconst 0, 1) := by decide +kernel
theorem d_K_faultOf_84 : decode b_K_faultOf 84 = .ok (.ireturn, 1) := by decide +kernel
theorem d_K_faultOf_85 : decode b_K_faultOf 85 = .ok (.aload_n 0, 1) := by decide +kernel
theorem d_K_faultOf_86 : decode b_K_faultOf 86 = .ok (.aload_n 3, 1) := by decide +kernel
theorem d_K_faultOf_87 : decode b_K_faultOf 87 = .ok (.getfield 79, 3) := by decide +kernel
theorem d_K_faultOf_90 : decode b_K_faultOf 90 = .ok (.aload_n 0, 1) := by decide +kernel
theorem d_K_faultOf_91 : decode b_K_faultOf 91 = .ok (.getfield 26, 3) := by decide +kernel
theorem d_K_faultOf_94 : decode b_K_faultOf 94 = .ok (.iload_n 2, 1) := by decide +kernel
theorem d_K_faultOf_95 : decode b_K_faultOf 95 = .ok (.invokevirtual 83, 3) := by decide +kernel
theorem d_K_faultOf_98 : decode b_K_faultOf 98 = .ok (.invokevirtual 87, 3) := by decide +kernel
theorem d_K_faultOf_101 : decode b_K_faultOf 101 = .ok (.ireturn, 1) := by decide +kernel
theorem d_K_faultOf_102 : decode b_K_faultOf 102 = .ok (.aload_n 0, 1) := by decide +kernel
theorem d_K_faultOf_103 : decode b_K_faultOf 103 = .ok (.aload_n 3, 1) := by decide +kernel
theorem d_K_faultOf_104 : decode b_K_faultOf 104 = .ok (.getfield 79, 3) := by decide +kernel
theorem d_K_faultOf_107 : decode b_K_faultOf 107 = .ok (.aload_n 3, 1) := by decide +kernel
theorem d_K_faultOf_108 : decode b_K_faultOf 108 = .ok (.getfield 91, 3) := by decide +kernel
theorem d_K_faultOf_111 : decode b_K_faultOf 111 = .ok (.invokevirtual 94, 3) := by decide +kernel
theorem d_K_faultOf_114 : decode b_K_faultOf 114 = .ok (.ireturn, 1) := by decide +kernel
theorem d_K_faultOf_115 : decode b_K_faultOf 115 = .ok (.aload_n 0, 1) := by decide +kernel
theorem d_K_faultOf_116 : decode b_K_faultOf 116 = .ok (.aload_n 3, 1) := by decide +kernel
theorem d_K_faultOf_117 : decode b_K_faultOf 117 = .ok (.getfield 79, 3) := by decide +kernel
theorem d_K_faultOf_120 : decode b_K_faultOf 120 = .ok (.invokevirtual 97, 3) := by decide +kernel
theorem d_K_faultOf_123 : decode b_K_faultOf 123 = .ok (.ireturn, 1) := by decide +kernel
theorem d_K_faultOf_124 : decode b_K_faultOf 124 = .ok (.iconst (-1), 1) := by decide +kernel
theorem d_K_faultOf_125 : decode b_K_faultOf 125 = .ok (.ireturn, 1) := by decide +kernel
theorem m_K_faultOf : fk_MI y_K_faultOf b_K_faultOf 4 (some .int) 2 := ⟨i_272, i_271, fk_mp (q := (y_K_faultOf, 7)) (by decide +kernel), i_6, by decide +kernel⟩
set_option maxHeartbeats 4000000 in
set_option maxRecDepth 100000 in
theorem c_K_faultOf (l : Launch) (g : fk_G) (ov : Int64) (M : fk_M) (n : Nat) (ck P sz : Nat → Nat) (bb : Nat → Nat → Nat) (hs : fk_Sh n ck P sz bb M) (rule j : Nat) (hr1 : 1 ≤ rule) (hr5 : rule ≤ 5) (hj : j < 12) (hp : 2 ≤ rule → M (3 + 6 * j) 2 = 0 → 0 < sz j) : fk_CI l y_K_faultOf b_K_faultOf 4 (some .int) (fk_rm 4) g ov M ((fk_fo ck P sz bb M rule j).2) [.ref (fk_a g 79), .int (nI rule), .int (nI j)] ((fk_fo ck P sz bb M rule j).1) := by
  refine fk_ofI rfl (Nat.le_of_ble_eq_true rfl) ?_
  intro p e s m args below meth c ls S hr hlk E G hl
  have hl : lv_has ls 4 [(0, .ref (fk_a g 79)), (1, .int (nI rule)), (2, .int (nI j))] := hl
  obtain ⟨hX, hq, hck, h25, hsz, h40, hb, hcl, hT, -⟩ := hs.2.2 j hj
  have h12 := hs.2.1
  have hckA : ∀ i, i < 12 → M (3 + 6 * i) 3 = nI (ck i) := fun i hi => (hs.2.2 i hi).2.2.1
  refine lv_aload_n S.1 S.2.1 d_K_faultOf_0 rfl (lv_at hl 0 rfl) ?_
  refine fk_gf S E G 79 (by decide) (v := .ref (fk_a g 1)) (congrArg (fk_ce g ov 79 (M 79)) kd_79) rfl 0 (by decide) rfl i_156 rfl d_K_faultOf_1 ?_
  refine fk_gn S E G 1 (by decide) (v := .ref (fk_a g 2)) (congrArg (fk_ce g ov 1 (M 1)) kd_1) rfl 0 (by decide) rfl (List.mem_of_getElem? (i := 37) rfl) rfl d_K_faultOf_4 ?_
  refine lv_iload_n S.1 S.2.1 d_K_faultOf_7 rfl (lv_at hl 2 rfl) ?_
  refine fk_rw S E G j rfl (by omega) d_K_faultOf_8 ?_
  refine lv_astore_n (lv' := [(3, .ref (fk_a g (3 + 6 * j))), (0, .ref (fk_a g 79)), (1, .int (nI rule)), (2, .int (nI j))]) S.1 S.2.1 d_K_faultOf_9 rfl hl (by decide) rfl (fun ls hl => ?_)
  refine lv_iload_n S.1 S.2.1 d_K_faultOf_10 rfl (lv_at hl 2 rfl) ?_
  refine lv_iconst (v := nI 5) S.1 S.2.1 d_K_faultOf_11 (by decide +kernel) ?_
  refine fk_cne (tgt := 33) S.1 S.2.1 (by omega) (by omega) d_K_faultOf_12 rfl (fun hc1 => ?_) (fun hc1 => ?_)
  · refine lv_aload_n S.1 S.2.1 d_K_faultOf_33 rfl (lv_at hl 0 rfl) ?_
    refine fk_gn S E G (3 + 6 * j) (by omega) (v := .int (M (3 + 6 * j) 2)) (congrArg (fk_ce g ov (3 + 6 * j) (M (3 + 6 * j))) (fk_kf hj)) rfl 2 (by decide) rfl (List.mem_of_getElem? (i := 22) rfl) rfl d_K_faultOf_34 ?_
    refine lv_if_eq (tgt := 42) S.1 S.2.1 d_K_faultOf_37 rfl (fun hc2 => ?_) (fun hc2 => ?_)
    · rcases (show rule = 1 ∨ rule = 2 ∨ rule = 3 ∨ rule = 4 by omega) with hk | hk | hk | hk
      · subst hk
        have hfo : fk_fo ck P sz bb M 1 j = _ := (if_neg hc1).trans (if_neg (fun q => q hc2))
        refine lv_iload_n S.1 S.2.1 d_K_faultOf_42 rfl (lv_at hl 2 rfl) ?_
        refine lv_tableIn (off := 29) (tgt := 72) S.1 S.2.1 d_K_faultOf_43 (by decide +kernel) (by decide +kernel) (by decide +kernel) rfl ?_
        refine lv_aload_n S.1 S.2.1 d_K_faultOf_72 rfl (lv_at hl 0 rfl) ?_
        refine fk_cni S E G (3 + 6 * j) (by omega) (congrArg (fk_ce g ov (3 + 6 * j) (M (3 + 6 * j))) (fk_kf hj)) rfl (rest := []) (c_F_hasEquation l g ov M j (P j) hj hq hX) m_F_hasEquation (List.mem_of_getElem? (i := 15) rfl) ⟨rfl, rfl⟩ ⟨by decide, by decide⟩ rfl rfl hl.1 (Nat.le_of_ble_eq_true rfl) d_K_faultOf_73 ⟨Nat.zero_le _, Nat.zero_le _⟩ (fun H locs G => ?_)
        refine fk_zeq (tgt := 83) S.1 S.2.1 (fk_bl _) d_K_faultOf_76 rfl (fun hc3 => ?_) (fun hc3 => ?_)
        · have hz := of_decide_eq_false (fk_bf hc3)
          rw [hsz] at hz
          refine lv_iconst (v := nI 0) S.1 S.2.1 d_K_faultOf_83 (by decide +kernel) ?_
          exact fk_iret S hr hlk E G (by rw [hfo]; rfl) (by rw [hfo]; show _ = (if 0 < sz j then (-1 : Int32) else nI 0); rw [if_neg (fun h9 => hz (fk_pos h9 (by omega)))]) d_K_faultOf_84
        · have hz := of_decide_eq_true (fk_bt hc3)
          rw [hsz] at hz
          refine lv_iconst (v := -1) S.1 S.2.1 d_K_faultOf_79 (by decide +kernel) ?_
          refine lv_goto (tgt := 84) S.1 S.2.1 d_K_faultOf_80 rfl ?_
          exact fk_iret S hr hlk E G (by rw [hfo]; rfl) (by rw [hfo]; show _ = (if 0 < sz j then (-1 : Int32) else nI 0); rw [if_pos (by by_cases h9 : 0 < sz j; exact h9; rw [show sz j = 0 by omega, nI_0] at hz; exact absurd hz fk_irr)]) d_K_faultOf_84
      · subst hk
        have hfo : fk_fo ck P sz bb M 2 j = _ := (if_neg hc1).trans (if_neg (fun q => q hc2))
        refine lv_iload_n S.1 S.2.1 d_K_faultOf_42 rfl (lv_at hl 2 rfl) ?_
        refine lv_tableIn (off := 42) (tgt := 85) S.1 S.2.1 d_K_faultOf_43 (by decide +kernel) (by decide +kernel) (by decide +kernel) rfl ?_
        have hpos := hp (by decide) hc2
        refine lv_aload_n S.1 S.2.1 d_K_faultOf_85 rfl (lv_at hl 1 rfl) ?_
        refine lv_aload_n S.1 S.2.1 d_K_faultOf_86 rfl (lv_at hl 0 rfl) ?_
        refine fk_gn S E G (3 + 6 * j) (by omega) (v := .ref (fk_a g (P j))) (fk_flow hj hq (fk_Xb hX)) rfl 0 (by decide) rfl (List.mem_of_getElem? (i := 16) rfl) rfl d_K_faultOf_87 ?_
        refine lv_aload_n S.1 S.2.1 d_K_faultOf_90 rfl (lv_at hl 1 rfl) ?_
        refine fk_gf S E G 79 (by decide) (v := .ref (fk_a g 1)) (congrArg (fk_ce g ov 79 (M 79)) kd_79) rfl 0 (by decide) rfl i_156 rfl d_K_faultOf_91 ?_
        refine lv_iload_n S.1 S.2.1 d_K_faultOf_94 rfl (lv_at hl 3 rfl) ?_
        refine fk_cni S E G 1 (by decide) (congrArg (fk_ce g ov 1 (M 1)) kd_1) rfl (rest := [.ref (fk_a g (P j)), .ref (fk_a g 79)]) (c_N_typeOf l g ov M j hj) m_N_typeOf (List.mem_of_getElem? (i := 16) rfl) ⟨rfl, rfl⟩ ⟨by decide, by decide⟩ rfl rfl hl.1 (Nat.le_of_ble_eq_true rfl) d_K_faultOf_95 ⟨Nat.zero_le _, Nat.zero_le _⟩ (fun H locs G => ?_)
        refine fk_cvi S E G 79 (by decide) (congrArg (fk_ce g ov 79 (M 79)) kd_79) rfl (rest := []) (c_K_typeFault l g ov M (P j) hX (bb j) (sz j) n h40 h12 (fun i hi => (hb i hi).1) hsz (hT hpos) (fk_ty1 M j)) m_K_typeFault i_282 ⟨rfl, rfl⟩ ⟨by decide, by decide⟩ rfl rfl hl.1 (Nat.le_of_ble_eq_true rfl) d_K_faultOf_98 ⟨Nat.zero_le _, Nat.zero_le _⟩ (fun H locs G => ?_)
        exact fk_iret S hr hlk E G (by rw [hfo]; rfl) (by rw [hfo]; rfl) d_K_faultOf_101
      · subst hk
        have hfo : fk_fo ck P sz bb M 3 j = _ := (if_neg hc1).trans (if_neg (fun q => q hc2))
        refine lv_iload_n S.1 S.2.1 d_K_faultOf_42 rfl (lv_at hl 2 rfl) ?_
        refine lv_tableIn (off := 59) (tgt := 102) S.1 S.2.1 d_K_faultOf_43 (by decide +kernel) (by decide +kernel) (by decide +kernel) rfl ?_
        have hpos := hp (by decide) hc2
        refine lv_aload_n S.1 S.2.1 d_K_faultOf_102 rfl (lv_at hl 1 rfl) ?_
        refine lv_aload_n S.1 S.2.1 d_K_faultOf_103 rfl (lv_at hl 0 rfl) ?_
        refine fk_gn S E G (3 + 6 * j) (by omega) (v := .ref (fk_a g (P j))) (fk_flow hj hq (fk_Xb hX)) rfl 0 (by decide) rfl (List.mem_of_getElem? (i := 16) rfl) rfl d_K_faultOf_104 ?_
        refine lv_aload_n S.1 S.2.1 d_K_faultOf_107 rfl (lv_at hl 0 rfl) ?_
        refine fk_gn S E G (3 + 6 * j) (by omega) (v := .int (M (3 + 6 * j) 3)) (congrArg (fk_ce g ov (3 + 6 * j) (M (3 + 6 * j))) (fk_kf hj)) rfl 3 (by decide) rfl (List.mem_of_getElem? (i := 27) rfl) rfl d_K_faultOf_108 ?_
        rw [hck]
        refine fk_cvi S E G 79 (by decide) (congrArg (fk_ce g ov 79 (M 79)) kd_79) rfl (rest := []) (c_K_clockFault l g ov M (P j) hX (bb j) (sz j) n h40 h12 (fun i hi => (hb i hi).1) hsz (hT hpos) ck hckA (ck j)) m_K_clockFault i_309 ⟨rfl, rfl⟩ ⟨by decide, by decide⟩ rfl rfl hl.1 (Nat.le_of_ble_eq_true rfl) d_K_faultOf_111 ⟨Nat.zero_le _, Nat.zero_le _⟩ (fun H locs G => ?_)
        exact fk_iret S hr hlk E G (by rw [hfo]; rfl) (by rw [hfo]; rfl) d_K_faultOf_114
      · subst hk
        have hfo : fk_fo ck P sz bb M 4 j = _ := (if_neg hc1).trans (if_neg (fun q => q hc2))
        refine lv_iload_n S.1 S.2.1 d_K_faultOf_42 rfl (lv_at hl 2 rfl) ?_
        refine lv_tableIn (off := 72) (tgt := 115) S.1 S.2.1 d_K_faultOf_43 (by decide +kernel) (by decide +kernel) (by decide +kernel) rfl ?_
        have hpos := hp (by decide) hc2
        refine lv_aload_n S.1 S.2.1 d_K_faultOf_115 rfl (lv_at hl 1 rfl) ?_
        refine lv_aload_n S.1 S.2.1 d_K_faultOf_116 rfl (lv_at hl 0 rfl) ?_
        refine fk_gn S E G (3 + 6 * j) (by omega) (v := .ref (fk_a g (P j))) (fk_flow hj hq (fk_Xb hX)) rfl 0 (by decide) rfl (List.mem_of_getElem? (i := 16) rfl) rfl d_K_faultOf_117 ?_
        refine fk_cvi S E G 79 (by decide) (congrArg (fk_ce g ov 79 (M 79)) kd_79) rfl (rest := []) (c_K_beginningFault l g ov M (P j) hX (bb j) (sz j) n h40 h12 (fun i hi => (hb i hi).1) hsz (hT hpos) hpos) m_K_beginningFault i_328 ⟨rfl, rfl⟩ ⟨by decide, by decide⟩ rfl rfl hl.1 (Nat.le_of_ble_eq_true rfl) d_K_faultOf_120 ⟨Nat.zero_le _, Nat.zero_le _⟩ (fun H locs G => ?_)
        exact fk_iret S hr hlk E G (by rw [hfo]; rfl) (by rw [hfo]; rfl) d_K_faultOf_123
    · have hfo : fk_fo ck P sz bb M rule j = (-1, M) := (if_neg hc1).trans (if_pos hc2)
      refine lv_iconst (v := -1) S.1 S.2.1 d_K_faultOf_40 (by decide +kernel) ?_
      exact fk_iret S hr hlk E G (by rw [hfo]) (by rw [hfo]) d_K_faultOf_41
  · have hfo : fk_fo ck P sz bb M rule j = (if fk_wf (M 76 j) j = true then nI 0 else -1, M) := if_pos hc1
    refine lv_aload_n S.1 S.2.1 d_K_faultOf_15 rfl (lv_at hl 1 rfl) ?_
    refine fk_gf S E G 79 (by decide) (v := .ref (fk_a g 75)) (congrArg (fk_ce g ov 79 (M 79)) kd_79) rfl 1 (by decide) rfl i_157 rfl d_K_faultOf_16 ?_
    refine lv_iload_n S.1 S.2.1 d_K_faultOf_19 rfl (lv_at hl 3 rfl) ?_
    refine lv_iload_n S.1 S.2.1 d_K_faultOf_20 rfl (lv_at hl 3 rfl) ?_
    refine fk_cni S E G 75 (by decide) (congrArg (fk_ce g ov 75 (M 75)) kd_75) rfl (rest := []) (c_W_waitsFor l g ov M j j hj) m_W_waitsFor (List.mem_of_getElem? (i := 14) rfl) ⟨rfl, rfl⟩ ⟨by decide, by decide⟩ rfl rfl hl.1 (Nat.le_of_ble_eq_true rfl) d_K_faultOf_21 ⟨Nat.zero_le _, Nat.zero_le _⟩ (fun H locs G => ?_)
    refine fk_zeq (tgt := 31) S.1 S.2.1 (fk_bl _) d_K_faultOf_24 rfl (fun hc4 => ?_) (fun hc4 => ?_)
    · have hz := fk_bf hc4
      refine lv_iconst (v := -1) S.1 S.2.1 d_K_faultOf_31 (by decide +kernel) ?_
      exact fk_iret S hr hlk E G (by rw [hfo]) (by rw [hfo]; show _ = (if fk_wf (M 76 j) j = true then nI 0 else (-1 : Int32)); rw [if_neg (by rw [hz]; decide)]) d_K_faultOf_32
    · have hz := fk_bt hc4
      refine lv_iconst (v := nI 0) S.1 S.2.1 d_K_faultOf_27 (by decide +kernel) ?_
      refine lv_goto (tgt := 32) S.1 S.2.1 d_K_faultOf_28 rfl ?_
      exact fk_iret S hr hlk E G (by rw [hfo]) (by rw [hfo]; show _ = (if fk_wf (M 76 j) j = true then nI 0 else (-1 : Int32)); rw [if_pos hz]) d_K_faultOf_32
theorem d_K_holdsForAll_0 : decode b_K_holdsForAll 0 = .ok (.iconst 0, 1) := by decide +kernel
theorem d_K_holdsForAll_1 : decode b_K_holdsForAll 1 = .ok (.istore_n 2, 1) := by decide +kernel
theorem d_K_holdsForAll_2 : decode b_K_holdsForAll 2 = .ok (.iload_n 2, 1) := by decide +kernel
theorem d_K_holdsForAll_3 : decode b_K_holdsForAll 3 = .ok (.aload_n 0, 1) := by decide +kernel
theorem d_K_holdsForAll_4 : decode b_K_holdsForAll 4 = .ok (.getfield 26, 3) := by decide +kernel
theorem d_K_holdsForAll_7 : decode b_K_holdsForAll 7 = .ok (.getfield 53, 3) := by decide +kernel
theorem d_K_holdsForAll_10 : decode b_K_holdsForAll 10 = .ok (.if_icmp .ge 33, 3) := by decide +kernel
theorem d_K_holdsForAll_13 : decode b_K_holdsForAll 13 = .ok (.aload_n 0, 1) := by decide +kernel
theorem d_K_holdsForAll_14 : decode b_K_holdsForAll 14 = .ok (.iload_n 1, 1) := by decide +kernel
theorem d_K_holdsForAll_15 : decode b_K_holdsForAll 15 = .ok (.iload_n 2, 1) := by decide +kernel
theorem d_K_holdsForAll_16 : decode b_K_holdsForAll 16 = .ok (.invokevirtual 58, 3) := by decide +kernel
theorem d_K_holdsForAll_19 : decode b_K_holdsForAll 19 = .ok (.istore_n 3, 1) := by decide +kernel
theorem d_K_holdsForAll_20 : decode b_K_holdsForAll 20 = .ok (.iload_n 3, 1) := by decide +kernel
theorem d_K_holdsForAll_21 : decode b_K_holdsForAll 21 = .ok (.iconst (-1), 1) := by decide +kernel
theorem d_K_holdsForAll_22 : decode b_K_holdsForAll 22 = .ok (.if_icmp .eq 15, 3) := by decide +kernel
theorem d_K_holdsForAll_25 : decode b_K_holdsForAll 25 = .ok (.aload_n 0, 1) := by decide +kernel
theorem d_K_holdsForAll_26 : decode b_K_holdsForAll 26 = .ok (.iload_n 2, 1) := by decide +kernel
theorem d_K_holdsForAll_27 : decode b_K_holdsForAll 27 = .ok (.putfield 19, 3) := by decide +kernel
theorem d_K_holdsForAll_30 : decode b_K_holdsForAll 30 = .ok (.aload_n 0, 1) := by decide +kernel
theorem d_K_holdsForAll_31 : decode b_K_holdsForAll 31 = .ok (.iload_n 3, 1) := by decide +kernel
theorem d_K_holdsForAll_32 : decode b_K_holdsForAll 32 = .ok (.putfield 23, 3) := by decide +kernel
theorem d_K_holdsForAll_35 : decode b_K_holdsForAll 35 = .ok (.iconst 0, 1) := by decide +kernel
theorem d_K_holdsForAll_36 : decode b_K_holdsForAll 36 = .ok (.ireturn, 1) := by decide +kernel
theorem d_K_holdsForAll_37 : decode b_K_holdsForAll 37 = .ok (.iinc 2 1, 3) := by decide +kernel
theorem d_K_holdsForAll_40 : decode b_K_holdsForAll 40 = .ok (.goto (-38), 3) := by decide +kernel
theorem d_K_holdsForAll_43 : decode b_K_holdsForAll 43 = .ok (.iconst 1, 1) := by decide +kernel
theorem d_K_holdsForAll_44 : decode b_K_holdsForAll 44 = .ok (.ireturn, 1) := by decide +kernel
theorem m_K_holdsForAll : fk_MI y_K_holdsForAll b_K_holdsForAll 4 (some .boolean) 1 := ⟨i_268, i_267, fk_mp (q := (y_K_holdsForAll, 7)) (by decide +kernel), i_6, by decide +kernel⟩
set_option maxHeartbeats 4000000 in
set_option maxRecDepth 100000 in
theorem c_K_holdsForAll (l : Launch) (g : fk_G) (ov : Int64) (M : fk_M) (n : Nat) (ck P sz : Nat → Nat) (bb : Nat → Nat → Nat) (hs : fk_Sh n ck P sz bb M) (rule : Nat) (hr1 : 1 ≤ rule) (hr5 : rule ≤ 5) (hp : 2 ≤ rule → ∀ j, j < n → M (3 + 6 * j) 2 = 0 → 0 < sz j) : fk_CI l y_K_holdsForAll b_K_holdsForAll 4 (some .boolean) (fk_rm 5) g ov M ((fk_hf ck P sz bb rule n 0 M).2) [.ref (fk_a g 79), .int (nI rule)] (nI (fk_hf ck P sz bb rule n 0 M).1.toNat) := by
  refine fk_ofI rfl (Nat.le_of_ble_eq_true rfl) ?_
  intro p e s m args below meth c ls S hr hlk E G hl
  have hl : lv_has ls 4 [(0, .ref (fk_a g 79)), (1, .int (nI rule))] := hl
  refine lv_iconst (v := nI 0) S.1 S.2.1 d_K_holdsForAll_0 (by decide +kernel) ?_
  refine lv_istore_n (lv' := [(2, .int (nI 0)), (0, .ref (fk_a g 79)), (1, .int (nI rule))]) S.1 S.2.1 d_K_holdsForAll_1 rfl hl (by decide) rfl (fun ls hl => ?_)
  have loop : ∀ (d : Nat) (j : Nat) (Mc : fk_M) (H : Heap) (locs : List Loc) (ls : Array Slot), j + d = n → fk_Sh n ck P sz bb Mc → (2 ≤ rule → ∀ i, i < n → Mc (3 + 6 * i) 2 = 0 → 0 < sz i) → fk_hf ck P sz bb rule d j Mc = fk_hf ck P sz bb rule n 0 M → fk_H g ov (Mc) s H locs → lv_has ls 4 [(2, .int (nI j)), (0, .ref (fk_a g 79)), (1, .int (nI rule))] → W p l e (fk_rm (5)) s m args below meth c H locs 0 0 (MQ below (va_Qi (fun rr (_ : Unit) => rr = nI (fk_hf ck P sz bb rule n 0 M).1.toNat) (fun _ t9 => fk_Wd g ov ((fk_hf ck P sz bb rule n 0 M).2) t9) (fk_A g)) args s 0 0 (fk_A g)) (F0 m 2 ls []) := by
    intro d
    induction d with
    | zero =>
      intro j Mc H locs ls hv0 hv1 hv2 hv3 G hl
      have h12 := hv1.2.1
      refine lv_iload_n S.1 S.2.1 d_K_holdsForAll_2 rfl (lv_at hl 0 rfl) ?_
      refine lv_aload_n S.1 S.2.1 d_K_holdsForAll_3 rfl (lv_at hl 1 rfl) ?_
      refine fk_gf S E G 79 (by decide) (v := .ref (fk_a g 1)) (congrArg (fk_ce g ov 79 (Mc 79)) kd_79) rfl 0 (by decide) rfl i_156 rfl d_K_holdsForAll_4 ?_
      refine fk_gn S E G 1 (by decide) (v := .int (Mc 1 1)) (congrArg (fk_ce g ov 1 (Mc 1)) kd_1) rfl 1 (by decide) rfl (List.mem_of_getElem? (i := 41) rfl) rfl d_K_holdsForAll_7 ?_
      rw [hv1.1]
      refine fk_cge (tgt := 43) S.1 S.2.1 (by omega) (by omega) d_K_holdsForAll_10 rfl (fun hc1 => ?_) (fun hc1 => ?_)
      · refine lv_iconst (v := nI 1) S.1 S.2.1 d_K_holdsForAll_43 (by decide +kernel) ?_
        exact fk_zret S hr hlk E G (by rw [← hv3]; rfl) (by rw [← hv3]; rfl) (fk_bz _) d_K_holdsForAll_44
      · exact absurd hv0 (by omega)
    | succ d ih =>
      intro j Mc H locs ls hv0 hv1 hv2 hv3 G hl
      have h12 := hv1.2.1
      refine lv_iload_n S.1 S.2.1 d_K_holdsForAll_2 rfl (lv_at hl 0 rfl) ?_
      refine lv_aload_n S.1 S.2.1 d_K_holdsForAll_3 rfl (lv_at hl 1 rfl) ?_
      refine fk_gf S E G 79 (by decide) (v := .ref (fk_a g 1)) (congrArg (fk_ce g ov 79 (Mc 79)) kd_79) rfl 0 (by decide) rfl i_156 rfl d_K_holdsForAll_4 ?_
      refine fk_gn S E G 1 (by decide) (v := .int (Mc 1 1)) (congrArg (fk_ce g ov 1 (Mc 1)) kd_1) rfl 1 (by decide) rfl (List.mem_of_getElem? (i := 41) rfl) rfl d_K_holdsForAll_7 ?_
      rw [hv1.1]
      refine fk_cge (tgt := 43) S.1 S.2.1 (by omega) (by omega) d_K_holdsForAll_10 rfl (fun hc2 => ?_) (fun hc2 => ?_)
      · exact absurd hv0 (by omega)
      · refine lv_aload_n S.1 S.2.1 d_K_holdsForAll_13 rfl (lv_at hl 1 rfl) ?_
        refine lv_iload_n S.1 S.2.1 d_K_holdsForAll_14 rfl (lv_at hl 2 rfl) ?_
        refine lv_iload_n S.1 S.2.1 d_K_holdsForAll_15 rfl (lv_at hl 0 rfl) ?_
        have hsn : fk_Sh n ck P sz bb (fk_fo ck P sz bb Mc rule j).2 := fk_fo_Sh hv1 (by omega) (fun h9 => hv2 h9 j (by omega))
        have hcon := c_K_faultOf l g ov Mc n ck P sz bb hv1 rule j hr1 hr5 (by omega) (fun h9 => hv2 h9 j (by omega))
        obtain ⟨vf, hvf⟩ : ∃ z, z = (fk_fo ck P sz bb Mc rule j).1 := ⟨_, rfl⟩
        obtain ⟨Mf, hMf⟩ : ∃ z, z = (fk_fo ck P sz bb Mc rule j).2 := ⟨_, rfl⟩
        rw [← hvf, ← hMf] at hcon
        rw [← hMf] at hsn
        refine fk_cvi S E G 79 (by decide) (congrArg (fk_ce g ov 79 (Mc 79)) kd_79) rfl (rest := []) hcon m_K_faultOf i_269 ⟨rfl, rfl⟩ ⟨by decide, by decide⟩ rfl rfl hl.1 (Nat.le_of_ble_eq_true rfl) d_K_holdsForAll_16 ⟨Nat.zero_le _, Nat.zero_le _⟩ (fun H locs G => ?_)
        refine lv_istore_n (lv' := [(3, .int vf), (2, .int (nI j)), (0, .ref (fk_a g 79)), (1, .int (nI rule))]) S.1 S.2.1 d_K_holdsForAll_19 rfl hl (by decide) rfl (fun ls hl => ?_)
        refine lv_iload_n S.1 S.2.1 d_K_holdsForAll_20 rfl (lv_at hl 0 rfl) ?_
        refine lv_iconst (v := -1) S.1 S.2.1 d_K_holdsForAll_21 (by decide +kernel) ?_
        refine lv_icmp_eq (tgt := 37) S.1 S.2.1 d_K_holdsForAll_22 rfl (fun hc3 => ?_) (fun hc3 => ?_)
        · refine lv_iinc (k := 1) (v := nI (j + 1)) (lv' := [(2, .int (nI (j + 1))), (3, .int vf), (0, .ref (fk_a g 79)), (1, .int (nI rule))]) S.1 S.2.1 d_K_holdsForAll_37 hl rfl (nI_1 j) (by decide) rfl (fun ls hl => ?_)
          refine lv_goto (tgt := 2) S.1 S.2.1 d_K_holdsForAll_40 rfl ?_
          refine ih (j + 1) Mf H locs ls (by omega) hsn (fun h9 i hi => ?_) (by rw [← hv3, fk_hf_S, ← hvf, if_pos hc3, hMf]) G (lv_sub hl [0, 2, 3] rfl)
          rw [hMf, fk_fo_ne hv1 (by omega) (by rcases (hv1.2.2 j (by omega)).1 with z9 | ⟨z, z8, z9⟩ <;> omega)]
          exact hv2 h9 i hi
        · refine lv_aload_n S.1 S.2.1 d_K_holdsForAll_25 rfl (lv_at hl 2 rfl) ?_
          refine lv_iload_n S.1 S.2.1 d_K_holdsForAll_26 rfl (lv_at hl 1 rfl) ?_
          refine fk_pf S E G 79 (by decide) (congrArg (fk_ce g ov 79 (Mf 79)) kd_79) rfl 5 (by decide) rfl i_162 (upd (Mf 79) 5 (nI j)) (congrArg (fk_ce g ov 79 (upd (Mf 79) 5 (nI j))) kd_79) rfl (ty := (.int)) (by decide +kernel) rfl rfl (Nat.le_of_ble_eq_true rfl) d_K_holdsForAll_27 (fun H locs G => ?_)
          obtain ⟨M4, hM4⟩ : ∃ z : fk_M, z = va_up Mf 79 (upd (Mf 79) 5 (nI j)) := ⟨_, rfl⟩
          rw [← hM4] at G
          refine lv_aload_n S.1 S.2.1 d_K_holdsForAll_30 rfl (lv_at hl 2 rfl) ?_
          refine lv_iload_n S.1 S.2.1 d_K_holdsForAll_31 rfl (lv_at hl 0 rfl) ?_
          refine fk_pf S E G 79 (by decide) (congrArg (fk_ce g ov 79 (M4 79)) kd_79) rfl 6 (by decide) rfl i_164 (upd (M4 79) 6 vf) (congrArg (fk_ce g ov 79 (upd (M4 79) 6 vf)) kd_79) rfl (ty := (.int)) (by decide +kernel) rfl rfl (Nat.le_of_ble_eq_true rfl) d_K_holdsForAll_32 (fun H locs G => ?_)
          obtain ⟨M5, hM5⟩ : ∃ z : fk_M, z = va_up M4 79 (upd (M4 79) 6 vf) := ⟨_, rfl⟩
          rw [← hM5] at G
          refine lv_iconst (v := nI 0) S.1 S.2.1 d_K_holdsForAll_35 (by decide +kernel) ?_
          have hres : fk_hf ck P sz bb rule n 0 M = (false, M5) := by
            rw [← hv3, fk_hf_S, ← hvf, if_neg hc3, hM5, hM4, bx_uu, va_up_self, hMf]
          exact fk_zret S hr hlk E G (by rw [hres]) (by rw [hres]; rfl) (fk_bz _) d_K_holdsForAll_36
  exact loop n 0 M s.heap [] ls (by omega) hs hp rfl G hl
/-- the rules one after the other: the number of the first that fails, or 0 -/
def fk_ru (n : Nat) (ck P sz : Nat → Nat) (bb : Nat → Nat → Nat) : Nat → Nat → fk_M → Nat × fk_M
  | 0, _, M => (0, M)
  | d + 1, r, M => if (fk_hf ck P sz bb r n 0 M).1 = true then fk_ru n ck P sz bb d (r + 1) (fk_hf ck P sz bb r n 0 M).2 else (r, (fk_hf ck P sz bb r n 0 M).2)
theorem fk_ru_S (n : Nat) (ck P sz : Nat → Nat) (bb : Nat → Nat → Nat) (d r : Nat) (M : fk_M) : fk_ru n ck P sz bb (d + 1) r M = if (fk_hf ck P sz bb r n 0 M).1 = true then fk_ru n ck P sz bb d (r + 1) (fk_hf ck P sz bb r n 0 M).2 else (r, (fk_hf ck P sz bb r n 0 M).2) := rfl
def fk_pd (M : fk_M) : fk_M := va_up M 79 (upd (M 79) 4 (nI 1))
def fk_ag0 (n : Nat) (M : fk_M) : fk_M := fk_ag n n 0 0 (nI 0) (va_up M 75 (upd (M 75) 3 (nI 0)))
def fk_exm (n : Nat) (ck P sz : Nat → Nat) (bb : Nat → Nat → Nat) (M : fk_M) : Nat × fk_M :=
  if (fk_ru n ck P sz bb 5 1 (fk_tr n ck P sz bb (fk_fg M))).1 = 0 then (0, fk_pd (fk_ag0 n (fk_ru n ck P sz bb 5 1 (fk_tr n ck P sz bb (fk_fg M))).2)) else fk_ru n ck P sz bb 5 1 (fk_tr n ck P sz bb (fk_fg M))
theorem fk_hf_Sh {n : Nat} {ck P sz : Nat → Nat} {bb : Nat → Nat → Nat} {rule : Nat} : ∀ d j M, j + d ≤ 12 → fk_Sh n ck P sz bb M → (2 ≤ rule → ∀ i, j ≤ i → i < j + d → M (3 + 6 * i) 2 = 0 → 0 < sz i) → fk_Sh n ck P sz bb (fk_hf ck P sz bb rule d j M).2 ∧ (∀ i, i < 12 → (fk_hf ck P sz bb rule d j M).2 (3 + 6 * i) = M (3 + 6 * i)) ∧ (rule = 1 → (fk_hf ck P sz bb rule d j M).1 = true → ∀ i, j ≤ i → i < j + d → M (3 + 6 * i) 2 = 0 → 0 < sz i) := by
  intro d
  induction d with
  | zero => intro j M _ hs _; exact ⟨hs, fun _ _ => rfl, fun _ _ i h1 h2 => absurd h2 (by omega)⟩
  | succ d ih =>
    intro j M hj hs hp
    have hsn := fk_fo_Sh (rule := rule) hs (show j < 12 by omega) (fun h9 => hp h9 j (Nat.le_refl _) (by omega))
    have hne : ∀ i, i < 12 → (fk_fo ck P sz bb M rule j).2 (3 + 6 * i) = M (3 + 6 * i) := fun i hi => fk_fo_ne hs (by omega) (by rcases (hs.2.2 j (by omega)).1 with z9 | ⟨z, z8, z9⟩ <;> omega)
    rw [fk_hf_S]
    by_cases h : (fk_fo ck P sz bb M rule j).1 = -1
    · rw [if_pos h]
      obtain ⟨a1, a2, a3⟩ := ih (j + 1) _ (by omega) hsn (fun h9 i h1 h2 h3 => hp h9 i (by omega) (by omega) (by rw [← hne i (by omega)]; exact h3))
      refine ⟨a1, fun i hi => (a2 i hi).trans (hne i hi), fun h1 h2 i i1 i2 i3 => ?_⟩
      by_cases hij : i = j
      · subst hij
        by_cases hz : 0 < sz i
        · exact hz
        · subst h1
          have h9 : (fk_fo ck P sz bb M 1 i).1 = nI 0 := by
            unfold fk_fo
            rw [if_neg (by decide), if_neg (fun q => q i3)]
            show (if 0 < sz i then (-1 : Int32) else nI 0) = nI 0
            rw [if_neg hz]
          rw [h9] at h
          exact absurd h (fk_nm1 (by decide))
      · exact a3 h1 h2 i (by omega) (by omega) (by rw [hne i (by omega)]; exact i3)
    · rw [if_neg h]
      exact ⟨hsn.to (fk_Eq_k (by omega) _), fun i hi => (va_up_ne _ _ (by omega)).trans (hne i hi), fun _ h2 => by cases h2⟩
theorem d_K_examine_0 : decode b_K_examine 0 = .ok (.aload_n 0, 1) := by decide +kernel
theorem d_K_examine_1 : decode b_K_examine 1 = .ok (.invokevirtual 38, 3) := by decide +kernel
theorem d_K_examine_4 : decode b_K_examine 4 = .ok (.aload_n 0, 1) := by decide +kernel
theorem d_K_examine_5 : decode b_K_examine 5 = .ok (.getfield 30, 3) := by decide +kernel
theorem d_K_examine_8 : decode b_K_examine 8 = .ok (.invokevirtual 41, 3) := by decide +kernel
theorem d_K_examine_11 : decode b_K_examine 11 = .ok (.iconst 1, 1) := by decide +kernel
theorem d_K_examine_12 : decode b_K_examine 12 = .ok (.istore_n 1, 1) := by decide +kernel
theorem d_K_examine_13 : decode b_K_examine 13 = .ok (.iload_n 1, 1) := by decide +kernel
theorem d_K_examine_14 : decode b_K_examine 14 = .ok (.iconst 5, 1) := by decide +kernel
theorem d_K_examine_15 : decode b_K_examine 15 = .ok (.if_icmp .gt 19, 3) := by decide +kernel
theorem d_K_examine_18 : decode b_K_examine 18 = .ok (.aload_n 0, 1) := by decide +kernel
theorem d_K_examine_19 : decode b_K_examine 19 = .ok (.iload_n 1, 1) := by decide +kernel
theorem d_K_examine_20 : decode b_K_examine 20 = .ok (.invokevirtual 46, 3) := by decide +kernel
theorem d_K_examine_23 : decode b_K_examine 23 = .ok (.ifCond .ne 5, 3) := by decide +kernel
theorem d_K_examine_26 : decode b_K_examine 26 = .ok (.iload_n 1, 1) := by decide +kernel
theorem d_K_examine_27 : decode b_K_examine 27 = .ok (.ireturn, 1) := by decide +kernel
theorem d_K_examine_28 : decode b_K_examine 28 = .ok (.iinc 1 1, 3) := by decide +kernel
theorem d_K_examine_31 : decode b_K_examine 31 = .ok (.goto (-18), 3) := by decide +kernel
theorem d_K_examine_34 : decode b_K_examine 34 = .ok (.aload_n 0, 1) := by decide +kernel
theorem d_K_examine_35 : decode b_K_examine 35 = .ok (.getfield 30, 3) := by decide +kernel
theorem d_K_examine_38 : decode b_K_examine 38 = .ok (.invokevirtual 50, 3) := by decide +kernel
theorem d_K_examine_41 : decode b_K_examine 41 = .ok (.aload_n 0, 1) := by decide +kernel
theorem d_K_examine_42 : decode b_K_examine 42 = .ok (.iconst 1, 1) := by decide +kernel
theorem d_K_examine_43 : decode b_K_examine 43 = .ok (.putfield 34, 3) := by decide +kernel
theorem d_K_examine_46 : decode b_K_examine 46 = .ok (.iconst 0, 1) := by decide +kernel
theorem d_K_examine_47 : decode b_K_examine 47 = .ok (.ireturn, 1) := by decide +kernel
theorem m_K_examine : fk_MI y_K_examine b_K_examine 2 (some .int) 0 := ⟨i_231, i_230, fk_mp (q := (y_K_examine, 7)) (by decide +kernel), i_6, by decide +kernel⟩
set_option maxHeartbeats 4000000 in
set_option maxRecDepth 100000 in
theorem c_K_examine (l : Launch) (g : fk_G) (ov : Int64) (M : fk_M) (n : Nat) (ck P sz : Nat → Nat) (bb : Nat → Nat → Nat) (hs : fk_Sh n ck P sz bb M) : fk_CI l y_K_examine b_K_examine 2 (some .int) (fk_rm 6) g ov M ((fk_exm n ck P sz bb M).2) [.ref (fk_a g 79)] (nI (fk_exm n ck P sz bb M).1) := by
  refine fk_ofI rfl (Nat.le_of_ble_eq_true rfl) ?_
  intro p e s m args below meth c ls S hr hlk E G hl
  have hl : lv_has ls 2 [(0, .ref (fk_a g 79))] := hl
  have h12 := hs.2.1
  have hs1 : fk_Sh n ck P sz bb (fk_fg M) := hs.to (fk_Eq_k (by omega) _)
  have hs2 : fk_Sh n ck P sz bb (fk_tr n ck P sz bb (fk_fg M)) := hs1.to (fk_O.Eq (by omega) (fk_t2_O n (fk_t1_O ck P sz bb (fk_fg M) n) n))
  refine lv_aload_n S.1 S.2.1 d_K_examine_0 rfl (lv_at hl 0 rfl) ?_
  refine fk_cvv S E G 79 (by decide) (congrArg (fk_ce g ov 79 (M 79)) kd_79) rfl (rest := []) (c_K_forget l g ov M) m_K_forget i_232 ⟨rfl, rfl⟩ ⟨by decide, by decide⟩ rfl rfl hl.1 (Nat.le_of_ble_eq_true rfl) d_K_examine_1 ⟨Nat.zero_le _, Nat.zero_le _⟩ (fun H locs G => ?_)
  obtain ⟨M1, hM1⟩ : ∃ z : fk_M, z = fk_fg M := ⟨_, rfl⟩
  rw [← hM1] at G
  rw [← hM1] at hs1 hs2
  refine lv_aload_n S.1 S.2.1 d_K_examine_4 rfl (lv_at hl 0 rfl) ?_
  refine fk_gf S E G 79 (by decide) (v := .ref (fk_a g 75)) (congrArg (fk_ce g ov 79 (M1 79)) kd_79) rfl 1 (by decide) rfl i_157 rfl d_K_examine_5 ?_
  refine fk_cnv S E G 75 (by decide) (congrArg (fk_ce g ov 75 (M1 75)) kd_75) rfl (rest := []) (c_W_trace l g ov M1 n ck P sz bb hs1) m_W_trace (List.mem_of_getElem? (i := 9) rfl) ⟨rfl, rfl⟩ ⟨by decide, by decide⟩ rfl rfl hl.1 (Nat.le_of_ble_eq_true rfl) d_K_examine_8 ⟨Nat.zero_le _, Nat.zero_le _⟩ (fun H locs G => ?_)
  rw [hM1] at G
  refine lv_iconst (v := nI 1) S.1 S.2.1 d_K_examine_11 (by decide +kernel) ?_
  refine lv_istore_n (lv' := [(1, .int (nI 1)), (0, .ref (fk_a g 79))]) S.1 S.2.1 d_K_examine_12 rfl hl (by decide) rfl (fun ls hl => ?_)
  have loop : ∀ (d : Nat) (r : Nat) (Mc : fk_M) (H : Heap) (locs : List Loc) (ls : Array Slot), r + d = 6 → 1 ≤ r → fk_Sh n ck P sz bb Mc → (2 ≤ r → ∀ j, j < n → Mc (3 + 6 * j) 2 = 0 → 0 < sz j) → fk_ru n ck P sz bb d r Mc = fk_ru n ck P sz bb 5 1 (fk_tr n ck P sz bb (fk_fg M)) → fk_H g ov (Mc) s H locs → lv_has ls 2 [(1, .int (nI r)), (0, .ref (fk_a g 79))] → W p l e (fk_rm (6)) s m args below meth c H locs 0 0 (MQ below (va_Qi (fun rr (_ : Unit) => rr = nI (fk_exm n ck P sz bb M).1) (fun _ t9 => fk_Wd g ov ((fk_exm n ck P sz bb M).2) t9) (fk_A g)) args s 0 0 (fk_A g)) (F0 m 13 ls []) := by
    intro d
    induction d with
    | zero =>
      intro r Mc H locs ls hv0 hv1 hv2 hv3 hv4 G hl
      refine lv_iload_n S.1 S.2.1 d_K_examine_13 rfl (lv_at hl 0 rfl) ?_
      refine lv_iconst (v := nI 5) S.1 S.2.1 d_K_examine_14 (by decide +kernel) ?_
      refine fk_cgt (tgt := 34) S.1 S.2.1 (by omega) (by omega) d_K_examine_15 rfl (fun hc1 => ?_) (fun hc1 => ?_)
      · have hru : fk_ru n ck P sz bb 5 1 (fk_tr n ck P sz bb (fk_fg M)) = (0, Mc) := hv4.symm
        have hex : fk_exm n ck P sz bb M = (0, fk_pd (fk_ag0 n Mc)) := by
          unfold fk_exm
          rw [hru]
          rfl
        refine lv_aload_n S.1 S.2.1 d_K_examine_34 rfl (lv_at hl 1 rfl) ?_
        refine fk_gf S E G 79 (by decide) (v := .ref (fk_a g 75)) (congrArg (fk_ce g ov 79 (Mc 79)) kd_79) rfl 1 (by decide) rfl i_157 rfl d_K_examine_35 ?_
        refine fk_cnv S E G 75 (by decide) (congrArg (fk_ce g ov 75 (Mc 75)) kd_75) rfl (rest := []) (c_W_arrange l g ov Mc n hv2.1 h12) m_W_arrange (List.mem_of_getElem? (i := 22) rfl) ⟨rfl, rfl⟩ ⟨by decide, by decide⟩ rfl rfl hl.1 (Nat.le_of_ble_eq_true rfl) d_K_examine_38 ⟨Nat.zero_le _, Nat.zero_le _⟩ (fun H locs G => ?_)
        change fk_H g ov (fk_ag0 n Mc) s H locs at G
        obtain ⟨M5, hM5⟩ : ∃ z : fk_M, z = fk_ag0 n Mc := ⟨_, rfl⟩
        rw [← hM5] at G
        refine lv_aload_n S.1 S.2.1 d_K_examine_41 rfl (lv_at hl 1 rfl) ?_
        refine lv_iconst (v := nI 1) S.1 S.2.1 d_K_examine_42 (by decide +kernel) ?_
        refine fk_pf S E G 79 (by decide) (congrArg (fk_ce g ov 79 (M5 79)) kd_79) rfl 4 (by decide) rfl i_160 (upd (M5 79) 4 (nI 1)) (congrArg (fk_ce g ov 79 (upd (M5 79) 4 (nI 1))) kd_79) rfl (ty := (.boolean)) (by decide +kernel) (fk_nb (Or.inr (by decide +kernel))) (fk_fb (Or.inr (by decide +kernel))) (Nat.le_of_ble_eq_true rfl) d_K_examine_43 (fun H locs G => ?_)
        obtain ⟨M2, hM2⟩ : ∃ z : fk_M, z = va_up M5 79 (upd (M5 79) 4 (nI 1)) := ⟨_, rfl⟩
        rw [← hM2] at G
        refine lv_iconst (v := nI 0) S.1 S.2.1 d_K_examine_46 (by decide +kernel) ?_
        exact fk_iret S hr hlk E G (by rw [hex, hM2, hM5]; rfl) (by rw [hex]) d_K_examine_47
      · exact absurd hv0 (by omega)
    | succ d ih =>
      intro r Mc H locs ls hv0 hv1 hv2 hv3 hv4 G hl
      refine lv_iload_n S.1 S.2.1 d_K_examine_13 rfl (lv_at hl 0 rfl) ?_
      refine lv_iconst (v := nI 5) S.1 S.2.1 d_K_examine_14 (by decide +kernel) ?_
      refine fk_cgt (tgt := 34) S.1 S.2.1 (by omega) (by omega) d_K_examine_15 rfl (fun hc3 => ?_) (fun hc3 => ?_)
      · exact absurd hv0 (by omega)
      · refine lv_aload_n S.1 S.2.1 d_K_examine_18 rfl (lv_at hl 1 rfl) ?_
        refine lv_iload_n S.1 S.2.1 d_K_examine_19 rfl (lv_at hl 0 rfl) ?_
        obtain ⟨a1, a2, a3⟩ := fk_hf_Sh (rule := r) n 0 Mc (by omega) hv2 (fun h9 i _ h2 h3 => hv3 h9 i (by omega) h3)
        have hcon := c_K_holdsForAll l g ov Mc n ck P sz bb hv2 r hv1 (by omega) hv3
        obtain ⟨vf, hvf⟩ : ∃ z, z = (fk_hf ck P sz bb r n 0 Mc).1 := ⟨_, rfl⟩
        obtain ⟨Mf, hMf⟩ : ∃ z, z = (fk_hf ck P sz bb r n 0 Mc).2 := ⟨_, rfl⟩
        rw [← hvf, ← hMf] at hcon
        rw [← hMf] at a1 a2
        rw [← hvf] at a3
        refine fk_cvi S E G 79 (by decide) (congrArg (fk_ce g ov 79 (Mc 79)) kd_79) rfl (rest := []) hcon m_K_holdsForAll i_265 ⟨rfl, rfl⟩ ⟨by decide, by decide⟩ rfl rfl hl.1 (Nat.le_of_ble_eq_true rfl) d_K_examine_20 ⟨Nat.zero_le _, Nat.zero_le _⟩ (fun H locs G => ?_)
        refine fk_zne (tgt := 28) S.1 S.2.1 (fk_bl _) d_K_examine_23 rfl (fun hc4 => ?_) (fun hc4 => ?_)
        · have ht := fk_bt hc4
          refine lv_iinc (k := 0) (v := nI (r + 1)) (lv' := [(1, .int (nI (r + 1))), (0, .ref (fk_a g 79))]) S.1 S.2.1 d_K_examine_28 hl rfl (nI_1 r) (by decide) rfl (fun ls hl => ?_)
          refine lv_goto (tgt := 13) S.1 S.2.1 d_K_examine_31 rfl ?_
          refine ih (r + 1) Mf H locs ls (by omega) (by omega) a1 (fun h9 j hj hz => ?_) (by rw [← hv4, fk_ru_S, ← hvf, if_pos ht, hMf]) G hl
          rw [a2 j (by omega)] at hz
          by_cases hr : r = 1
          · exact a3 hr ht j (by omega) (by omega) hz
          · exact hv3 (by omega) j hj hz
        · have hf := fk_bf hc4
          have hru : fk_ru n ck P sz bb 5 1 (fk_tr n ck P sz bb (fk_fg M)) = (r, Mf) := by
            rw [← hv4, fk_ru_S, ← hvf, if_neg (by rw [hf]; decide), hMf]
          have hex : fk_exm n ck P sz bb M = (r, Mf) := by
            unfold fk_exm
            rw [hru]
            exact if_neg (show ¬ r = 0 by omega)
          refine lv_iload_n S.1 S.2.1 d_K_examine_26 rfl (lv_at hl 0 rfl) ?_
          exact fk_iret S hr hlk E G (by rw [hex]) (by rw [hex]) d_K_examine_27
  rw [hM1] at hs2
  exact loop 5 1 _ H locs ls rfl (by decide) hs2 (fun h9 => absurd h9 (by decide)) rfl G hl
end
section
/-! The reference (FlowDeskModel): small methods. Written by wip/gen/s_mod.py. -/
def fk_th (M : fk_M) (q : Nat) : fk_M := va_up M 89 (upd (M 89) 0 (nI q))
def fk_tc (f q : Nat) : Nat := if f = 0 then (if q = 0 then 0 else 2) else 1
def fk_ou (v : Int32) (n : Nat) : Bool := decide (v < 0 ∨ ¬ v < nI n)
theorem fk_tc_le (f q : Nat) : fk_tc f q ≤ 2 := by unfold fk_tc; split <;> (try split) <;> omega
theorem fk_th_ne {M : fk_M} {q k : Nat} (h : k ≠ 89) : fk_th M q k = M k := va_up_ne _ _ h
theorem fk_th_s {M : fk_M} {q t : Nat} (h : t ≠ 0) : fk_th M q 89 t = M 89 t := by unfold fk_th; rw [va_up_self, pk_un h]
/-- v pushed on the stack of t -/
def fk_pu (M : fk_M) (t : Nat) (v : Int32) : fk_M := va_up (va_up M 109 (upd (M 109) t v)) 89 (upd (M 89) 29 (nI (t + 1)))
def fk_po (M : fk_M) (t : Nat) : fk_M := va_up M 89 (upd (M 89) 29 (nI t))
def fk_m1 (M : fk_M) (i : Nat) : fk_M := va_up (va_up (va_up M 94 (fk_fl (M 94) i 0)) 95 (fk_fl (M 95) i 0)) 96 (fk_fl (M 96) i 0)
def fk_m2 (M : fk_M) (i : Nat) : fk_M := va_up (va_up M 103 (fk_fl (M 103) i 0)) 105 (fk_fl (M 105) i 0)
/-- the reference's instants begin anew -/
def fk_mr (M : fk_M) : fk_M := fk_m2 (fk_m1 (va_up M 89 (upd (M 89) 22 (nI 0))) 12) 480
def fk_ma (M : fk_M) : fk_M := fk_mr (va_up M 89 (upd (upd (upd (M 89) 23 (nI 0)) 24 (-1)) 25 (-1)))
theorem fk_m1_0 (M : fk_M) : fk_m1 M 0 = M := by
  unfold fk_m1
  rw [fk_fl0, fk_fl0, fk_fl0, fk_upid]
  rw [show va_up M 95 (M 95) = M from fk_upid M 95, fk_upid]
theorem fk_m2_0 (M : fk_M) : fk_m2 M 0 = M := by
  unfold fk_m2
  rw [fk_fl0, fk_fl0, fk_upid, fk_upid]
/-- writes to different cells change places -/
theorem fk_sw (M : fk_M) {j k : Nat} (h : j ≠ k) (u v : Nat → Int32) : va_up (va_up M j u) k v = va_up (va_up M k v) j u := by
  funext i
  unfold va_up
  by_cases hi : i = k
  · rw [if_pos hi, if_neg (by omega), if_pos hi]
  · rw [if_neg hi]
    by_cases hj : i = j
    · rw [if_pos hj, if_pos hj]
    · rw [if_neg hj, if_neg hj, if_neg hi]
theorem fk_m1_S (M : fk_M) (i : Nat) : va_up (va_up (va_up (fk_m1 M i) 94 (upd (fk_fl (M 94) i 0) i 0)) 95 (upd (fk_fl (M 95) i 0) i 0)) 96 (upd (fk_fl (M 96) i 0) i 0) = fk_m1 M (i + 1) := by
  unfold fk_m1
  rw [fk_flS, fk_flS, fk_flS]
  funext k
  unfold va_up
  by_cases h1 : k = 96
  · simp only [h1, if_true]
  · by_cases h2 : k = 95
    · simp only [h1, h2, if_true, if_false]
    · by_cases h3 : k = 94
      · simp only [h1, h2, h3, if_true, if_false]
      · simp only [h1, h2, h3, if_false]
theorem fk_m2_S (M : fk_M) (i : Nat) : va_up (va_up (fk_m2 M i) 103 (upd (fk_fl (M 103) i 0) i 0)) 105 (upd (fk_fl (M 105) i 0) i 0) = fk_m2 M (i + 1) := by
  unfold fk_m2
  rw [fk_flS, fk_flS]
  funext k
  unfold va_up
  by_cases h1 : k = 105
  · simp only [h1, if_true]
  · by_cases h2 : k = 103
    · simp only [h1, h2, if_true, if_false]
    · simp only [h1, h2, if_false]
theorem fk_m1_at (M : fk_M) (i : Nat) : fk_m1 M i 94 = fk_fl (M 94) i 0 ∧ fk_m1 M i 95 = fk_fl (M 95) i 0 ∧ fk_m1 M i 96 = fk_fl (M 96) i 0 := ⟨rfl, rfl, rfl⟩
theorem fk_m2_at (M : fk_M) (i : Nat) : fk_m2 M i 103 = fk_fl (M 103) i 0 ∧ fk_m2 M i 105 = fk_fl (M 105) i 0 := ⟨rfl, rfl⟩
theorem d_M_thrown_0 : decode b_M_thrown 0 = .ok (.aload_n 0, 1) := by decide +kernel
theorem d_M_thrown_1 : decode b_M_thrown 1 = .ok (.getfield 78, 3) := by decide +kernel
theorem d_M_thrown_4 : decode b_M_thrown 4 = .ok (.ireturn, 1) := by decide +kernel
theorem m_M_thrown : fk_MI y_M_thrown b_M_thrown 1 (some .int) 0 := ⟨i_719, i_717, i_718, i_8, by decide +kernel⟩
set_option maxHeartbeats 4000000 in
set_option maxRecDepth 100000 in
theorem c_M_thrown (l : Launch) (g : fk_G) (ov : Int64) (M : fk_M)  : fk_CI l y_M_thrown b_M_thrown 1 (some .int) (fk_rm 0) g ov M M [.ref (fk_a g 89)] (M 89 0) := by
  refine fk_ofI rfl (Nat.le_of_ble_eq_true rfl) ?_
  intro p e s m args below meth c ls S hr hlk E G hl
  have hl : lv_has ls 1 [(0, .ref (fk_a g 89))] := hl
  refine lv_aload_n S.1 S.2.1 d_M_thrown_0 rfl (lv_at hl 0 rfl) ?_
  refine fk_gf S E G 89 (by decide) (v := .int (M 89 0)) (congrArg (fk_ce g ov 89 (M 89)) kd_89) rfl 0 (by decide) rfl i_622 rfl d_M_thrown_1 ?_
  exact fk_iret S hr hlk E G rfl rfl d_M_thrown_4
theorem d_M_throwing_0 : decode b_M_throwing 0 = .ok (.aload_n 0, 1) := by decide +kernel
theorem d_M_throwing_1 : decode b_M_throwing 1 = .ok (.iload_n 1, 1) := by decide +kernel
theorem d_M_throwing_2 : decode b_M_throwing 2 = .ok (.ifCond .eq 7, 3) := by decide +kernel
theorem d_M_throwing_5 : decode b_M_throwing 5 = .ok (.iconst 1, 1) := by decide +kernel
theorem d_M_throwing_6 : decode b_M_throwing 6 = .ok (.goto 12, 3) := by decide +kernel
theorem d_M_throwing_9 : decode b_M_throwing 9 = .ok (.iload_n 2, 1) := by decide +kernel
theorem d_M_throwing_10 : decode b_M_throwing 10 = .ok (.ifCond .eq 7, 3) := by decide +kernel
theorem d_M_throwing_13 : decode b_M_throwing 13 = .ok (.iconst 2, 1) := by decide +kernel
theorem d_M_throwing_14 : decode b_M_throwing 14 = .ok (.goto 4, 3) := by decide +kernel
theorem d_M_throwing_17 : decode b_M_throwing 17 = .ok (.iconst 0, 1) := by decide +kernel
theorem d_M_throwing_18 : decode b_M_throwing 18 = .ok (.putfield 78, 3) := by decide +kernel
theorem d_M_throwing_21 : decode b_M_throwing 21 = .ok (.aload_n 0, 1) := by decide +kernel
theorem d_M_throwing_22 : decode b_M_throwing 22 = .ok (.getfield 78, 3) := by decide +kernel
theorem d_M_throwing_25 : decode b_M_throwing 25 = .ok (.ifCond .le 7, 3) := by decide +kernel
theorem d_M_throwing_28 : decode b_M_throwing 28 = .ok (.iconst 1, 1) := by decide +kernel
theorem d_M_throwing_29 : decode b_M_throwing 29 = .ok (.goto 4, 3) := by decide +kernel
theorem d_M_throwing_32 : decode b_M_throwing 32 = .ok (.iconst 0, 1) := by decide +kernel
theorem d_M_throwing_33 : decode b_M_throwing 33 = .ok (.ireturn, 1) := by decide +kernel
theorem m_M_throwing : fk_MI y_M_throwing b_M_throwing 3 (some .boolean) 2 := ⟨i_727, i_726, fk_mp (q := (y_M_throwing, 31)) (by decide +kernel), i_8, by decide +kernel⟩
set_option maxHeartbeats 4000000 in
set_option maxRecDepth 100000 in
theorem c_M_throwing (l : Launch) (g : fk_G) (ov : Int64) (M : fk_M) (f q : Nat) (hf : f < 2 ^ 31) (hq : q < 2 ^ 31) : fk_CI l y_M_throwing b_M_throwing 3 (some .boolean) (fk_rm 0) g ov M (fk_th M (fk_tc f q)) [.ref (fk_a g 89), .int (nI f), .int (nI q)] (nI (decide (0 < fk_tc f q)).toNat) := by
  refine fk_ofI rfl (Nat.le_of_ble_eq_true rfl) ?_
  intro p e s m args below meth c ls S hr hlk E G hl
  have hl : lv_has ls 3 [(0, .ref (fk_a g 89)), (1, .int (nI f)), (2, .int (nI q))] := hl
  refine lv_aload_n S.1 S.2.1 d_M_throwing_0 rfl (lv_at hl 0 rfl) ?_
  refine lv_iload_n S.1 S.2.1 d_M_throwing_1 rfl (lv_at hl 1 rfl) ?_
  refine fk_zeq (tgt := 9) S.1 S.2.1 (by omega) d_M_throwing_2 rfl (fun hc1 => ?_) (fun hc1 => ?_)
  · refine lv_iload_n S.1 S.2.1 d_M_throwing_9 rfl (lv_at hl 2 rfl) ?_
    refine fk_zeq (tgt := 17) S.1 S.2.1 hq d_M_throwing_10 rfl (fun hc2 => ?_) (fun hc2 => ?_)
    · refine lv_iconst (v := nI 0) S.1 S.2.1 d_M_throwing_17 (by decide +kernel) ?_
      refine fk_pf S E G 89 (by decide) (congrArg (fk_ce g ov 89 (M 89)) kd_89) rfl 0 (by decide) rfl i_622 (upd (M 89) 0 (nI 0)) (congrArg (fk_ce g ov 89 (upd (M 89) 0 (nI 0))) kd_89) rfl (ty := (.int)) (by decide +kernel) rfl rfl (Nat.le_of_ble_eq_true rfl) d_M_throwing_18 (fun H locs G => ?_)
      obtain ⟨M3, hM3⟩ : ∃ z : fk_M, z = va_up M 89 (upd (M 89) 0 (nI 0)) := ⟨_, rfl⟩
      rw [← hM3] at G
      have h0 : M3 89 0 = nI 0 := by rw [hM3, va_up_self, pk_us]
      have htc : fk_tc f q = 0 := by unfold fk_tc; rw [if_pos hc1, if_pos hc2]
      refine lv_aload_n S.1 S.2.1 d_M_throwing_21 rfl (lv_at hl 0 rfl) ?_
      refine fk_gf S E G 89 (by decide) (v := .int (M3 89 0)) (congrArg (fk_ce g ov 89 (M3 89)) kd_89) rfl 0 (by decide) rfl i_622 rfl d_M_throwing_22 ?_
      rw [h0]
      refine fk_zle (tgt := 32) S.1 S.2.1 (by omega) d_M_throwing_25 rfl (fun hc4 => ?_) (fun hc4 => ?_)
      · refine lv_iconst (v := nI 0) S.1 S.2.1 d_M_throwing_32 (by decide +kernel) ?_
        exact fk_zret S hr hlk E G (by rw [hM3, htc]; rfl) (fk_b0 (by rw [htc]; rfl)) (fk_bz _) d_M_throwing_33
      · exact absurd hc4 (by decide)
    · refine lv_iconst (v := nI 2) S.1 S.2.1 d_M_throwing_13 (by decide +kernel) ?_
      refine lv_goto (tgt := 18) S.1 S.2.1 d_M_throwing_14 rfl ?_
      refine fk_pf S E G 89 (by decide) (congrArg (fk_ce g ov 89 (M 89)) kd_89) rfl 0 (by decide) rfl i_622 (upd (M 89) 0 (nI 2)) (congrArg (fk_ce g ov 89 (upd (M 89) 0 (nI 2))) kd_89) rfl (ty := (.int)) (by decide +kernel) rfl rfl (Nat.le_of_ble_eq_true rfl) d_M_throwing_18 (fun H locs G => ?_)
      obtain ⟨M5, hM5⟩ : ∃ z : fk_M, z = va_up M 89 (upd (M 89) 0 (nI 2)) := ⟨_, rfl⟩
      rw [← hM5] at G
      have h0 : M5 89 0 = nI 2 := by rw [hM5, va_up_self, pk_us]
      have htc : fk_tc f q = 2 := by unfold fk_tc; rw [if_pos hc1, if_neg (by omega)]
      refine lv_aload_n S.1 S.2.1 d_M_throwing_21 rfl (lv_at hl 0 rfl) ?_
      refine fk_gf S E G 89 (by decide) (v := .int (M5 89 0)) (congrArg (fk_ce g ov 89 (M5 89)) kd_89) rfl 0 (by decide) rfl i_622 rfl d_M_throwing_22 ?_
      rw [h0]
      refine fk_zle (tgt := 32) S.1 S.2.1 (by omega) d_M_throwing_25 rfl (fun hc6 => ?_) (fun hc6 => ?_)
      · exact absurd hc6 (by decide)
      · refine lv_iconst (v := nI 1) S.1 S.2.1 d_M_throwing_28 (by decide +kernel) ?_
        refine lv_goto (tgt := 33) S.1 S.2.1 d_M_throwing_29 rfl ?_
        exact fk_zret S hr hlk E G (by rw [hM5, htc]; rfl) (fk_b1 (by rw [htc]; rfl)) (fk_bz _) d_M_throwing_33
  · refine lv_iconst (v := nI 1) S.1 S.2.1 d_M_throwing_5 (by decide +kernel) ?_
    refine lv_goto (tgt := 18) S.1 S.2.1 d_M_throwing_6 rfl ?_
    refine fk_pf S E G 89 (by decide) (congrArg (fk_ce g ov 89 (M 89)) kd_89) rfl 0 (by decide) rfl i_622 (upd (M 89) 0 (nI 1)) (congrArg (fk_ce g ov 89 (upd (M 89) 0 (nI 1))) kd_89) rfl (ty := (.int)) (by decide +kernel) rfl rfl (Nat.le_of_ble_eq_true rfl) d_M_throwing_18 (fun H locs G => ?_)
    obtain ⟨M7, hM7⟩ : ∃ z : fk_M, z = va_up M 89 (upd (M 89) 0 (nI 1)) := ⟨_, rfl⟩
    rw [← hM7] at G
    have h0 : M7 89 0 = nI 1 := by rw [hM7, va_up_self, pk_us]
    have htc : fk_tc f q = 1 := by unfold fk_tc; rw [if_neg (by omega)]
    refine lv_aload_n S.1 S.2.1 d_M_throwing_21 rfl (lv_at hl 0 rfl) ?_
    refine fk_gf S E G 89 (by decide) (v := .int (M7 89 0)) (congrArg (fk_ce g ov 89 (M7 89)) kd_89) rfl 0 (by decide) rfl i_622 rfl d_M_throwing_22 ?_
    rw [h0]
    refine fk_zle (tgt := 32) S.1 S.2.1 (by omega) d_M_throwing_25 rfl (fun hc8 => ?_) (fun hc8 => ?_)
    · exact absurd hc8 (by decide)
    · refine lv_iconst (v := nI 1) S.1 S.2.1 d_M_throwing_28 (by decide +kernel) ?_
      refine lv_goto (tgt := 33) S.1 S.2.1 d_M_throwing_29 rfl ?_
      exact fk_zret S hr hlk E G (by rw [hM7, htc]; rfl) (fk_b1 (by rw [htc]; rfl)) (fk_bz _) d_M_throwing_33
theorem d_M_out_0 : decode b_M_out 0 = .ok (.iload_n 0, 1) := by decide +kernel
theorem d_M_out_1 : decode b_M_out 1 = .ok (.ifCond .lt 8, 3) := by decide +kernel
theorem d_M_out_4 : decode b_M_out 4 = .ok (.iload_n 0, 1) := by decide +kernel
theorem d_M_out_5 : decode b_M_out 5 = .ok (.iload_n 1, 1) := by decide +kernel
theorem d_M_out_6 : decode b_M_out 6 = .ok (.if_icmp .lt 7, 3) := by decide +kernel
theorem d_M_out_9 : decode b_M_out 9 = .ok (.iconst 1, 1) := by decide +kernel
theorem d_M_out_10 : decode b_M_out 10 = .ok (.goto 4, 3) := by decide +kernel
theorem d_M_out_13 : decode b_M_out 13 = .ok (.iconst 0, 1) := by decide +kernel
theorem d_M_out_14 : decode b_M_out 14 = .ok (.ireturn, 1) := by decide +kernel
theorem m_M_out : fk_MS y_M_out b_M_out 2 (some .boolean) 2 := ⟨i_762, i_761, i_8, by decide +kernel⟩
set_option maxHeartbeats 4000000 in
set_option maxRecDepth 100000 in
theorem c_M_out (l : Launch) (g : fk_G) (ov : Int64) (M : fk_M) (v : Int32) (n : Nat) : fk_CI l y_M_out b_M_out 2 (some .boolean) (fk_rm 0) g ov M M [.int v, .int (nI n)] (nI (fk_ou v n).toNat) := by
  refine fk_ofI rfl (Nat.le_of_ble_eq_true rfl) ?_
  intro p e s m args below meth c ls S hr hlk E G hl
  have hl : lv_has ls 2 [(0, .int v), (1, .int (nI n))] := hl
  refine lv_iload_n S.1 S.2.1 d_M_out_0 rfl (lv_at hl 0 rfl) ?_
  refine lv_if_lt (tgt := 9) S.1 S.2.1 d_M_out_1 rfl (fun hc1 => ?_) (fun hc1 => ?_)
  · refine lv_iconst (v := nI 1) S.1 S.2.1 d_M_out_9 (by decide +kernel) ?_
    refine lv_goto (tgt := 14) S.1 S.2.1 d_M_out_10 rfl ?_
    exact fk_zret S hr hlk E G rfl (fk_b1 (decide_eq_true (Or.inl hc1))) (fk_bz _) d_M_out_14
  · refine lv_iload_n S.1 S.2.1 d_M_out_4 rfl (lv_at hl 0 rfl) ?_
    refine lv_iload_n S.1 S.2.1 d_M_out_5 rfl (lv_at hl 1 rfl) ?_
    refine lv_icmp_lt (tgt := 13) S.1 S.2.1 d_M_out_6 rfl (fun hc2 => ?_) (fun hc2 => ?_)
    · refine lv_iconst (v := nI 0) S.1 S.2.1 d_M_out_13 (by decide +kernel) ?_
      exact fk_zret S hr hlk E G rfl (fk_b0 (decide_eq_false (fun q => q.elim hc1 (fun q => q hc2)))) (fk_bz _) d_M_out_14
    · refine lv_iconst (v := nI 1) S.1 S.2.1 d_M_out_9 (by decide +kernel) ?_
      refine lv_goto (tgt := 14) S.1 S.2.1 d_M_out_10 rfl ?_
      exact fk_zret S hr hlk E G rfl (fk_b1 (decide_eq_true (Or.inr hc2))) (fk_bz _) d_M_out_14
theorem d_M_push_0 : decode b_M_push 0 = .ok (.aload_n 0, 1) := by decide +kernel
theorem d_M_push_1 : decode b_M_push 1 = .ok (.getfield 75, 3) := by decide +kernel
theorem d_M_push_4 : decode b_M_push 4 = .ok (.aload_n 0, 1) := by decide +kernel
theorem d_M_push_5 : decode b_M_push 5 = .ok (.getfield 81, 3) := by decide +kernel
theorem d_M_push_8 : decode b_M_push 8 = .ok (.iload_n 1, 1) := by decide +kernel
theorem d_M_push_9 : decode b_M_push 9 = .ok (.iastore, 1) := by decide +kernel
theorem d_M_push_10 : decode b_M_push 10 = .ok (.aload_n 0, 1) := by decide +kernel
theorem d_M_push_11 : decode b_M_push 11 = .ok (.dup, 1) := by decide +kernel
theorem d_M_push_12 : decode b_M_push 12 = .ok (.getfield 81, 3) := by decide +kernel
theorem d_M_push_15 : decode b_M_push 15 = .ok (.iconst 1, 1) := by decide +kernel
theorem d_M_push_16 : decode b_M_push 16 = .ok (.iadd, 1) := by decide +kernel
theorem d_M_push_17 : decode b_M_push 17 = .ok (.putfield 81, 3) := by decide +kernel
theorem d_M_push_20 : decode b_M_push 20 = .ok (.return_, 1) := by decide +kernel
theorem m_M_push : fk_MI y_M_push b_M_push 2 none 1 := ⟨i_752, i_751, fk_mp (q := (y_M_push, 31)) (by decide +kernel), i_8, by decide +kernel⟩
set_option maxHeartbeats 4000000 in
set_option maxRecDepth 100000 in
theorem c_M_push (l : Launch) (g : fk_G) (ov : Int64) (M : fk_M) (t : Nat) (ht : M 89 29 = nI t) (h64 : t < 64) (v : Int32) : fk_CV l y_M_push b_M_push 2 (fk_rm 0) g ov M (fk_pu M t v) [.ref (fk_a g 89), .int v] := by
  refine fk_ofV rfl (Nat.le_of_ble_eq_true rfl) ?_
  intro p e s m args below meth c ls S hr hlk E G hl
  have hl : lv_has ls 2 [(0, .ref (fk_a g 89)), (1, .int v)] := hl
  refine lv_aload_n S.1 S.2.1 d_M_push_0 rfl (lv_at hl 0 rfl) ?_
  refine fk_gf S E G 89 (by decide) (v := .ref (fk_a g 109)) (congrArg (fk_ce g ov 89 (M 89)) kd_89) rfl 28 (by decide) rfl i_650 rfl d_M_push_1 ?_
  refine lv_aload_n S.1 S.2.1 d_M_push_4 rfl (lv_at hl 0 rfl) ?_
  refine fk_gf S E G 89 (by decide) (v := .int (M 89 29)) (congrArg (fk_ce g ov 89 (M 89)) kd_89) rfl 29 (by decide) rfl i_651 rfl d_M_push_5 ?_
  rw [ht]
  refine lv_iload_n S.1 S.2.1 d_M_push_8 rfl (lv_at hl 1 rfl) ?_
  refine fk_is S E G 109 (by decide) (fun r => congrArg (fk_ce g ov 109 r) kd_109) t rfl (by omega) (by decide) d_M_push_9 (fun H locs G => ?_)
  obtain ⟨M1, hM1⟩ : ∃ z : fk_M, z = va_up M 109 (upd (M 109) t v) := ⟨_, rfl⟩
  rw [← hM1] at G
  have e89 : M1 89 = M 89 := by rw [hM1, va_up_ne _ _ (by decide)]
  refine lv_aload_n S.1 S.2.1 d_M_push_10 rfl (lv_at hl 0 rfl) ?_
  refine lv_dup S.1 S.2.1 d_M_push_11 rfl ?_
  refine fk_gf S E G 89 (by decide) (v := .int (M1 89 29)) (congrArg (fk_ce g ov 89 (M1 89)) kd_89) rfl 29 (by decide) rfl i_651 rfl d_M_push_12 ?_
  rw [e89, ht]
  refine lv_iconst (v := nI 1) S.1 S.2.1 d_M_push_15 (by decide +kernel) ?_
  refine fk_iadd S.1 S.2.1 d_M_push_16 ?_
  refine fk_pf S E G 89 (by decide) (congrArg (fk_ce g ov 89 (M1 89)) kd_89) rfl 29 (by decide) rfl i_651 (upd (M1 89) 29 (nI (t + 1))) (congrArg (fk_ce g ov 89 (upd (M1 89) 29 (nI (t + 1)))) kd_89) rfl (ty := (.int)) (by decide +kernel) rfl rfl (Nat.le_of_ble_eq_true rfl) d_M_push_17 (fun H locs G => ?_)
  obtain ⟨M2, hM2⟩ : ∃ z : fk_M, z = va_up M1 89 (upd (M1 89) 29 (nI (t + 1))) := ⟨_, rfl⟩
  rw [← hM2] at G
  exact fk_vret S hr hlk E G (by rw [hM2, e89, hM1]; rfl) d_M_push_20
theorem d_M_pop_0 : decode b_M_pop 0 = .ok (.aload_n 0, 1) := by decide +kernel
theorem d_M_pop_1 : decode b_M_pop 1 = .ok (.dup, 1) := by decide +kernel
theorem d_M_pop_2 : decode b_M_pop 2 = .ok (.getfield 81, 3) := by decide +kernel
theorem d_M_pop_5 : decode b_M_pop 5 = .ok (.iconst 1, 1) := by decide +kernel
theorem d_M_pop_6 : decode b_M_pop 6 = .ok (.isub, 1) := by decide +kernel
theorem d_M_pop_7 : decode b_M_pop 7 = .ok (.putfield 81, 3) := by decide +kernel
theorem d_M_pop_10 : decode b_M_pop 10 = .ok (.aload_n 0, 1) := by decide +kernel
theorem d_M_pop_11 : decode b_M_pop 11 = .ok (.getfield 75, 3) := by decide +kernel
theorem d_M_pop_14 : decode b_M_pop 14 = .ok (.aload_n 0, 1) := by decide +kernel
theorem d_M_pop_15 : decode b_M_pop 15 = .ok (.getfield 81, 3) := by decide +kernel
theorem d_M_pop_18 : decode b_M_pop 18 = .ok (.iaload, 1) := by decide +kernel
theorem d_M_pop_19 : decode b_M_pop 19 = .ok (.ireturn, 1) := by decide +kernel
theorem m_M_pop : fk_MI y_M_pop b_M_pop 1 (some .int) 0 := ⟨i_756, i_755, fk_mp (q := (y_M_pop, 31)) (by decide +kernel), i_8, by decide +kernel⟩
set_option maxHeartbeats 4000000 in
set_option maxRecDepth 100000 in
theorem c_M_pop (l : Launch) (g : fk_G) (ov : Int64) (M : fk_M) (t : Nat) (ht : M 89 29 = nI (t + 1)) (h64 : t < 64) : fk_CI l y_M_pop b_M_pop 1 (some .int) (fk_rm 0) g ov M (fk_po M t) [.ref (fk_a g 89)] (M 109 t) := by
  refine fk_ofI rfl (Nat.le_of_ble_eq_true rfl) ?_
  intro p e s m args below meth c ls S hr hlk E G hl
  have hl : lv_has ls 1 [(0, .ref (fk_a g 89))] := hl
  refine lv_aload_n S.1 S.2.1 d_M_pop_0 rfl (lv_at hl 0 rfl) ?_
  refine lv_dup S.1 S.2.1 d_M_pop_1 rfl ?_
  refine fk_gf S E G 89 (by decide) (v := .int (M 89 29)) (congrArg (fk_ce g ov 89 (M 89)) kd_89) rfl 29 (by decide) rfl i_651 rfl d_M_pop_2 ?_
  rw [ht]
  refine lv_iconst (v := nI 1) S.1 S.2.1 d_M_pop_5 (by decide +kernel) ?_
  refine fk_isub S.1 S.2.1 (by omega) d_M_pop_6 ?_
  refine fk_pf S E G 89 (by decide) (congrArg (fk_ce g ov 89 (M 89)) kd_89) rfl 29 (by decide) rfl i_651 (upd (M 89) 29 (nI ((t + 1) - 1))) (congrArg (fk_ce g ov 89 (upd (M 89) 29 (nI ((t + 1) - 1)))) kd_89) rfl (ty := (.int)) (by decide +kernel) rfl rfl (Nat.le_of_ble_eq_true rfl) d_M_pop_7 (fun H locs G => ?_)
  obtain ⟨M1, hM1⟩ : ∃ z : fk_M, z = va_up M 89 (upd (M 89) 29 (nI ((t + 1) - 1))) := ⟨_, rfl⟩
  rw [← hM1] at G
  have h1 : M1 89 29 = nI t := by rw [hM1, va_up_self, pk_us, Nat.add_sub_cancel]
  have e9 : M1 109 = M 109 := by rw [hM1, va_up_ne _ _ (by decide)]
  refine lv_aload_n S.1 S.2.1 d_M_pop_10 rfl (lv_at hl 0 rfl) ?_
  refine fk_gf S E G 89 (by decide) (v := .ref (fk_a g 109)) (congrArg (fk_ce g ov 89 (M1 89)) kd_89) rfl 28 (by decide) rfl i_650 rfl d_M_pop_11 ?_
  refine lv_aload_n S.1 S.2.1 d_M_pop_14 rfl (lv_at hl 0 rfl) ?_
  refine fk_gf S E G 89 (by decide) (v := .int (M1 89 29)) (congrArg (fk_ce g ov 89 (M1 89)) kd_89) rfl 29 (by decide) rfl i_651 rfl d_M_pop_15 ?_
  rw [h1]
  refine fk_ia S E G 109 (by decide) (congrArg (fk_ce g ov 109 (M1 109)) kd_109) t rfl (by omega) (by decide) (v := M 109 t) (by rw [e9]) d_M_pop_18 ?_
  exact fk_iret S hr hlk E G (by rw [hM1, Nat.add_sub_cancel]; rfl) rfl d_M_pop_19
theorem d_M_many_0 : decode b_M_many 0 = .ok (.iload_n 0, 1) := by decide +kernel
theorem d_M_many_1 : decode b_M_many 1 = .ok (.iconst 4, 1) := by decide +kernel
theorem d_M_many_2 : decode b_M_many 2 = .ok (.if_icmp .ge 5, 3) := by decide +kernel
theorem d_M_many_5 : decode b_M_many 5 = .ok (.iconst 0, 1) := by decide +kernel
theorem d_M_many_6 : decode b_M_many 6 = .ok (.ireturn, 1) := by decide +kernel
theorem d_M_many_7 : decode b_M_many 7 = .ok (.iload_n 0, 1) := by decide +kernel
theorem d_M_many_8 : decode b_M_many 8 = .ok (.bipush 6, 2) := by decide +kernel
theorem d_M_many_10 : decode b_M_many 10 = .ok (.if_icmp .lt 21, 3) := by decide +kernel
theorem d_M_many_13 : decode b_M_many 13 = .ok (.iload_n 0, 1) := by decide +kernel
theorem d_M_many_14 : decode b_M_many 14 = .ok (.bipush 14, 2) := by decide +kernel
theorem d_M_many_16 : decode b_M_many 16 = .ok (.if_icmp .eq 15, 3) := by decide +kernel
theorem d_M_many_19 : decode b_M_many 19 = .ok (.iload_n 0, 1) := by decide +kernel
theorem d_M_many_20 : decode b_M_many 20 = .ok (.bipush 16, 2) := by decide +kernel
theorem d_M_many_22 : decode b_M_many 22 = .ok (.if_icmp .eq 9, 3) := by decide +kernel
theorem d_M_many_25 : decode b_M_many 25 = .ok (.iload_n 0, 1) := by decide +kernel
theorem d_M_many_26 : decode b_M_many 26 = .ok (.bipush 17, 2) := by decide +kernel
theorem d_M_many_28 : decode b_M_many 28 = .ok (.if_icmp .ne 5, 3) := by decide +kernel
theorem d_M_many_31 : decode b_M_many 31 = .ok (.iconst 1, 1) := by decide +kernel
theorem d_M_many_32 : decode b_M_many 32 = .ok (.ireturn, 1) := by decide +kernel
theorem d_M_many_33 : decode b_M_many 33 = .ok (.iload_n 0, 1) := by decide +kernel
theorem d_M_many_34 : decode b_M_many 34 = .ok (.bipush 13, 2) := by decide +kernel
theorem d_M_many_36 : decode b_M_many 36 = .ok (.if_icmp .ne 7, 3) := by decide +kernel
theorem d_M_many_39 : decode b_M_many 39 = .ok (.iconst 3, 1) := by decide +kernel
theorem d_M_many_40 : decode b_M_many 40 = .ok (.goto 4, 3) := by decide +kernel
theorem d_M_many_43 : decode b_M_many 43 = .ok (.iconst 2, 1) := by decide +kernel
theorem d_M_many_44 : decode b_M_many 44 = .ok (.ireturn, 1) := by decide +kernel
theorem m_M_many : fk_MS y_M_many b_M_many 1 (some .int) 1 := ⟨i_759, i_758, i_8, by decide +kernel⟩
set_option maxHeartbeats 4000000 in
set_option maxRecDepth 100000 in
theorem c_M_many (l : Launch) (g : fk_G) (ov : Int64) (M : fk_M) (k : Nat) (hk : k ≤ 18) : fk_CI l y_M_many b_M_many 1 (some .int) (fk_rm 0) g ov M M [.int (nI k)] (nI (fk_ar k)) := by
  refine fk_ofI rfl (Nat.le_of_ble_eq_true rfl) ?_
  intro p e s m args below meth c ls S hr hlk E G hl
  have hl : lv_has ls 1 [(0, .int (nI k))] := hl
  refine lv_iload_n S.1 S.2.1 d_M_many_0 rfl (lv_at hl 0 rfl) ?_
  refine lv_iconst (v := nI 4) S.1 S.2.1 d_M_many_1 (by decide +kernel) ?_
  refine fk_cge (tgt := 7) S.1 S.2.1 (by omega) (by omega) d_M_many_2 rfl (fun hc1 => ?_) (fun hc1 => ?_)
  · refine lv_iload_n S.1 S.2.1 d_M_many_7 rfl (lv_at hl 0 rfl) ?_
    refine lv_bipush (v := nI 6) S.1 S.2.1 d_M_many_8 (by decide +kernel) ?_
    refine fk_clt (tgt := 31) S.1 S.2.1 (by omega) (by omega) d_M_many_10 rfl (fun hc2 => ?_) (fun hc2 => ?_)
    · refine lv_iconst (v := nI 1) S.1 S.2.1 d_M_many_31 (by decide +kernel) ?_
      exact fk_iret S hr hlk E G rfl (by unfold fk_ar; (first | rw [if_pos (by omega)] | rw [if_neg (by omega), if_pos (by omega)] | rw [if_neg (by omega), if_neg (by omega), if_pos (by omega)] | rw [if_neg (by omega), if_neg (by omega), if_neg (by omega)])) d_M_many_32
    · refine lv_iload_n S.1 S.2.1 d_M_many_13 rfl (lv_at hl 0 rfl) ?_
      refine lv_bipush (v := nI 14) S.1 S.2.1 d_M_many_14 (by decide +kernel) ?_
      refine fk_ceq (tgt := 31) S.1 S.2.1 (by omega) (by omega) d_M_many_16 rfl (fun hc3 => ?_) (fun hc3 => ?_)
      · refine lv_iconst (v := nI 1) S.1 S.2.1 d_M_many_31 (by decide +kernel) ?_
        exact fk_iret S hr hlk E G rfl (by unfold fk_ar; (first | rw [if_pos (by omega)] | rw [if_neg (by omega), if_pos (by omega)] | rw [if_neg (by omega), if_neg (by omega), if_pos (by omega)] | rw [if_neg (by omega), if_neg (by omega), if_neg (by omega)])) d_M_many_32
      · refine lv_iload_n S.1 S.2.1 d_M_many_19 rfl (lv_at hl 0 rfl) ?_
        refine lv_bipush (v := nI 16) S.1 S.2.1 d_M_many_20 (by decide +kernel) ?_
        refine fk_ceq (tgt := 31) S.1 S.2.1 (by omega) (by omega) d_M_many_22 rfl (fun hc4 => ?_) (fun hc4 => ?_)
        · refine lv_iconst (v := nI 1) S.1 S.2.1 d_M_many_31 (by decide +kernel) ?_
          exact fk_iret S hr hlk E G rfl (by unfold fk_ar; (first | rw [if_pos (by omega)] | rw [if_neg (by omega), if_pos (by omega)] | rw [if_neg (by omega), if_neg (by omega), if_pos (by omega)] | rw [if_neg (by omega), if_neg (by omega), if_neg (by omega)])) d_M_many_32
        · refine lv_iload_n S.1 S.2.1 d_M_many_25 rfl (lv_at hl 0 rfl) ?_
          refine lv_bipush (v := nI 17) S.1 S.2.1 d_M_many_26 (by decide +kernel) ?_
          refine fk_cne (tgt := 33) S.1 S.2.1 (by omega) (by omega) d_M_many_28 rfl (fun hc5 => ?_) (fun hc5 => ?_)
          · refine lv_iload_n S.1 S.2.1 d_M_many_33 rfl (lv_at hl 0 rfl) ?_
            refine lv_bipush (v := nI 13) S.1 S.2.1 d_M_many_34 (by decide +kernel) ?_
            refine fk_cne (tgt := 43) S.1 S.2.1 (by omega) (by omega) d_M_many_36 rfl (fun hc6 => ?_) (fun hc6 => ?_)
            · refine lv_iconst (v := nI 2) S.1 S.2.1 d_M_many_43 (by decide +kernel) ?_
              exact fk_iret S hr hlk E G rfl (by unfold fk_ar; (first | rw [if_pos (by omega)] | rw [if_neg (by omega), if_pos (by omega)] | rw [if_neg (by omega), if_neg (by omega), if_pos (by omega)] | rw [if_neg (by omega), if_neg (by omega), if_neg (by omega)])) d_M_many_44
            · refine lv_iconst (v := nI 3) S.1 S.2.1 d_M_many_39 (by decide +kernel) ?_
              refine lv_goto (tgt := 44) S.1 S.2.1 d_M_many_40 rfl ?_
              exact fk_iret S hr hlk E G rfl (by unfold fk_ar; (first | rw [if_pos (by omega)] | rw [if_neg (by omega), if_pos (by omega)] | rw [if_neg (by omega), if_neg (by omega), if_pos (by omega)] | rw [if_neg (by omega), if_neg (by omega), if_neg (by omega)])) d_M_many_44
          · refine lv_iconst (v := nI 1) S.1 S.2.1 d_M_many_31 (by decide +kernel) ?_
            exact fk_iret S hr hlk E G rfl (by unfold fk_ar; (first | rw [if_pos (by omega)] | rw [if_neg (by omega), if_pos (by omega)] | rw [if_neg (by omega), if_neg (by omega), if_pos (by omega)] | rw [if_neg (by omega), if_neg (by omega), if_neg (by omega)])) d_M_many_32
  · refine lv_iconst (v := nI 0) S.1 S.2.1 d_M_many_5 (by decide +kernel) ?_
    exact fk_iret S hr hlk E G rfl (by unfold fk_ar; (first | rw [if_pos (by omega)] | rw [if_neg (by omega), if_pos (by omega)] | rw [if_neg (by omega), if_neg (by omega), if_pos (by omega)] | rw [if_neg (by omega), if_neg (by omega), if_neg (by omega)])) d_M_many_6
theorem d_M_restart_0 : decode b_M_restart 0 = .ok (.aload_n 0, 1) := by decide +kernel
theorem d_M_restart_1 : decode b_M_restart 1 = .ok (.iconst 0, 1) := by decide +kernel
theorem d_M_restart_2 : decode b_M_restart 2 = .ok (.putfield 84, 3) := by decide +kernel
theorem d_M_restart_5 : decode b_M_restart 5 = .ok (.iconst 0, 1) := by decide +kernel
theorem d_M_restart_6 : decode b_M_restart 6 = .ok (.istore_n 1, 1) := by decide +kernel
theorem d_M_restart_7 : decode b_M_restart 7 = .ok (.iload_n 1, 1) := by decide +kernel
theorem d_M_restart_8 : decode b_M_restart 8 = .ok (.bipush 12, 2) := by decide +kernel
theorem d_M_restart_10 : decode b_M_restart 10 = .ok (.if_icmp .ge 30, 3) := by decide +kernel
theorem d_M_restart_13 : decode b_M_restart 13 = .ok (.aload_n 0, 1) := by decide +kernel
theorem d_M_restart_14 : decode b_M_restart 14 = .ok (.getfield 23, 3) := by decide +kernel
theorem d_M_restart_17 : decode b_M_restart 17 = .ok (.iload_n 1, 1) := by decide +kernel
theorem d_M_restart_18 : decode b_M_restart 18 = .ok (.iconst 0, 1) := by decide +kernel
theorem d_M_restart_19 : decode b_M_restart 19 = .ok (.iastore, 1) := by decide +kernel
theorem d_M_restart_20 : decode b_M_restart 20 = .ok (.aload_n 0, 1) := by decide +kernel
theorem d_M_restart_21 : decode b_M_restart 21 = .ok (.getfield 26, 3) := by decide +kernel
theorem d_M_restart_24 : decode b_M_restart 24 = .ok (.iload_n 1, 1) := by decide +kernel
theorem d_M_restart_25 : decode b_M_restart 25 = .ok (.iconst 0, 1) := by decide +kernel
theorem d_M_restart_26 : decode b_M_restart 26 = .ok (.iastore, 1) := by decide +kernel
theorem d_M_restart_27 : decode b_M_restart 27 = .ok (.aload_n 0, 1) := by decide +kernel
theorem d_M_restart_28 : decode b_M_restart 28 = .ok (.getfield 29, 3) := by decide +kernel
theorem d_M_restart_31 : decode b_M_restart 31 = .ok (.iload_n 1, 1) := by decide +kernel
theorem d_M_restart_32 : decode b_M_restart 32 = .ok (.iconst 0, 1) := by decide +kernel
theorem d_M_restart_33 : decode b_M_restart 33 = .ok (.bastore, 1) := by decide +kernel
theorem d_M_restart_34 : decode b_M_restart 34 = .ok (.iinc 1 1, 3) := by decide +kernel
theorem d_M_restart_37 : decode b_M_restart 37 = .ok (.goto (-30), 3) := by decide +kernel
theorem d_M_restart_40 : decode b_M_restart 40 = .ok (.iconst 0, 1) := by decide +kernel
theorem d_M_restart_41 : decode b_M_restart 41 = .ok (.istore_n 1, 1) := by decide +kernel
theorem d_M_restart_42 : decode b_M_restart 42 = .ok (.iload_n 1, 1) := by decide +kernel
theorem d_M_restart_43 : decode b_M_restart 43 = .ok (.sipush 480, 3) := by decide +kernel
theorem d_M_restart_46 : decode b_M_restart 46 = .ok (.if_icmp .ge 23, 3) := by decide +kernel
theorem d_M_restart_49 : decode b_M_restart 49 = .ok (.aload_n 0, 1) := by decide +kernel
theorem d_M_restart_50 : decode b_M_restart 50 = .ok (.getfield 50, 3) := by decide +kernel
theorem d_M_restart_53 : decode b_M_restart 53 = .ok (.iload_n 1, 1) := by decide +kernel
theorem d_M_restart_54 : decode b_M_restart 54 = .ok (.iconst 0, 1) := by decide +kernel
theorem d_M_restart_55 : decode b_M_restart 55 = .ok (.iastore, 1) := by decide +kernel
theorem d_M_restart_56 : decode b_M_restart 56 = .ok (.aload_n 0, 1) := by decide +kernel
theorem d_M_restart_57 : decode b_M_restart 57 = .ok (.getfield 56, 3) := by decide +kernel
theorem d_M_restart_60 : decode b_M_restart 60 = .ok (.iload_n 1, 1) := by decide +kernel
theorem d_M_restart_61 : decode b_M_restart 61 = .ok (.iconst 0, 1) := by decide +kernel
theorem d_M_restart_62 : decode b_M_restart 62 = .ok (.bastore, 1) := by decide +kernel
theorem d_M_restart_63 : decode b_M_restart 63 = .ok (.iinc 1 1, 3) := by decide +kernel
theorem d_M_restart_66 : decode b_M_restart 66 = .ok (.goto (-24), 3) := by decide +kernel
theorem d_M_restart_69 : decode b_M_restart 69 = .ok (.return_, 1) := by decide +kernel
theorem m_M_restart : fk_MI y_M_restart b_M_restart 2 none 0 := ⟨i_735, i_734, fk_mp (q := (y_M_restart, 31)) (by decide +kernel), i_8, by decide +kernel⟩
set_option maxHeartbeats 4000000 in
set_option maxRecDepth 100000 in
theorem c_M_restart (l : Launch) (g : fk_G) (ov : Int64) (M : fk_M)  : fk_CV l y_M_restart b_M_restart 2 (fk_rm 0) g ov M (fk_mr M) [.ref (fk_a g 89)] := by
  refine fk_ofV rfl (Nat.le_of_ble_eq_true rfl) ?_
  intro p e s m args below meth c ls S hr hlk E G hl
  have hl : lv_has ls 2 [(0, .ref (fk_a g 89))] := hl
  refine lv_aload_n S.1 S.2.1 d_M_restart_0 rfl (lv_at hl 0 rfl) ?_
  refine lv_iconst (v := nI 0) S.1 S.2.1 d_M_restart_1 (by decide +kernel) ?_
  refine fk_pf S E G 89 (by decide) (congrArg (fk_ce g ov 89 (M 89)) kd_89) rfl 22 (by decide) rfl i_644 (upd (M 89) 22 (nI 0)) (congrArg (fk_ce g ov 89 (upd (M 89) 22 (nI 0))) kd_89) rfl (ty := (.int)) (by decide +kernel) rfl rfl (Nat.le_of_ble_eq_true rfl) d_M_restart_2 (fun H locs G => ?_)
  obtain ⟨M1, hM1⟩ : ∃ z : fk_M, z = va_up M 89 (upd (M 89) 22 (nI 0)) := ⟨_, rfl⟩
  rw [← hM1] at G
  refine lv_iconst (v := nI 0) S.1 S.2.1 d_M_restart_5 (by decide +kernel) ?_
  refine lv_istore_n (lv' := [(1, .int (nI 0)), (0, .ref (fk_a g 89))]) S.1 S.2.1 d_M_restart_6 rfl hl (by decide) rfl (fun ls hl => ?_)
  have loop2 : ∀ (d : Nat) (i : Nat) (H : Heap) (locs : List Loc) (ls : Array Slot), i + d = 480 → fk_H g ov (fk_m2 (fk_m1 M1 12) i) s H locs → lv_has ls 2 [(1, .int (nI i)), (0, .ref (fk_a g 89))] → W p l e (fk_rm (0)) s m args below meth c H locs 0 0 (MQ below (va_Qv (fun (_ : Unit) => True) (fun _ t9 => fk_Wd g ov (fk_mr M) t9) (fk_A g)) args s 0 0 (fk_A g)) (F0 m 42 ls []) := by
    intro d
    induction d with
    | zero =>
      intro i H locs ls hv0 G hl
      obtain ⟨Mi, hMi⟩ : ∃ z : fk_M, z = fk_m2 (fk_m1 M1 12) i := ⟨_, rfl⟩
      rw [← hMi] at G
      refine lv_iload_n S.1 S.2.1 d_M_restart_42 rfl (lv_at hl 0 rfl) ?_
      refine lv_sipush (v := nI 480) S.1 S.2.1 d_M_restart_43 (by decide +kernel) ?_
      refine fk_cge (tgt := 69) S.1 S.2.1 (by omega) (by omega) d_M_restart_46 rfl (fun hc2 => ?_) (fun hc2 => ?_)
      · have hi : i = 480 := by omega
        exact fk_vret S hr hlk E G (by rw [hMi, hi, hM1]; rfl) d_M_restart_69
      · exact absurd hv0 (by omega)
    | succ d ih =>
      intro i H locs ls hv0 G hl
      obtain ⟨Mi, hMi⟩ : ∃ z : fk_M, z = fk_m2 (fk_m1 M1 12) i := ⟨_, rfl⟩
      rw [← hMi] at G
      refine lv_iload_n S.1 S.2.1 d_M_restart_42 rfl (lv_at hl 0 rfl) ?_
      refine lv_sipush (v := nI 480) S.1 S.2.1 d_M_restart_43 (by decide +kernel) ?_
      refine fk_cge (tgt := 69) S.1 S.2.1 (by omega) (by omega) d_M_restart_46 rfl (fun hc3 => ?_) (fun hc3 => ?_)
      · exact absurd hv0 (by omega)
      · refine lv_aload_n S.1 S.2.1 d_M_restart_49 rfl (lv_at hl 1 rfl) ?_
        refine fk_gf S E G 89 (by decide) (v := .ref (fk_a g 103)) (congrArg (fk_ce g ov 89 (Mi 89)) kd_89) rfl 15 (by decide) rfl i_637 rfl d_M_restart_50 ?_
        refine lv_iload_n S.1 S.2.1 d_M_restart_53 rfl (lv_at hl 0 rfl) ?_
        refine lv_iconst (v := nI 0) S.1 S.2.1 d_M_restart_54 (by decide +kernel) ?_
        refine fk_is S E G 103 (by decide) (fun r => congrArg (fk_ce g ov 103 r) kd_103) i rfl (by omega) (by decide) d_M_restart_55 (fun H locs G => ?_)
        obtain ⟨M4, hM4⟩ : ∃ z : fk_M, z = va_up Mi 103 (upd (Mi 103) i (nI 0)) := ⟨_, rfl⟩
        rw [← hM4] at G
        refine lv_aload_n S.1 S.2.1 d_M_restart_56 rfl (lv_at hl 1 rfl) ?_
        refine fk_gf S E G 89 (by decide) (v := .ref (fk_a g 105)) (congrArg (fk_ce g ov 89 (M4 89)) kd_89) rfl 17 (by decide) rfl i_639 rfl d_M_restart_57 ?_
        refine lv_iload_n S.1 S.2.1 d_M_restart_60 rfl (lv_at hl 0 rfl) ?_
        refine lv_iconst (v := nI 0) S.1 S.2.1 d_M_restart_61 (by decide +kernel) ?_
        refine fk_zs S E G 105 (by decide) (fun r => congrArg (fk_ce g ov 105 r) kd_105) i rfl (by omega) (by decide) (Or.inl nI_0) d_M_restart_62 (fun H locs G => ?_)
        obtain ⟨M5, hM5⟩ : ∃ z : fk_M, z = va_up M4 105 (upd (M4 105) i (nI 0)) := ⟨_, rfl⟩
        rw [← hM5] at G
        refine lv_iinc (k := 0) (v := nI (i + 1)) (lv' := [(1, .int (nI (i + 1))), (0, .ref (fk_a g 89))]) S.1 S.2.1 d_M_restart_63 hl rfl (nI_1 i) (by decide) rfl (fun ls hl => ?_)
        refine lv_goto (tgt := 42) S.1 S.2.1 d_M_restart_66 rfl ?_
        refine ih (i + 1) H locs ls (by omega) ?_ hl
        rw [hM5, hM4, nI_0, va_up_ne _ _ (show (105 : Nat) ≠ 103 by decide), hMi, (fk_m2_at _ i).1, (fk_m2_at _ i).2, fk_m2_S] at G
        exact G
  have loop1 : ∀ (d : Nat) (i : Nat) (H : Heap) (locs : List Loc) (ls : Array Slot), i + d = 12 → fk_H g ov (fk_m1 M1 i) s H locs → lv_has ls 2 [(1, .int (nI i)), (0, .ref (fk_a g 89))] → W p l e (fk_rm (0)) s m args below meth c H locs 0 0 (MQ below (va_Qv (fun (_ : Unit) => True) (fun _ t9 => fk_Wd g ov (fk_mr M) t9) (fk_A g)) args s 0 0 (fk_A g)) (F0 m 7 ls []) := by
    intro d
    induction d with
    | zero =>
      intro i H locs ls hv0 G hl
      obtain ⟨Mi, hMi⟩ : ∃ z : fk_M, z = fk_m1 M1 i := ⟨_, rfl⟩
      rw [← hMi] at G
      refine lv_iload_n S.1 S.2.1 d_M_restart_7 rfl (lv_at hl 0 rfl) ?_
      refine lv_bipush (v := nI 12) S.1 S.2.1 d_M_restart_8 (by decide +kernel) ?_
      refine fk_cge (tgt := 40) S.1 S.2.1 (by omega) (by omega) d_M_restart_10 rfl (fun hc6 => ?_) (fun hc6 => ?_)
      · refine lv_iconst (v := nI 0) S.1 S.2.1 d_M_restart_40 (by decide +kernel) ?_
        refine lv_istore_n (lv' := [(1, .int (nI 0)), (0, .ref (fk_a g 89))]) S.1 S.2.1 d_M_restart_41 rfl hl (by decide) rfl (fun ls hl => ?_)
        have hi : i = 12 := by omega
        rw [hMi, hi] at G
        exact loop2 480 0 H locs ls (by omega) (by rw [fk_m2_0]; exact G) hl
      · exact absurd hv0 (by omega)
    | succ d ih =>
      intro i H locs ls hv0 G hl
      obtain ⟨Mi, hMi⟩ : ∃ z : fk_M, z = fk_m1 M1 i := ⟨_, rfl⟩
      rw [← hMi] at G
      refine lv_iload_n S.1 S.2.1 d_M_restart_7 rfl (lv_at hl 0 rfl) ?_
      refine lv_bipush (v := nI 12) S.1 S.2.1 d_M_restart_8 (by decide +kernel) ?_
      refine fk_cge (tgt := 40) S.1 S.2.1 (by omega) (by omega) d_M_restart_10 rfl (fun hc7 => ?_) (fun hc7 => ?_)
      · exact absurd hv0 (by omega)
      · refine lv_aload_n S.1 S.2.1 d_M_restart_13 rfl (lv_at hl 1 rfl) ?_
        refine fk_gf S E G 89 (by decide) (v := .ref (fk_a g 94)) (congrArg (fk_ce g ov 89 (Mi 89)) kd_89) rfl 6 (by decide) rfl i_628 rfl d_M_restart_14 ?_
        refine lv_iload_n S.1 S.2.1 d_M_restart_17 rfl (lv_at hl 0 rfl) ?_
        refine lv_iconst (v := nI 0) S.1 S.2.1 d_M_restart_18 (by decide +kernel) ?_
        refine fk_is S E G 94 (by decide) (fun r => congrArg (fk_ce g ov 94 r) kd_94) i rfl (by omega) (by decide) d_M_restart_19 (fun H locs G => ?_)
        obtain ⟨M8, hM8⟩ : ∃ z : fk_M, z = va_up Mi 94 (upd (Mi 94) i (nI 0)) := ⟨_, rfl⟩
        rw [← hM8] at G
        refine lv_aload_n S.1 S.2.1 d_M_restart_20 rfl (lv_at hl 1 rfl) ?_
        refine fk_gf S E G 89 (by decide) (v := .ref (fk_a g 95)) (congrArg (fk_ce g ov 89 (M8 89)) kd_89) rfl 7 (by decide) rfl i_629 rfl d_M_restart_21 ?_
        refine lv_iload_n S.1 S.2.1 d_M_restart_24 rfl (lv_at hl 0 rfl) ?_
        refine lv_iconst (v := nI 0) S.1 S.2.1 d_M_restart_25 (by decide +kernel) ?_
        refine fk_is S E G 95 (by decide) (fun r => congrArg (fk_ce g ov 95 r) kd_95) i rfl (by omega) (by decide) d_M_restart_26 (fun H locs G => ?_)
        obtain ⟨M9, hM9⟩ : ∃ z : fk_M, z = va_up M8 95 (upd (M8 95) i (nI 0)) := ⟨_, rfl⟩
        rw [← hM9] at G
        refine lv_aload_n S.1 S.2.1 d_M_restart_27 rfl (lv_at hl 1 rfl) ?_
        refine fk_gf S E G 89 (by decide) (v := .ref (fk_a g 96)) (congrArg (fk_ce g ov 89 (M9 89)) kd_89) rfl 8 (by decide) rfl i_630 rfl d_M_restart_28 ?_
        refine lv_iload_n S.1 S.2.1 d_M_restart_31 rfl (lv_at hl 0 rfl) ?_
        refine lv_iconst (v := nI 0) S.1 S.2.1 d_M_restart_32 (by decide +kernel) ?_
        refine fk_zs S E G 96 (by decide) (fun r => congrArg (fk_ce g ov 96 r) kd_96) i rfl (by omega) (by decide) (Or.inl nI_0) d_M_restart_33 (fun H locs G => ?_)
        obtain ⟨M10, hM10⟩ : ∃ z : fk_M, z = va_up M9 96 (upd (M9 96) i (nI 0)) := ⟨_, rfl⟩
        rw [← hM10] at G
        refine lv_iinc (k := 0) (v := nI (i + 1)) (lv' := [(1, .int (nI (i + 1))), (0, .ref (fk_a g 89))]) S.1 S.2.1 d_M_restart_34 hl rfl (nI_1 i) (by decide) rfl (fun ls hl => ?_)
        refine lv_goto (tgt := 7) S.1 S.2.1 d_M_restart_37 rfl ?_
        refine ih (i + 1) H locs ls (by omega) ?_ hl
        rw [hM10, hM9, va_up_ne _ _ (show (96 : Nat) ≠ 95 by decide), hM8, nI_0, va_up_ne _ _ (show (96 : Nat) ≠ 94 by decide), va_up_ne _ _ (show (95 : Nat) ≠ 94 by decide), hMi, (fk_m1_at _ i).1, (fk_m1_at _ i).2.1, (fk_m1_at _ i).2.2, fk_m1_S] at G
        exact G
  exact loop1 12 0 H locs ls (by omega) (by rw [fk_m1_0]; exact G) hl
theorem d_M_again_0 : decode b_M_again 0 = .ok (.aload_n 0, 1) := by decide +kernel
theorem d_M_again_1 : decode b_M_again 1 = .ok (.iconst 0, 1) := by decide +kernel
theorem d_M_again_2 : decode b_M_again 2 = .ok (.putfield 87, 3) := by decide +kernel
theorem d_M_again_5 : decode b_M_again 5 = .ok (.aload_n 0, 1) := by decide +kernel
theorem d_M_again_6 : decode b_M_again 6 = .ok (.iconst (-1), 1) := by decide +kernel
theorem d_M_again_7 : decode b_M_again 7 = .ok (.putfield 65, 3) := by decide +kernel
theorem d_M_again_10 : decode b_M_again 10 = .ok (.aload_n 0, 1) := by decide +kernel
theorem d_M_again_11 : decode b_M_again 11 = .ok (.iconst (-1), 1) := by decide +kernel
theorem d_M_again_12 : decode b_M_again 12 = .ok (.putfield 69, 3) := by decide +kernel
theorem d_M_again_15 : decode b_M_again 15 = .ok (.aload_n 0, 1) := by decide +kernel
theorem d_M_again_16 : decode b_M_again 16 = .ok (.invokevirtual 91, 3) := by decide +kernel
theorem d_M_again_19 : decode b_M_again 19 = .ok (.return_, 1) := by decide +kernel
theorem m_M_again : fk_MI y_M_again b_M_again 1 none 0 := ⟨i_731, i_730, fk_mp (q := (y_M_again, 31)) (by decide +kernel), i_8, by decide +kernel⟩
set_option maxHeartbeats 4000000 in
set_option maxRecDepth 100000 in
theorem c_M_again (l : Launch) (g : fk_G) (ov : Int64) (M : fk_M)  : fk_CV l y_M_again b_M_again 1 (fk_rm 1) g ov M (fk_ma M) [.ref (fk_a g 89)] := by
  refine fk_ofV rfl (Nat.le_of_ble_eq_true rfl) ?_
  intro p e s m args below meth c ls S hr hlk E G hl
  have hl : lv_has ls 1 [(0, .ref (fk_a g 89))] := hl
  refine lv_aload_n S.1 S.2.1 d_M_again_0 rfl (lv_at hl 0 rfl) ?_
  refine lv_iconst (v := nI 0) S.1 S.2.1 d_M_again_1 (by decide +kernel) ?_
  refine fk_pf S E G 89 (by decide) (congrArg (fk_ce g ov 89 (M 89)) kd_89) rfl 23 (by decide) rfl i_645 (upd (M 89) 23 (nI 0)) (congrArg (fk_ce g ov 89 (upd (M 89) 23 (nI 0))) kd_89) rfl (ty := (.boolean)) (by decide +kernel) (fk_nb (Or.inl nI_0)) (fk_fb (Or.inl nI_0)) (Nat.le_of_ble_eq_true rfl) d_M_again_2 (fun H locs G => ?_)
  obtain ⟨M1, hM1⟩ : ∃ z : fk_M, z = va_up M 89 (upd (M 89) 23 (nI 0)) := ⟨_, rfl⟩
  rw [← hM1] at G
  refine lv_aload_n S.1 S.2.1 d_M_again_5 rfl (lv_at hl 0 rfl) ?_
  refine lv_iconst (v := -1) S.1 S.2.1 d_M_again_6 (by decide +kernel) ?_
  refine fk_pf S E G 89 (by decide) (congrArg (fk_ce g ov 89 (M1 89)) kd_89) rfl 24 (by decide) rfl i_646 (upd (M1 89) 24 (-1)) (congrArg (fk_ce g ov 89 (upd (M1 89) 24 (-1))) kd_89) rfl (ty := (.int)) (by decide +kernel) rfl rfl (Nat.le_of_ble_eq_true rfl) d_M_again_7 (fun H locs G => ?_)
  obtain ⟨M2, hM2⟩ : ∃ z : fk_M, z = va_up M1 89 (upd (M1 89) 24 (-1)) := ⟨_, rfl⟩
  rw [← hM2] at G
  refine lv_aload_n S.1 S.2.1 d_M_again_10 rfl (lv_at hl 0 rfl) ?_
  refine lv_iconst (v := -1) S.1 S.2.1 d_M_again_11 (by decide +kernel) ?_
  refine fk_pf S E G 89 (by decide) (congrArg (fk_ce g ov 89 (M2 89)) kd_89) rfl 25 (by decide) rfl i_647 (upd (M2 89) 25 (-1)) (congrArg (fk_ce g ov 89 (upd (M2 89) 25 (-1))) kd_89) rfl (ty := (.int)) (by decide +kernel) rfl rfl (Nat.le_of_ble_eq_true rfl) d_M_again_12 (fun H locs G => ?_)
  obtain ⟨M3, hM3⟩ : ∃ z : fk_M, z = va_up M2 89 (upd (M2 89) 25 (-1)) := ⟨_, rfl⟩
  rw [← hM3] at G
  refine lv_aload_n S.1 S.2.1 d_M_again_15 rfl (lv_at hl 0 rfl) ?_
  refine fk_cvv S E G 89 (by decide) (congrArg (fk_ce g ov 89 (M3 89)) kd_89) rfl (rest := []) (c_M_restart l g ov M3) m_M_restart i_732 ⟨rfl, rfl⟩ ⟨by decide, by decide⟩ rfl rfl hl.1 (Nat.le_of_ble_eq_true rfl) d_M_again_16 ⟨Nat.zero_le _, Nat.zero_le _⟩ (fun H locs G => ?_)
  exact fk_vret S hr hlk E G (by rw [hM3, hM2, hM1, bx_uu, va_up_self, bx_uu, va_up_self]; rfl) d_M_again_19
theorem d_M_time_0 : decode b_M_time 0 = .ok (.aload_n 0, 1) := by decide +kernel
theorem d_M_time_1 : decode b_M_time 1 = .ok (.iconst 0, 1) := by decide +kernel
theorem d_M_time_2 : decode b_M_time 2 = .ok (.putfield 78, 3) := by decide +kernel
theorem d_M_time_5 : decode b_M_time 5 = .ok (.aload_n 0, 1) := by decide +kernel
theorem d_M_time_6 : decode b_M_time 6 = .ok (.getfield 84, 3) := by decide +kernel
theorem d_M_time_9 : decode b_M_time 9 = .ok (.ireturn, 1) := by decide +kernel
theorem m_M_time : fk_MI y_M_time b_M_time 1 (some .int) 0 := ⟨i_841, i_839, i_840, i_8, by decide +kernel⟩
set_option maxHeartbeats 4000000 in
set_option maxRecDepth 100000 in
theorem c_M_time (l : Launch) (g : fk_G) (ov : Int64) (M : fk_M)  : fk_CI l y_M_time b_M_time 1 (some .int) (fk_rm 0) g ov M (fk_th M 0) [.ref (fk_a g 89)] (M 89 22) := by
  refine fk_ofI rfl (Nat.le_of_ble_eq_true rfl) ?_
  intro p e s m args below meth c ls S hr hlk E G hl
  have hl : lv_has ls 1 [(0, .ref (fk_a g 89))] := hl
  refine lv_aload_n S.1 S.2.1 d_M_time_0 rfl (lv_at hl 0 rfl) ?_
  refine lv_iconst (v := nI 0) S.1 S.2.1 d_M_time_1 (by decide +kernel) ?_
  refine fk_pf S E G 89 (by decide) (congrArg (fk_ce g ov 89 (M 89)) kd_89) rfl 0 (by decide) rfl i_622 (upd (M 89) 0 (nI 0)) (congrArg (fk_ce g ov 89 (upd (M 89) 0 (nI 0))) kd_89) rfl (ty := (.int)) (by decide +kernel) rfl rfl (Nat.le_of_ble_eq_true rfl) d_M_time_2 (fun H locs G => ?_)
  obtain ⟨M1, hM1⟩ : ∃ z : fk_M, z = va_up M 89 (upd (M 89) 0 (nI 0)) := ⟨_, rfl⟩
  rw [← hM1] at G
  refine lv_aload_n S.1 S.2.1 d_M_time_5 rfl (lv_at hl 0 rfl) ?_
  refine fk_gf S E G 89 (by decide) (v := .int (M1 89 22)) (congrArg (fk_ce g ov 89 (M1 89)) kd_89) rfl 22 (by decide) rfl i_644 rfl d_M_time_6 ?_
  exact fk_iret S hr hlk E G (by rw [hM1]; rfl) (by rw [hM1, va_up_self, pk_un (by decide)]) d_M_time_9
theorem d_M_flows_0 : decode b_M_flows 0 = .ok (.aload_n 0, 1) := by decide +kernel
theorem d_M_flows_1 : decode b_M_flows 1 = .ok (.iconst 0, 1) := by decide +kernel
theorem d_M_flows_2 : decode b_M_flows 2 = .ok (.putfield 78, 3) := by decide +kernel
theorem d_M_flows_5 : decode b_M_flows 5 = .ok (.aload_n 0, 1) := by decide +kernel
theorem d_M_flows_6 : decode b_M_flows 6 = .ok (.getfield 94, 3) := by decide +kernel
theorem d_M_flows_9 : decode b_M_flows 9 = .ok (.ireturn, 1) := by decide +kernel
theorem m_M_flows : fk_MI y_M_flows b_M_flows 1 (some .int) 0 := ⟨i_857, i_855, i_856, i_8, by decide +kernel⟩
set_option maxHeartbeats 4000000 in
set_option maxRecDepth 100000 in
theorem c_M_flows (l : Launch) (g : fk_G) (ov : Int64) (M : fk_M)  : fk_CI l y_M_flows b_M_flows 1 (some .int) (fk_rm 0) g ov M (fk_th M 0) [.ref (fk_a g 89)] (M 89 1) := by
  refine fk_ofI rfl (Nat.le_of_ble_eq_true rfl) ?_
  intro p e s m args below meth c ls S hr hlk E G hl
  have hl : lv_has ls 1 [(0, .ref (fk_a g 89))] := hl
  refine lv_aload_n S.1 S.2.1 d_M_flows_0 rfl (lv_at hl 0 rfl) ?_
  refine lv_iconst (v := nI 0) S.1 S.2.1 d_M_flows_1 (by decide +kernel) ?_
  refine fk_pf S E G 89 (by decide) (congrArg (fk_ce g ov 89 (M 89)) kd_89) rfl 0 (by decide) rfl i_622 (upd (M 89) 0 (nI 0)) (congrArg (fk_ce g ov 89 (upd (M 89) 0 (nI 0))) kd_89) rfl (ty := (.int)) (by decide +kernel) rfl rfl (Nat.le_of_ble_eq_true rfl) d_M_flows_2 (fun H locs G => ?_)
  obtain ⟨M1, hM1⟩ : ∃ z : fk_M, z = va_up M 89 (upd (M 89) 0 (nI 0)) := ⟨_, rfl⟩
  rw [← hM1] at G
  refine lv_aload_n S.1 S.2.1 d_M_flows_5 rfl (lv_at hl 0 rfl) ?_
  refine fk_gf S E G 89 (by decide) (v := .int (M1 89 1)) (congrArg (fk_ce g ov 89 (M1 89)) kd_89) rfl 1 (by decide) rfl i_623 rfl d_M_flows_6 ?_
  exact fk_iret S hr hlk E G (by rw [hM1]; rfl) (by rw [hM1, va_up_self, pk_un (by decide)]) d_M_flows_9
theorem d_M_fault_0 : decode b_M_fault 0 = .ok (.aload_n 0, 1) := by decide +kernel
theorem d_M_fault_1 : decode b_M_fault 1 = .ok (.iload_n 1, 1) := by decide +kernel
theorem d_M_fault_2 : decode b_M_fault 2 = .ok (.iconst 2, 1) := by decide +kernel
theorem d_M_fault_3 : decode b_M_fault 3 = .ok (.invokestatic 128, 3) := by decide +kernel
theorem d_M_fault_6 : decode b_M_fault 6 = .ok (.iconst 0, 1) := by decide +kernel
theorem d_M_fault_7 : decode b_M_fault 7 = .ok (.invokevirtual 97, 3) := by decide +kernel
theorem d_M_fault_10 : decode b_M_fault 10 = .ok (.ifCond .eq 7, 3) := by decide +kernel
theorem d_M_fault_13 : decode b_M_fault 13 = .ok (.iconst 0, 1) := by decide +kernel
theorem d_M_fault_14 : decode b_M_fault 14 = .ok (.goto 18, 3) := by decide +kernel
theorem d_M_fault_17 : decode b_M_fault 17 = .ok (.iload_n 1, 1) := by decide +kernel
theorem d_M_fault_18 : decode b_M_fault 18 = .ok (.ifCond .ne 10, 3) := by decide +kernel
theorem d_M_fault_21 : decode b_M_fault 21 = .ok (.aload_n 0, 1) := by decide +kernel
theorem d_M_fault_22 : decode b_M_fault 22 = .ok (.getfield 65, 3) := by decide +kernel
theorem d_M_fault_25 : decode b_M_fault 25 = .ok (.goto 7, 3) := by decide +kernel
theorem d_M_fault_28 : decode b_M_fault 28 = .ok (.aload_n 0, 1) := by decide +kernel
theorem d_M_fault_29 : decode b_M_fault 29 = .ok (.getfield 69, 3) := by decide +kernel
theorem d_M_fault_32 : decode b_M_fault 32 = .ok (.ireturn, 1) := by decide +kernel
theorem m_M_fault : fk_MI y_M_fault b_M_fault 2 (some .int) 1 := ⟨i_806, i_804, i_805, i_8, by decide +kernel⟩
set_option maxHeartbeats 4000000 in
set_option maxRecDepth 100000 in
theorem c_M_fault (l : Launch) (g : fk_G) (ov : Int64) (M : fk_M) (v : Int32) : fk_CI l y_M_fault b_M_fault 2 (some .int) (fk_rm 1) g ov M (fk_th M (fk_tc (fk_ou v 2).toNat 0)) [.ref (fk_a g 89), .int v] (if (fk_ou v 2) = true then nI 0 else if v = 0 then M 89 24 else M 89 25) := by
  refine fk_ofI rfl (Nat.le_of_ble_eq_true rfl) ?_
  intro p e s m args below meth c ls S hr hlk E G hl
  have hl : lv_has ls 2 [(0, .ref (fk_a g 89)), (1, .int v)] := hl
  refine lv_aload_n S.1 S.2.1 d_M_fault_0 rfl (lv_at hl 0 rfl) ?_
  refine lv_iload_n S.1 S.2.1 d_M_fault_1 rfl (lv_at hl 1 rfl) ?_
  refine lv_iconst (v := nI 2) S.1 S.2.1 d_M_fault_2 (by decide +kernel) ?_
  refine fk_csi S E G (rest := [.ref (fk_a g 89)]) (c_M_out l g ov M v 2) m_M_out i_760 ⟨rfl, rfl⟩ ⟨by decide, by decide⟩ rfl rfl hl.1 (Nat.le_of_ble_eq_true rfl) d_M_fault_3 ⟨Nat.zero_le _, Nat.zero_le _⟩ (fun H locs G => ?_)
  refine lv_iconst (v := nI 0) S.1 S.2.1 d_M_fault_6 (by decide +kernel) ?_
  refine fk_cvi S E G 89 (by decide) (congrArg (fk_ce g ov 89 (M 89)) kd_89) rfl (rest := []) (c_M_throwing l g ov M ((fk_ou v 2).toNat) 0 (fk_bl _) (by decide)) m_M_throwing i_724 ⟨rfl, rfl⟩ ⟨by decide, by decide⟩ rfl rfl hl.1 (Nat.le_of_ble_eq_true rfl) d_M_fault_7 ⟨Nat.zero_le _, Nat.zero_le _⟩ (fun H locs G => ?_)
  obtain ⟨M1, hM1⟩ : ∃ z : fk_M, z = fk_th M (fk_tc (fk_ou v 2).toNat 0) := ⟨_, rfl⟩
  rw [← hM1] at G
  refine fk_zeq (tgt := 17) S.1 S.2.1 (fk_bl _) d_M_fault_10 rfl (fun hc1 => ?_) (fun hc1 => ?_)
  · have hz := of_decide_eq_false (fk_bf hc1)
    have hno : ¬ (fk_ou v 2) = true := fun q => by
      rw [q] at hz
      exact absurd hz (by decide)
    have e89 : ∀ t, t ≠ 0 → M1 89 t = M 89 t := fun t ht => by rw [hM1]; exact fk_th_s ht
    refine lv_iload_n S.1 S.2.1 d_M_fault_17 rfl (lv_at hl 1 rfl) ?_
    refine lv_if_ne (tgt := 28) S.1 S.2.1 d_M_fault_18 rfl (fun hc2 => ?_) (fun hc2 => ?_)
    · refine lv_aload_n S.1 S.2.1 d_M_fault_28 rfl (lv_at hl 0 rfl) ?_
      refine fk_gf S E G 89 (by decide) (v := .int (M1 89 25)) (congrArg (fk_ce g ov 89 (M1 89)) kd_89) rfl 25 (by decide) rfl i_647 rfl d_M_fault_29 ?_
      exact fk_iret S hr hlk E G hM1 (by rw [e89 _ (by decide), if_neg hno, if_neg hc2]) d_M_fault_32
    · refine lv_aload_n S.1 S.2.1 d_M_fault_21 rfl (lv_at hl 0 rfl) ?_
      refine fk_gf S E G 89 (by decide) (v := .int (M1 89 24)) (congrArg (fk_ce g ov 89 (M1 89)) kd_89) rfl 24 (by decide) rfl i_646 rfl d_M_fault_22 ?_
      refine lv_goto (tgt := 32) S.1 S.2.1 d_M_fault_25 rfl ?_
      exact fk_iret S hr hlk E G hM1 (by rw [e89 _ (by decide), if_neg hno, if_pos hc2]) d_M_fault_32
  · have hz := of_decide_eq_true (fk_bt hc1)
    have hyes : (fk_ou v 2) = true := by
      cases hq : (fk_ou v 2) with
      | true => rfl
      | false => rw [hq] at hz; exact absurd hz (by decide)
    refine lv_iconst (v := nI 0) S.1 S.2.1 d_M_fault_13 (by decide +kernel) ?_
    refine lv_goto (tgt := 32) S.1 S.2.1 d_M_fault_14 rfl ?_
    exact fk_iret S hr hlk E G hM1 (by rw [if_pos hyes]) d_M_fault_32
theorem d_M_seen_0 : decode b_M_seen 0 = .ok (.aload_n 0, 1) := by decide +kernel
theorem d_M_seen_1 : decode b_M_seen 1 = .ok (.iload_n 1, 1) := by decide +kernel
theorem d_M_seen_2 : decode b_M_seen 2 = .ok (.aload_n 0, 1) := by decide +kernel
theorem d_M_seen_3 : decode b_M_seen 3 = .ok (.getfield 94, 3) := by decide +kernel
theorem d_M_seen_6 : decode b_M_seen 6 = .ok (.invokestatic 128, 3) := by decide +kernel
theorem d_M_seen_9 : decode b_M_seen 9 = .ok (.iconst 0, 1) := by decide +kernel
theorem d_M_seen_10 : decode b_M_seen 10 = .ok (.invokevirtual 97, 3) := by decide +kernel
theorem d_M_seen_13 : decode b_M_seen 13 = .ok (.ifCond .eq 7, 3) := by decide +kernel
theorem d_M_seen_16 : decode b_M_seen 16 = .ok (.iconst 0, 1) := by decide +kernel
theorem d_M_seen_17 : decode b_M_seen 17 = .ok (.goto 9, 3) := by decide +kernel
theorem d_M_seen_20 : decode b_M_seen 20 = .ok (.aload_n 0, 1) := by decide +kernel
theorem d_M_seen_21 : decode b_M_seen 21 = .ok (.getfield 26, 3) := by decide +kernel
theorem d_M_seen_24 : decode b_M_seen 24 = .ok (.iload_n 1, 1) := by decide +kernel
theorem d_M_seen_25 : decode b_M_seen 25 = .ok (.iaload, 1) := by decide +kernel
theorem d_M_seen_26 : decode b_M_seen 26 = .ok (.ireturn, 1) := by decide +kernel
theorem m_M_seen : fk_MI y_M_seen b_M_seen 2 (some .int) 1 := ⟨i_853, i_851, i_852, i_8, by decide +kernel⟩
set_option maxHeartbeats 4000000 in
set_option maxRecDepth 100000 in
theorem c_M_seen (l : Launch) (g : fk_G) (ov : Int64) (M : fk_M) (v : Int32) (n : Nat) (hn : M 89 1 = nI n) (h12 : n ≤ 12) : fk_CI l y_M_seen b_M_seen 2 (some .int) (fk_rm 1) g ov M (fk_th M (fk_tc (fk_ou v n).toNat 0)) [.ref (fk_a g 89), .int v] (if (fk_ou v n) = true then nI 0 else M 95 v.toNatClampNeg) := by
  refine fk_ofI rfl (Nat.le_of_ble_eq_true rfl) ?_
  intro p e s m args below meth c ls S hr hlk E G hl
  have hl : lv_has ls 2 [(0, .ref (fk_a g 89)), (1, .int v)] := hl
  refine lv_aload_n S.1 S.2.1 d_M_seen_0 rfl (lv_at hl 0 rfl) ?_
  refine lv_iload_n S.1 S.2.1 d_M_seen_1 rfl (lv_at hl 1 rfl) ?_
  refine lv_aload_n S.1 S.2.1 d_M_seen_2 rfl (lv_at hl 0 rfl) ?_
  refine fk_gf S E G 89 (by decide) (v := .int (M 89 1)) (congrArg (fk_ce g ov 89 (M 89)) kd_89) rfl 1 (by decide) rfl i_623 rfl d_M_seen_3 ?_
  rw [hn]
  refine fk_csi S E G (rest := [.ref (fk_a g 89)]) (c_M_out l g ov M v n) m_M_out i_760 ⟨rfl, rfl⟩ ⟨by decide, by decide⟩ rfl rfl hl.1 (Nat.le_of_ble_eq_true rfl) d_M_seen_6 ⟨Nat.zero_le _, Nat.zero_le _⟩ (fun H locs G => ?_)
  refine lv_iconst (v := nI 0) S.1 S.2.1 d_M_seen_9 (by decide +kernel) ?_
  refine fk_cvi S E G 89 (by decide) (congrArg (fk_ce g ov 89 (M 89)) kd_89) rfl (rest := []) (c_M_throwing l g ov M ((fk_ou v n).toNat) 0 (fk_bl _) (by decide)) m_M_throwing i_724 ⟨rfl, rfl⟩ ⟨by decide, by decide⟩ rfl rfl hl.1 (Nat.le_of_ble_eq_true rfl) d_M_seen_10 ⟨Nat.zero_le _, Nat.zero_le _⟩ (fun H locs G => ?_)
  obtain ⟨M1, hM1⟩ : ∃ z : fk_M, z = fk_th M (fk_tc (fk_ou v n).toNat 0) := ⟨_, rfl⟩
  rw [← hM1] at G
  refine fk_zeq (tgt := 20) S.1 S.2.1 (fk_bl _) d_M_seen_13 rfl (fun hc1 => ?_) (fun hc1 => ?_)
  · have hz := of_decide_eq_false (fk_bf hc1)
    have hno : ¬ (fk_ou v n) = true := fun q => by
      rw [q] at hz
      exact absurd hz (by decide)
    have hin : ¬ (v < 0 ∨ ¬ v < nI n) := fun q => hno (decide_eq_true q)
    obtain ⟨j, hj1, hj2⟩ : ∃ j : Nat, j < 2 ^ 31 ∧ v = nI j := nI_of (fun q => hin (Or.inl q))
    have hj3 : j < n := by
      have h9 : v < nI n := Decidable.byContradiction (fun q => hin (Or.inr q))
      rw [hj2] at h9
      exact (nI_ltI hj1 (by omega)).mp h9
    have ec : M1 95 = M 95 := by rw [hM1]; exact fk_th_ne (by decide)
    refine lv_aload_n S.1 S.2.1 d_M_seen_20 rfl (lv_at hl 0 rfl) ?_
    refine fk_gf S E G 89 (by decide) (v := .ref (fk_a g 95)) (congrArg (fk_ce g ov 89 (M1 89)) kd_89) rfl 7 (by decide) rfl i_629 rfl d_M_seen_21 ?_
    refine lv_iload_n S.1 S.2.1 d_M_seen_24 rfl (lv_at hl 1 rfl) ?_
    subst hj2
    refine fk_ia S E G 95 (by decide) (congrArg (fk_ce g ov 95 (M1 95)) kd_95) j rfl (by omega) (by decide) (v := M 95 j) (by rw [ec]) d_M_seen_25 ?_
    exact fk_iret S hr hlk E G hM1 (by rw [if_neg hno, nI_clamp hj1]) d_M_seen_26
  · have hz := of_decide_eq_true (fk_bt hc1)
    have hyes : (fk_ou v n) = true := by
      cases hq : (fk_ou v n) with
      | true => rfl
      | false => rw [hq] at hz; exact absurd hz (by decide)
    refine lv_iconst (v := nI 0) S.1 S.2.1 d_M_seen_16 (by decide +kernel) ?_
    refine lv_goto (tgt := 26) S.1 S.2.1 d_M_seen_17 rfl ?_
    exact fk_iret S hr hlk E G hM1 (by rw [if_pos hyes]) d_M_seen_26
theorem d_M_present_0 : decode b_M_present 0 = .ok (.aload_n 0, 1) := by decide +kernel
theorem d_M_present_1 : decode b_M_present 1 = .ok (.iload_n 1, 1) := by decide +kernel
theorem d_M_present_2 : decode b_M_present 2 = .ok (.aload_n 0, 1) := by decide +kernel
theorem d_M_present_3 : decode b_M_present 3 = .ok (.getfield 94, 3) := by decide +kernel
theorem d_M_present_6 : decode b_M_present 6 = .ok (.invokestatic 128, 3) := by decide +kernel
theorem d_M_present_9 : decode b_M_present 9 = .ok (.iconst 0, 1) := by decide +kernel
theorem d_M_present_10 : decode b_M_present 10 = .ok (.invokevirtual 97, 3) := by decide +kernel
theorem d_M_present_13 : decode b_M_present 13 = .ok (.ifCond .ne 16, 3) := by decide +kernel
theorem d_M_present_16 : decode b_M_present 16 = .ok (.aload_n 0, 1) := by decide +kernel
theorem d_M_present_17 : decode b_M_present 17 = .ok (.getfield 29, 3) := by decide +kernel
theorem d_M_present_20 : decode b_M_present 20 = .ok (.iload_n 1, 1) := by decide +kernel
theorem d_M_present_21 : decode b_M_present 21 = .ok (.baload, 1) := by decide +kernel
theorem d_M_present_22 : decode b_M_present 22 = .ok (.ifCond .eq 7, 3) := by decide +kernel
theorem d_M_present_25 : decode b_M_present 25 = .ok (.iconst 1, 1) := by decide +kernel
theorem d_M_present_26 : decode b_M_present 26 = .ok (.goto 4, 3) := by decide +kernel
theorem d_M_present_29 : decode b_M_present 29 = .ok (.iconst 0, 1) := by decide +kernel
theorem d_M_present_30 : decode b_M_present 30 = .ok (.ireturn, 1) := by decide +kernel
theorem m_M_present : fk_MI y_M_present b_M_present 2 (some .boolean) 1 := ⟨i_845, i_843, i_844, i_8, by decide +kernel⟩
set_option maxHeartbeats 4000000 in
set_option maxRecDepth 100000 in
theorem c_M_present (l : Launch) (g : fk_G) (ov : Int64) (M : fk_M) (v : Int32) (n : Nat) (hn : M 89 1 = nI n) (h12 : n ≤ 12) : fk_CI l y_M_present b_M_present 2 (some .boolean) (fk_rm 1) g ov M (fk_th M (fk_tc (fk_ou v n).toNat 0)) [.ref (fk_a g 89), .int v] (if (fk_ou v n) = true then nI 0 else nI (decide (¬ M 96 v.toNatClampNeg = 0)).toNat) := by
  refine fk_ofI rfl (Nat.le_of_ble_eq_true rfl) ?_
  intro p e s m args below meth c ls S hr hlk E G hl
  have hl : lv_has ls 2 [(0, .ref (fk_a g 89)), (1, .int v)] := hl
  refine lv_aload_n S.1 S.2.1 d_M_present_0 rfl (lv_at hl 0 rfl) ?_
  refine lv_iload_n S.1 S.2.1 d_M_present_1 rfl (lv_at hl 1 rfl) ?_
  refine lv_aload_n S.1 S.2.1 d_M_present_2 rfl (lv_at hl 0 rfl) ?_
  refine fk_gf S E G 89 (by decide) (v := .int (M 89 1)) (congrArg (fk_ce g ov 89 (M 89)) kd_89) rfl 1 (by decide) rfl i_623 rfl d_M_present_3 ?_
  rw [hn]
  refine fk_csi S E G (rest := [.ref (fk_a g 89)]) (c_M_out l g ov M v n) m_M_out i_760 ⟨rfl, rfl⟩ ⟨by decide, by decide⟩ rfl rfl hl.1 (Nat.le_of_ble_eq_true rfl) d_M_present_6 ⟨Nat.zero_le _, Nat.zero_le _⟩ (fun H locs G => ?_)
  refine lv_iconst (v := nI 0) S.1 S.2.1 d_M_present_9 (by decide +kernel) ?_
  refine fk_cvi S E G 89 (by decide) (congrArg (fk_ce g ov 89 (M 89)) kd_89) rfl (rest := []) (c_M_throwing l g ov M ((fk_ou v n).toNat) 0 (fk_bl _) (by decide)) m_M_throwing i_724 ⟨rfl, rfl⟩ ⟨by decide, by decide⟩ rfl rfl hl.1 (Nat.le_of_ble_eq_true rfl) d_M_present_10 ⟨Nat.zero_le _, Nat.zero_le _⟩ (fun H locs G => ?_)
  obtain ⟨M1, hM1⟩ : ∃ z : fk_M, z = fk_th M (fk_tc (fk_ou v n).toNat 0) := ⟨_, rfl⟩
  rw [← hM1] at G
  refine fk_zne (tgt := 29) S.1 S.2.1 (fk_bl _) d_M_present_13 rfl (fun hc1 => ?_) (fun hc1 => ?_)
  · have hz := of_decide_eq_true (fk_bt hc1)
    have hyes : (fk_ou v n) = true := by
      cases hq : (fk_ou v n) with
      | true => rfl
      | false => rw [hq] at hz; exact absurd hz (by decide)
    refine lv_iconst (v := nI 0) S.1 S.2.1 d_M_present_29 (by decide +kernel) ?_
    exact fk_zret S hr hlk E G hM1 (by rw [if_pos hyes]) (by rw [if_pos hyes]; exact Or.inl nI_0) d_M_present_30
  · have hz := of_decide_eq_false (fk_bf hc1)
    have hno : ¬ (fk_ou v n) = true := fun q => by
      rw [q] at hz
      exact absurd hz (by decide)
    have hin : ¬ (v < 0 ∨ ¬ v < nI n) := fun q => hno (decide_eq_true q)
    obtain ⟨j, hj1, hj2⟩ : ∃ j : Nat, j < 2 ^ 31 ∧ v = nI j := nI_of (fun q => hin (Or.inl q))
    have hj3 : j < n := by
      have h9 : v < nI n := Decidable.byContradiction (fun q => hin (Or.inr q))
      rw [hj2] at h9
      exact (nI_ltI hj1 (by omega)).mp h9
    have ec : M1 96 = M 96 := by rw [hM1]; exact fk_th_ne (by decide)
    refine lv_aload_n S.1 S.2.1 d_M_present_16 rfl (lv_at hl 0 rfl) ?_
    refine fk_gf S E G 89 (by decide) (v := .ref (fk_a g 96)) (congrArg (fk_ce g ov 89 (M1 89)) kd_89) rfl 8 (by decide) rfl i_630 rfl d_M_present_17 ?_
    refine lv_iload_n S.1 S.2.1 d_M_present_20 rfl (lv_at hl 1 rfl) ?_
    subst hj2
    refine fk_za S E G 96 (by decide) (congrArg (fk_ce g ov 96 (M1 96)) kd_96) j rfl (by omega) (by decide) (v := M 96 j) (by rw [ec]) d_M_present_21 ?_
    refine lv_if_eq (tgt := 29) S.1 S.2.1 d_M_present_22 rfl (fun hc2 => ?_) (fun hc2 => ?_)
    · refine lv_iconst (v := nI 0) S.1 S.2.1 d_M_present_29 (by decide +kernel) ?_
      exact fk_zret S hr hlk E G hM1 (by rw [if_neg hno, nI_clamp hj1]; exact fk_b0 (decide_eq_false (fun q => q hc2))) (by rw [if_neg hno]; exact fk_bz _) d_M_present_30
    · refine lv_iconst (v := nI 1) S.1 S.2.1 d_M_present_25 (by decide +kernel) ?_
      refine lv_goto (tgt := 30) S.1 S.2.1 d_M_present_26 rfl ?_
      exact fk_zret S hr hlk E G hM1 (by rw [if_neg hno, nI_clamp hj1]; exact fk_b1 (decide_eq_true hc2)) (by rw [if_neg hno]; exact fk_bz _) d_M_present_30
end
section
/-! The reference: note, want, order, set, value, has. Written by wip/gen/s_mod2.py. -/
def fk_nt (pl : Int32) (i : Nat) : Int32 := if pl < 0 ∨ ¬ pl ≤ nI i then nI i else pl
def fk_nm9 (M : fk_M) (i : Nat) : fk_M := va_up M 89 (upd (M 89) 30 (fk_nt (M 89 30) i))
/-- pushes, the first's value last -/
def fk_wn (va vb : Int32) : Nat → Nat → fk_M → fk_M
  | 0, _, M => M
  | k + 1, t, M => fk_wn va vb k (t + 1) (fk_pu M t (if k = 0 then va else vb))
theorem fk_pu_t (M : fk_M) (t : Nat) (v : Int32) : fk_pu M t v 89 29 = nI (t + 1) := by unfold fk_pu; rw [va_up_self, pk_us]
/-- the clock ck has an instant now, as the reference sees it -/
def fk_hm (M : fk_M) (ck : Nat) : Bool := decide (ck = 0 ∨ (¬ M 96 ((ck - 1) / 2) = 0 ∧ M 94 ((ck - 1) / 2) = nI (ck % 2)))
theorem fk_ou_in {v : Int32} {n : Nat} (hn : n < 2 ^ 31) (h : fk_ou v n = false) : ∃ j, j < n ∧ v = nI j := by
  have hin : ¬ (v < 0 ∨ ¬ v < nI n) := of_decide_eq_false h
  obtain ⟨j, hj1, hj2⟩ := nI_of (fun q => hin (Or.inl q))
  refine ⟨j, ?_, hj2⟩
  have h9 : v < nI n := Decidable.byContradiction (fun q => hin (Or.inr q))
  rw [hj2] at h9
  exact (nI_ltI hj1 hn).mp h9
theorem fk_tc00 {f q : Nat} (h : ¬ 0 < fk_tc f q) : f = 0 ∧ q = 0 := by
  unfold fk_tc at h
  by_cases hf : f = 0
  · rw [if_pos hf] at h
    by_cases hq : q = 0
    · exact ⟨hf, hq⟩
    · rw [if_neg hq] at h
      exact absurd (by decide) h
  · rw [if_neg hf] at h
    exact absurd (by decide) h
theorem d_M_note_0 : decode b_M_note 0 = .ok (.aload_n 0, 1) := by decide +kernel
theorem d_M_note_1 : decode b_M_note 1 = .ok (.aload_n 0, 1) := by decide +kernel
theorem d_M_note_2 : decode b_M_note 2 = .ok (.getfield 132, 3) := by decide +kernel
theorem d_M_note_5 : decode b_M_note 5 = .ok (.ifCond .lt 11, 3) := by decide +kernel
theorem d_M_note_8 : decode b_M_note 8 = .ok (.iload_n 1, 1) := by decide +kernel
theorem d_M_note_9 : decode b_M_note 9 = .ok (.aload_n 0, 1) := by decide +kernel
theorem d_M_note_10 : decode b_M_note 10 = .ok (.getfield 132, 3) := by decide +kernel
theorem d_M_note_13 : decode b_M_note 13 = .ok (.if_icmp .ge 7, 3) := by decide +kernel
theorem d_M_note_16 : decode b_M_note 16 = .ok (.iload_n 1, 1) := by decide +kernel
theorem d_M_note_17 : decode b_M_note 17 = .ok (.goto 7, 3) := by decide +kernel
theorem d_M_note_20 : decode b_M_note 20 = .ok (.aload_n 0, 1) := by decide +kernel
theorem d_M_note_21 : decode b_M_note 21 = .ok (.getfield 132, 3) := by decide +kernel
theorem d_M_note_24 : decode b_M_note 24 = .ok (.putfield 132, 3) := by decide +kernel
theorem d_M_note_27 : decode b_M_note 27 = .ok (.return_, 1) := by decide +kernel
theorem m_M_note : fk_MI y_M_note b_M_note 2 none 1 := ⟨i_790, i_789, fk_mp (q := (y_M_note, 31)) (by decide +kernel), i_8, by decide +kernel⟩
set_option maxHeartbeats 4000000 in
set_option maxRecDepth 100000 in
theorem c_M_note (l : Launch) (g : fk_G) (ov : Int64) (M : fk_M) (i : Nat) : fk_CV l y_M_note b_M_note 2 (fk_rm 0) g ov M (fk_nm9 M i) [.ref (fk_a g 89), .int (nI i)] := by
  refine fk_ofV rfl (Nat.le_of_ble_eq_true rfl) ?_
  intro p e s m args below meth c ls S hr hlk E G hl
  have hl : lv_has ls 2 [(0, .ref (fk_a g 89)), (1, .int (nI i))] := hl
  refine lv_aload_n S.1 S.2.1 d_M_note_0 rfl (lv_at hl 0 rfl) ?_
  refine lv_aload_n S.1 S.2.1 d_M_note_1 rfl (lv_at hl 0 rfl) ?_
  refine fk_gf S E G 89 (by decide) (v := .int (M 89 30)) (congrArg (fk_ce g ov 89 (M 89)) kd_89) rfl 30 (by decide) rfl i_652 rfl d_M_note_2 ?_
  refine lv_if_lt (tgt := 16) S.1 S.2.1 d_M_note_5 rfl (fun hc1 => ?_) (fun hc1 => ?_)
  · refine lv_iload_n S.1 S.2.1 d_M_note_16 rfl (lv_at hl 1 rfl) ?_
    refine lv_goto (tgt := 24) S.1 S.2.1 d_M_note_17 rfl ?_
    refine fk_pf S E G 89 (by decide) (congrArg (fk_ce g ov 89 (M 89)) kd_89) rfl 30 (by decide) rfl i_652 (upd (M 89) 30 (nI i)) (congrArg (fk_ce g ov 89 (upd (M 89) 30 (nI i))) kd_89) rfl (ty := (.int)) (by decide +kernel) rfl rfl (Nat.le_of_ble_eq_true rfl) d_M_note_24 (fun H locs G => ?_)
    obtain ⟨M2, hM2⟩ : ∃ z : fk_M, z = va_up M 89 (upd (M 89) 30 (nI i)) := ⟨_, rfl⟩
    rw [← hM2] at G
    exact fk_vret S hr hlk E G (by rw [hM2]; unfold fk_nm9 fk_nt; rw [if_pos (Or.inl hc1)]) d_M_note_27
  · refine lv_iload_n S.1 S.2.1 d_M_note_8 rfl (lv_at hl 1 rfl) ?_
    refine lv_aload_n S.1 S.2.1 d_M_note_9 rfl (lv_at hl 0 rfl) ?_
    refine fk_gf S E G 89 (by decide) (v := .int (M 89 30)) (congrArg (fk_ce g ov 89 (M 89)) kd_89) rfl 30 (by decide) rfl i_652 rfl d_M_note_10 ?_
    refine lv_icmp_ge (tgt := 20) S.1 S.2.1 d_M_note_13 rfl (fun hc3 => ?_) (fun hc3 => ?_)
    · refine lv_aload_n S.1 S.2.1 d_M_note_20 rfl (lv_at hl 0 rfl) ?_
      refine fk_gf S E G 89 (by decide) (v := .int (M 89 30)) (congrArg (fk_ce g ov 89 (M 89)) kd_89) rfl 30 (by decide) rfl i_652 rfl d_M_note_21 ?_
      refine fk_pf S E G 89 (by decide) (congrArg (fk_ce g ov 89 (M 89)) kd_89) rfl 30 (by decide) rfl i_652 (upd (M 89) 30 (M 89 30)) (congrArg (fk_ce g ov 89 (upd (M 89) 30 (M 89 30))) kd_89) rfl (ty := (.int)) (by decide +kernel) rfl rfl (Nat.le_of_ble_eq_true rfl) d_M_note_24 (fun H locs G => ?_)
      obtain ⟨M4, hM4⟩ : ∃ z : fk_M, z = va_up M 89 (upd (M 89) 30 (M 89 30)) := ⟨_, rfl⟩
      rw [← hM4] at G
      exact fk_vret S hr hlk E G (by rw [hM4]; unfold fk_nm9 fk_nt; rw [if_neg (fun q => q.elim hc1 (fun q => q hc3))]) d_M_note_27
    · refine lv_iload_n S.1 S.2.1 d_M_note_16 rfl (lv_at hl 1 rfl) ?_
      refine lv_goto (tgt := 24) S.1 S.2.1 d_M_note_17 rfl ?_
      refine fk_pf S E G 89 (by decide) (congrArg (fk_ce g ov 89 (M 89)) kd_89) rfl 30 (by decide) rfl i_652 (upd (M 89) 30 (nI i)) (congrArg (fk_ce g ov 89 (upd (M 89) 30 (nI i))) kd_89) rfl (ty := (.int)) (by decide +kernel) rfl rfl (Nat.le_of_ble_eq_true rfl) d_M_note_24 (fun H locs G => ?_)
      obtain ⟨M5, hM5⟩ : ∃ z : fk_M, z = va_up M 89 (upd (M 89) 30 (nI i)) := ⟨_, rfl⟩
      rw [← hM5] at G
      exact fk_vret S hr hlk E G (by rw [hM5]; unfold fk_nm9 fk_nt; rw [if_pos (Or.inr hc3)]) d_M_note_27
theorem d_M_want_0 : decode b_M_want 0 = .ok (.iload_n 3, 1) := by decide +kernel
theorem d_M_want_1 : decode b_M_want 1 = .ok (.iconst 1, 1) := by decide +kernel
theorem d_M_want_2 : decode b_M_want 2 = .ok (.isub, 1) := by decide +kernel
theorem d_M_want_3 : decode b_M_want 3 = .ok (.istore 4, 2) := by decide +kernel
theorem d_M_want_5 : decode b_M_want 5 = .ok (.iload 4, 2) := by decide +kernel
theorem d_M_want_7 : decode b_M_want 7 = .ok (.ifCond .lt 23, 3) := by decide +kernel
theorem d_M_want_10 : decode b_M_want 10 = .ok (.aload_n 0, 1) := by decide +kernel
theorem d_M_want_11 : decode b_M_want 11 = .ok (.iload 4, 2) := by decide +kernel
theorem d_M_want_13 : decode b_M_want 13 = .ok (.ifCond .ne 7, 3) := by decide +kernel
theorem d_M_want_16 : decode b_M_want 16 = .ok (.iload_n 1, 1) := by decide +kernel
theorem d_M_want_17 : decode b_M_want 17 = .ok (.goto 4, 3) := by decide +kernel
theorem d_M_want_20 : decode b_M_want 20 = .ok (.iload_n 2, 1) := by decide +kernel
theorem d_M_want_21 : decode b_M_want 21 = .ok (.invokevirtual 112, 3) := by decide +kernel
theorem d_M_want_24 : decode b_M_want 24 = .ok (.iinc 4 (-1), 3) := by decide +kernel
theorem d_M_want_27 : decode b_M_want 27 = .ok (.goto (-22), 3) := by decide +kernel
theorem d_M_want_30 : decode b_M_want 30 = .ok (.return_, 1) := by decide +kernel
theorem m_M_want : fk_MI y_M_want b_M_want 5 none 3 := ⟨i_778, i_777, fk_mp (q := (y_M_want, 31)) (by decide +kernel), i_8, by decide +kernel⟩
set_option maxHeartbeats 4000000 in
set_option maxRecDepth 100000 in
theorem c_M_want (l : Launch) (g : fk_G) (ov : Int64) (M : fk_M) (t : Nat) (ht : M 89 29 = nI t) (n : Nat) (h64 : t + n ≤ 64) (va vb : Int32) : fk_CV l y_M_want b_M_want 5 (fk_rm 1) g ov M (fk_wn va vb n t M) [.ref (fk_a g 89), .int va, .int vb, .int (nI n)] := by
  refine fk_ofV rfl (Nat.le_of_ble_eq_true rfl) ?_
  intro p e s m args below meth c ls S hr hlk E G hl
  have hl : lv_has ls 5 [(0, .ref (fk_a g 89)), (1, .int va), (2, .int vb), (3, .int (nI n))] := hl
  refine lv_iload_n S.1 S.2.1 d_M_want_0 rfl (lv_at hl 3 rfl) ?_
  refine lv_iconst (v := nI 1) S.1 S.2.1 d_M_want_1 (by decide +kernel) ?_
  refine lv_isub S.1 S.2.1 d_M_want_2 ?_
  refine lv_istore (lv' := [(4, .int ((nI n) - (nI 1))), (0, .ref (fk_a g 89)), (1, .int va), (2, .int vb), (3, .int (nI n))]) S.1 S.2.1 d_M_want_3 hl (by decide) rfl (fun ls hl => ?_)
  have loop : ∀ (d : Nat) (u : Nat) (Mc : fk_M) (H : Heap) (locs : List Loc) (ls : Array Slot), u + d ≤ 64 → Mc 89 29 = nI u → fk_wn va vb d u Mc = fk_wn va vb n t M → fk_H g ov (Mc) s H locs → lv_has ls 5 [(4, .int (nI d - 1)), (0, .ref (fk_a g 89)), (1, .int va), (2, .int vb), (3, .int (nI n))] → W p l e (fk_rm (1)) s m args below meth c H locs 0 0 (MQ below (va_Qv (fun (_ : Unit) => True) (fun _ t9 => fk_Wd g ov (fk_wn va vb n t M) t9) (fk_A g)) args s 0 0 (fk_A g)) (F0 m 5 ls []) := by
    intro d
    induction d with
    | zero =>
      intro u Mc H locs ls hv0 hv1 hv2 G hl
      refine lv_iload S.1 S.2.1 d_M_want_5 (lv_at hl 0 rfl) ?_
      refine lv_if_lt (tgt := 30) S.1 S.2.1 d_M_want_7 rfl (fun hc1 => ?_) (fun hc1 => ?_)
      · exact fk_vret S hr hlk E G hv2 d_M_want_30
      · exact absurd (by decide +kernel) hc1
    | succ d ih =>
      intro u Mc H locs ls hv0 hv1 hv2 G hl
      rw [nI_pred] at hl
      refine lv_iload S.1 S.2.1 d_M_want_5 (lv_at hl 0 rfl) ?_
      refine lv_if_lt (tgt := 30) S.1 S.2.1 d_M_want_7 rfl (fun hc2 => ?_) (fun hc2 => ?_)
      · exact absurd hc2 (nI_pos (by omega))
      · refine lv_aload_n S.1 S.2.1 d_M_want_10 rfl (lv_at hl 1 rfl) ?_
        refine lv_iload S.1 S.2.1 d_M_want_11 (lv_at hl 0 rfl) ?_
        refine fk_zne (tgt := 20) S.1 S.2.1 (by omega) d_M_want_13 rfl (fun hc3 => ?_) (fun hc3 => ?_)
        · refine lv_iload_n S.1 S.2.1 d_M_want_20 rfl (lv_at hl 3 rfl) ?_
          refine fk_cvv S E G 89 (by decide) (congrArg (fk_ce g ov 89 (Mc 89)) kd_89) rfl (rest := []) (c_M_push l g ov Mc u hv1 (by omega) vb) m_M_push i_749 ⟨rfl, rfl⟩ ⟨by decide, by decide⟩ rfl rfl hl.1 (Nat.le_of_ble_eq_true rfl) d_M_want_21 ⟨Nat.zero_le _, Nat.zero_le _⟩ (fun H locs G => ?_)
          refine lv_iinc (k := 0) (v := nI d - 1) (lv' := [(4, .int (nI d - 1)), (0, .ref (fk_a g 89)), (1, .int va), (2, .int vb), (3, .int (nI n))]) S.1 S.2.1 d_M_want_24 hl rfl (fk_dec _) (by decide) rfl (fun ls hl => ?_)
          refine lv_goto (tgt := 5) S.1 S.2.1 d_M_want_27 rfl ?_
          exact ih (u + 1) (fk_pu Mc u vb) H locs ls (by omega) (fk_pu_t _ _ _) (by rw [← hv2]; show _ = fk_wn va vb d (u + 1) (fk_pu Mc u (if d = 0 then va else vb)); rw [if_neg (show ¬ d = 0 by omega)]) G hl
        · refine lv_iload_n S.1 S.2.1 d_M_want_16 rfl (lv_at hl 2 rfl) ?_
          refine lv_goto (tgt := 21) S.1 S.2.1 d_M_want_17 rfl ?_
          refine fk_cvv S E G 89 (by decide) (congrArg (fk_ce g ov 89 (Mc 89)) kd_89) rfl (rest := []) (c_M_push l g ov Mc u hv1 (by omega) va) m_M_push i_749 ⟨rfl, rfl⟩ ⟨by decide, by decide⟩ rfl rfl hl.1 (Nat.le_of_ble_eq_true rfl) d_M_want_21 ⟨Nat.zero_le _, Nat.zero_le _⟩ (fun H locs G => ?_)
          refine lv_iinc (k := 0) (v := nI d - 1) (lv' := [(4, .int (nI d - 1)), (0, .ref (fk_a g 89)), (1, .int va), (2, .int vb), (3, .int (nI n))]) S.1 S.2.1 d_M_want_24 hl rfl (fk_dec _) (by decide) rfl (fun ls hl => ?_)
          refine lv_goto (tgt := 5) S.1 S.2.1 d_M_want_27 rfl ?_
          exact ih (u + 1) (fk_pu Mc u va) H locs ls (by omega) (fk_pu_t _ _ _) (by rw [← hv2]; show _ = fk_wn va vb d (u + 1) (fk_pu Mc u (if d = 0 then va else vb)); rw [if_pos hc3]) G hl
  exact loop n t M s.heap [] ls h64 ht rfl G hl
theorem d_M_has_0 : decode b_M_has 0 = .ok (.iload_n 1, 1) := by decide +kernel
theorem d_M_has_1 : decode b_M_has 1 = .ok (.ifCond .le 11, 3) := by decide +kernel
theorem d_M_has_4 : decode b_M_has 4 = .ok (.iload_n 1, 1) := by decide +kernel
theorem d_M_has_5 : decode b_M_has 5 = .ok (.iconst 1, 1) := by decide +kernel
theorem d_M_has_6 : decode b_M_has 6 = .ok (.isub, 1) := by decide +kernel
theorem d_M_has_7 : decode b_M_has 7 = .ok (.iconst 2, 1) := by decide +kernel
theorem d_M_has_8 : decode b_M_has 8 = .ok (.idiv, 1) := by decide +kernel
theorem d_M_has_9 : decode b_M_has 9 = .ok (.goto 4, 3) := by decide +kernel
theorem d_M_has_12 : decode b_M_has 12 = .ok (.iconst 0, 1) := by decide +kernel
theorem d_M_has_13 : decode b_M_has 13 = .ok (.istore_n 2, 1) := by decide +kernel
theorem d_M_has_14 : decode b_M_has 14 = .ok (.iload_n 1, 1) := by decide +kernel
theorem d_M_has_15 : decode b_M_has 15 = .ok (.ifCond .eq 24, 3) := by decide +kernel
theorem d_M_has_18 : decode b_M_has 18 = .ok (.aload_n 0, 1) := by decide +kernel
theorem d_M_has_19 : decode b_M_has 19 = .ok (.getfield 29, 3) := by decide +kernel
theorem d_M_has_22 : decode b_M_has 22 = .ok (.iload_n 2, 1) := by decide +kernel
theorem d_M_has_23 : decode b_M_has 23 = .ok (.baload, 1) := by decide +kernel
theorem d_M_has_24 : decode b_M_has 24 = .ok (.ifCond .eq 19, 3) := by decide +kernel
theorem d_M_has_27 : decode b_M_has 27 = .ok (.aload_n 0, 1) := by decide +kernel
theorem d_M_has_28 : decode b_M_has 28 = .ok (.getfield 23, 3) := by decide +kernel
theorem d_M_has_31 : decode b_M_has 31 = .ok (.iload_n 2, 1) := by decide +kernel
theorem d_M_has_32 : decode b_M_has 32 = .ok (.iaload, 1) := by decide +kernel
theorem d_M_has_33 : decode b_M_has 33 = .ok (.iload_n 1, 1) := by decide +kernel
theorem d_M_has_34 : decode b_M_has 34 = .ok (.iconst 2, 1) := by decide +kernel
theorem d_M_has_35 : decode b_M_has 35 = .ok (.irem, 1) := by decide +kernel
theorem d_M_has_36 : decode b_M_has 36 = .ok (.if_icmp .ne 7, 3) := by decide +kernel
theorem d_M_has_39 : decode b_M_has 39 = .ok (.iconst 1, 1) := by decide +kernel
theorem d_M_has_40 : decode b_M_has 40 = .ok (.goto 4, 3) := by decide +kernel
theorem d_M_has_43 : decode b_M_has 43 = .ok (.iconst 0, 1) := by decide +kernel
theorem d_M_has_44 : decode b_M_has 44 = .ok (.ireturn, 1) := by decide +kernel
theorem m_M_has : fk_MI y_M_has b_M_has 3 (some .boolean) 1 := ⟨i_826, i_825, fk_mp (q := (y_M_has, 31)) (by decide +kernel), i_8, by decide +kernel⟩
set_option maxHeartbeats 4000000 in
set_option maxRecDepth 100000 in
theorem c_M_has (l : Launch) (g : fk_G) (ov : Int64) (M : fk_M) (ck : Nat) (h25 : ck < 25) : fk_CI l y_M_has b_M_has 3 (some .boolean) (fk_rm 0) g ov M M [.ref (fk_a g 89), .int (nI ck)] (nI (fk_hm M ck).toNat) := by
  refine fk_ofI rfl (Nat.le_of_ble_eq_true rfl) ?_
  intro p e s m args below meth c ls S hr hlk E G hl
  have hl : lv_has ls 3 [(0, .ref (fk_a g 89)), (1, .int (nI ck))] := hl
  refine lv_iload_n S.1 S.2.1 d_M_has_0 rfl (lv_at hl 1 rfl) ?_
  refine fk_zle (tgt := 12) S.1 S.2.1 (by omega) d_M_has_1 rfl (fun hc1 => ?_) (fun hc1 => ?_)
  · refine lv_iconst (v := nI 0) S.1 S.2.1 d_M_has_12 (by decide +kernel) ?_
    refine lv_istore_n (lv' := [(2, .int (nI 0)), (0, .ref (fk_a g 89)), (1, .int (nI ck))]) S.1 S.2.1 d_M_has_13 rfl hl (by decide) rfl (fun ls hl => ?_)
    refine lv_iload_n S.1 S.2.1 d_M_has_14 rfl (lv_at hl 2 rfl) ?_
    refine fk_zeq (tgt := 39) S.1 S.2.1 (by omega) d_M_has_15 rfl (fun hc2 => ?_) (fun hc2 => ?_)
    · refine lv_iconst (v := nI 1) S.1 S.2.1 d_M_has_39 (by decide +kernel) ?_
      refine lv_goto (tgt := 44) S.1 S.2.1 d_M_has_40 rfl ?_
      exact fk_zret S hr hlk E G rfl (fk_b1 (decide_eq_true (Or.inl hc1))) (fk_bz _) d_M_has_44
    · exact absurd hc1 (by omega)
  · refine lv_iload_n S.1 S.2.1 d_M_has_4 rfl (lv_at hl 1 rfl) ?_
    refine lv_iconst (v := nI 1) S.1 S.2.1 d_M_has_5 (by decide +kernel) ?_
    refine fk_isub S.1 S.2.1 (by omega) d_M_has_6 ?_
    refine lv_iconst (v := nI 2) S.1 S.2.1 d_M_has_7 (by decide +kernel) ?_
    refine fk_idiv S.1 S.2.1 (by omega) (by decide) (by decide) d_M_has_8 ?_
    refine lv_goto (tgt := 13) S.1 S.2.1 d_M_has_9 rfl ?_
    refine lv_istore_n (lv' := [(2, .int (nI ((ck - 1) / 2))), (0, .ref (fk_a g 89)), (1, .int (nI ck))]) S.1 S.2.1 d_M_has_13 rfl hl (by decide) rfl (fun ls hl => ?_)
    refine lv_iload_n S.1 S.2.1 d_M_has_14 rfl (lv_at hl 2 rfl) ?_
    refine fk_zeq (tgt := 39) S.1 S.2.1 (by omega) d_M_has_15 rfl (fun hc3 => ?_) (fun hc3 => ?_)
    · exact absurd hc3 (by omega)
    · refine lv_aload_n S.1 S.2.1 d_M_has_18 rfl (lv_at hl 1 rfl) ?_
      refine fk_gf S E G 89 (by decide) (v := .ref (fk_a g 96)) (congrArg (fk_ce g ov 89 (M 89)) kd_89) rfl 8 (by decide) rfl i_630 rfl d_M_has_19 ?_
      refine lv_iload_n S.1 S.2.1 d_M_has_22 rfl (lv_at hl 0 rfl) ?_
      refine fk_za S E G 96 (by decide) (congrArg (fk_ce g ov 96 (M 96)) kd_96) ((ck - 1) / 2) rfl (by omega) (by decide) (v := M 96 ((ck - 1) / 2)) rfl d_M_has_23 ?_
      refine lv_if_eq (tgt := 43) S.1 S.2.1 d_M_has_24 rfl (fun hc4 => ?_) (fun hc4 => ?_)
      · refine lv_iconst (v := nI 0) S.1 S.2.1 d_M_has_43 (by decide +kernel) ?_
        exact fk_zret S hr hlk E G rfl (fk_b0 (decide_eq_false (fun q => q.elim (fun q => by omega) (fun q => q.1 hc4)))) (fk_bz _) d_M_has_44
      · refine lv_aload_n S.1 S.2.1 d_M_has_27 rfl (lv_at hl 1 rfl) ?_
        refine fk_gf S E G 89 (by decide) (v := .ref (fk_a g 94)) (congrArg (fk_ce g ov 89 (M 89)) kd_89) rfl 6 (by decide) rfl i_628 rfl d_M_has_28 ?_
        refine lv_iload_n S.1 S.2.1 d_M_has_31 rfl (lv_at hl 0 rfl) ?_
        refine fk_ia S E G 94 (by decide) (congrArg (fk_ce g ov 94 (M 94)) kd_94) ((ck - 1) / 2) rfl (by omega) (by decide) (v := M 94 ((ck - 1) / 2)) rfl d_M_has_32 ?_
        refine lv_iload_n S.1 S.2.1 d_M_has_33 rfl (lv_at hl 2 rfl) ?_
        refine lv_iconst (v := nI 2) S.1 S.2.1 d_M_has_34 (by decide +kernel) ?_
        refine fk_irem S.1 S.2.1 (by omega) (by decide) (by decide) d_M_has_35 ?_
        refine lv_icmp_ne (tgt := 43) S.1 S.2.1 d_M_has_36 rfl (fun hc5 => ?_) (fun hc5 => ?_)
        · refine lv_iconst (v := nI 0) S.1 S.2.1 d_M_has_43 (by decide +kernel) ?_
          exact fk_zret S hr hlk E G rfl (fk_b0 (decide_eq_false (fun q => q.elim (fun q => by omega) (fun q => hc5 q.2)))) (fk_bz _) d_M_has_44
        · refine lv_iconst (v := nI 1) S.1 S.2.1 d_M_has_39 (by decide +kernel) ?_
          refine lv_goto (tgt := 44) S.1 S.2.1 d_M_has_40 rfl ?_
          exact fk_zret S hr hlk E G rfl (fk_b1 (decide_eq_true (Or.inr ⟨hc4, hc5⟩))) (fk_bz _) d_M_has_44
theorem d_M_order_0 : decode b_M_order 0 = .ok (.aload_n 0, 1) := by decide +kernel
theorem d_M_order_1 : decode b_M_order 1 = .ok (.aload_n 0, 1) := by decide +kernel
theorem d_M_order_2 : decode b_M_order 2 = .ok (.getfield 87, 3) := by decide +kernel
theorem d_M_order_5 : decode b_M_order 5 = .ok (.ifCond .ne 7, 3) := by decide +kernel
theorem d_M_order_8 : decode b_M_order 8 = .ok (.iconst 1, 1) := by decide +kernel
theorem d_M_order_9 : decode b_M_order 9 = .ok (.goto 4, 3) := by decide +kernel
theorem d_M_order_12 : decode b_M_order 12 = .ok (.iconst 0, 1) := by decide +kernel
theorem d_M_order_13 : decode b_M_order 13 = .ok (.iload_n 1, 1) := by decide +kernel
theorem d_M_order_14 : decode b_M_order 14 = .ok (.aload_n 0, 1) := by decide +kernel
theorem d_M_order_15 : decode b_M_order 15 = .ok (.getfield 163, 3) := by decide +kernel
theorem d_M_order_18 : decode b_M_order 18 = .ok (.invokestatic 128, 3) := by decide +kernel
theorem d_M_order_21 : decode b_M_order 21 = .ok (.invokevirtual 97, 3) := by decide +kernel
theorem d_M_order_24 : decode b_M_order 24 = .ok (.ifCond .eq 7, 3) := by decide +kernel
theorem d_M_order_27 : decode b_M_order 27 = .ok (.iconst 0, 1) := by decide +kernel
theorem d_M_order_28 : decode b_M_order 28 = .ok (.goto 9, 3) := by decide +kernel
theorem d_M_order_31 : decode b_M_order 31 = .ok (.aload_n 0, 1) := by decide +kernel
theorem d_M_order_32 : decode b_M_order 32 = .ok (.getfield 72, 3) := by decide +kernel
theorem d_M_order_35 : decode b_M_order 35 = .ok (.iload_n 1, 1) := by decide +kernel
theorem d_M_order_36 : decode b_M_order 36 = .ok (.iaload, 1) := by decide +kernel
theorem d_M_order_37 : decode b_M_order 37 = .ok (.ireturn, 1) := by decide +kernel
theorem m_M_order : fk_MI y_M_order b_M_order 2 (some .int) 1 := ⟨i_810, i_808, i_809, i_8, by decide +kernel⟩
set_option maxHeartbeats 4000000 in
set_option maxRecDepth 100000 in
theorem c_M_order (l : Launch) (g : fk_G) (ov : Int64) (M : fk_M) (v : Int32) (o : Nat) (ho : M 89 27 = nI o) (h12 : o ≤ 12) : fk_CI l y_M_order b_M_order 2 (some .int) (fk_rm 1) g ov M (fk_th M (fk_tc (decide (M 89 23 = 0)).toNat (fk_ou v o).toNat)) [.ref (fk_a g 89), .int v] (if 0 < fk_tc (decide (M 89 23 = 0)).toNat (fk_ou v o).toNat then nI 0 else M 108 v.toNatClampNeg) := by
  refine fk_ofI rfl (Nat.le_of_ble_eq_true rfl) ?_
  intro p e s m args below meth c ls S hr hlk E G hl
  have hl : lv_has ls 2 [(0, .ref (fk_a g 89)), (1, .int v)] := hl
  refine lv_aload_n S.1 S.2.1 d_M_order_0 rfl (lv_at hl 0 rfl) ?_
  refine lv_aload_n S.1 S.2.1 d_M_order_1 rfl (lv_at hl 0 rfl) ?_
  refine fk_gf S E G 89 (by decide) (v := .int (M 89 23)) (congrArg (fk_ce g ov 89 (M 89)) kd_89) rfl 23 (by decide) rfl i_645 rfl d_M_order_2 ?_
  refine lv_if_ne (tgt := 12) S.1 S.2.1 d_M_order_5 rfl (fun hc1 => ?_) (fun hc1 => ?_)
  · refine lv_iconst (v := nI 0) S.1 S.2.1 d_M_order_12 (by decide +kernel) ?_
    have hF : (decide (M 89 23 = 0)).toNat = 0 := by rw [decide_eq_false hc1]; rfl
    rw [hF]
    refine lv_iload_n S.1 S.2.1 d_M_order_13 rfl (lv_at hl 1 rfl) ?_
    refine lv_aload_n S.1 S.2.1 d_M_order_14 rfl (lv_at hl 0 rfl) ?_
    refine fk_gf S E G 89 (by decide) (v := .int (M 89 27)) (congrArg (fk_ce g ov 89 (M 89)) kd_89) rfl 27 (by decide) rfl i_649 rfl d_M_order_15 ?_
    rw [ho]
    refine fk_csi S E G (rest := [.int (nI 0), .ref (fk_a g 89)]) (c_M_out l g ov M v o) m_M_out i_760 ⟨rfl, rfl⟩ ⟨by decide, by decide⟩ rfl rfl hl.1 (Nat.le_of_ble_eq_true rfl) d_M_order_18 ⟨Nat.zero_le _, Nat.zero_le _⟩ (fun H locs G => ?_)
    refine fk_cvi S E G 89 (by decide) (congrArg (fk_ce g ov 89 (M 89)) kd_89) rfl (rest := []) (c_M_throwing l g ov M 0 ((fk_ou v o).toNat) (by decide) (fk_bl _)) m_M_throwing i_724 ⟨rfl, rfl⟩ ⟨by decide, by decide⟩ rfl rfl hl.1 (Nat.le_of_ble_eq_true rfl) d_M_order_21 ⟨Nat.zero_le _, Nat.zero_le _⟩ (fun H locs G => ?_)
    obtain ⟨M1, hM1⟩ : ∃ z : fk_M, z = fk_th M (fk_tc 0 (fk_ou v o).toNat) := ⟨_, rfl⟩
    rw [← hM1] at G
    refine fk_zeq (tgt := 31) S.1 S.2.1 (fk_bl _) d_M_order_24 rfl (fun hc2 => ?_) (fun hc2 => ?_)
    · have hz := of_decide_eq_false (fk_bf hc2)
      obtain ⟨-, hz2⟩ := fk_tc00 hz
      obtain ⟨j, hj1, hj2⟩ := fk_ou_in (by omega) (fk_bf hz2)
      have ec : M1 108 = M 108 := by rw [hM1]; exact fk_th_ne (by decide)
      subst hj2
      refine lv_aload_n S.1 S.2.1 d_M_order_31 rfl (lv_at hl 0 rfl) ?_
      refine fk_gf S E G 89 (by decide) (v := .ref (fk_a g 108)) (congrArg (fk_ce g ov 89 (M1 89)) kd_89) rfl 26 (by decide) rfl i_648 rfl d_M_order_32 ?_
      refine lv_iload_n S.1 S.2.1 d_M_order_35 rfl (lv_at hl 1 rfl) ?_
      refine fk_ia S E G 108 (by decide) (congrArg (fk_ce g ov 108 (M1 108)) kd_108) j rfl (by omega) (by decide) (v := M 108 j) (by rw [ec]) d_M_order_36 ?_
      exact fk_iret S hr hlk E G hM1 (by rw [if_neg hz, nI_clamp (by omega)]) d_M_order_37
    · have hz := of_decide_eq_true (fk_bt hc2)
      refine lv_iconst (v := nI 0) S.1 S.2.1 d_M_order_27 (by decide +kernel) ?_
      refine lv_goto (tgt := 37) S.1 S.2.1 d_M_order_28 rfl ?_
      exact fk_iret S hr hlk E G hM1 (by rw [if_pos hz]) d_M_order_37
  · refine lv_iconst (v := nI 1) S.1 S.2.1 d_M_order_8 (by decide +kernel) ?_
    refine lv_goto (tgt := 13) S.1 S.2.1 d_M_order_9 rfl ?_
    have hF : (decide (M 89 23 = 0)).toNat = 1 := by rw [decide_eq_true hc1]; rfl
    rw [hF]
    refine lv_iload_n S.1 S.2.1 d_M_order_13 rfl (lv_at hl 1 rfl) ?_
    refine lv_aload_n S.1 S.2.1 d_M_order_14 rfl (lv_at hl 0 rfl) ?_
    refine fk_gf S E G 89 (by decide) (v := .int (M 89 27)) (congrArg (fk_ce g ov 89 (M 89)) kd_89) rfl 27 (by decide) rfl i_649 rfl d_M_order_15 ?_
    rw [ho]
    refine fk_csi S E G (rest := [.int (nI 1), .ref (fk_a g 89)]) (c_M_out l g ov M v o) m_M_out i_760 ⟨rfl, rfl⟩ ⟨by decide, by decide⟩ rfl rfl hl.1 (Nat.le_of_ble_eq_true rfl) d_M_order_18 ⟨Nat.zero_le _, Nat.zero_le _⟩ (fun H locs G => ?_)
    refine fk_cvi S E G 89 (by decide) (congrArg (fk_ce g ov 89 (M 89)) kd_89) rfl (rest := []) (c_M_throwing l g ov M 1 ((fk_ou v o).toNat) (by decide) (fk_bl _)) m_M_throwing i_724 ⟨rfl, rfl⟩ ⟨by decide, by decide⟩ rfl rfl hl.1 (Nat.le_of_ble_eq_true rfl) d_M_order_21 ⟨Nat.zero_le _, Nat.zero_le _⟩ (fun H locs G => ?_)
    obtain ⟨M1, hM1⟩ : ∃ z : fk_M, z = fk_th M (fk_tc 1 (fk_ou v o).toNat) := ⟨_, rfl⟩
    rw [← hM1] at G
    refine fk_zeq (tgt := 31) S.1 S.2.1 (fk_bl _) d_M_order_24 rfl (fun hc3 => ?_) (fun hc3 => ?_)
    · have hz := of_decide_eq_false (fk_bf hc3)
      obtain ⟨-, hz2⟩ := fk_tc00 hz
      obtain ⟨j, hj1, hj2⟩ := fk_ou_in (by omega) (fk_bf hz2)
      have ec : M1 108 = M 108 := by rw [hM1]; exact fk_th_ne (by decide)
      subst hj2
      refine lv_aload_n S.1 S.2.1 d_M_order_31 rfl (lv_at hl 0 rfl) ?_
      refine fk_gf S E G 89 (by decide) (v := .ref (fk_a g 108)) (congrArg (fk_ce g ov 89 (M1 89)) kd_89) rfl 26 (by decide) rfl i_648 rfl d_M_order_32 ?_
      refine lv_iload_n S.1 S.2.1 d_M_order_35 rfl (lv_at hl 1 rfl) ?_
      refine fk_ia S E G 108 (by decide) (congrArg (fk_ce g ov 108 (M1 108)) kd_108) j rfl (by omega) (by decide) (v := M 108 j) (by rw [ec]) d_M_order_36 ?_
      exact fk_iret S hr hlk E G hM1 (by rw [if_neg hz, nI_clamp (by omega)]) d_M_order_37
    · have hz := of_decide_eq_true (fk_bt hc3)
      refine lv_iconst (v := nI 0) S.1 S.2.1 d_M_order_27 (by decide +kernel) ?_
      refine lv_goto (tgt := 37) S.1 S.2.1 d_M_order_28 rfl ?_
      exact fk_iret S hr hlk E G hM1 (by rw [if_pos hz]) d_M_order_37
theorem d_M_value_0 : decode b_M_value 0 = .ok (.iload_n 1, 1) := by decide +kernel
theorem d_M_value_1 : decode b_M_value 1 = .ok (.aload_n 0, 1) := by decide +kernel
theorem d_M_value_2 : decode b_M_value 2 = .ok (.getfield 94, 3) := by decide +kernel
theorem d_M_value_5 : decode b_M_value 5 = .ok (.invokestatic 128, 3) := by decide +kernel
theorem d_M_value_8 : decode b_M_value 8 = .ok (.istore_n 2, 1) := by decide +kernel
theorem d_M_value_9 : decode b_M_value 9 = .ok (.aload_n 0, 1) := by decide +kernel
theorem d_M_value_10 : decode b_M_value 10 = .ok (.iload_n 2, 1) := by decide +kernel
theorem d_M_value_11 : decode b_M_value 11 = .ok (.iload_n 2, 1) := by decide +kernel
theorem d_M_value_12 : decode b_M_value 12 = .ok (.ifCond .ne 16, 3) := by decide +kernel
theorem d_M_value_15 : decode b_M_value 15 = .ok (.aload_n 0, 1) := by decide +kernel
theorem d_M_value_16 : decode b_M_value 16 = .ok (.getfield 26, 3) := by decide +kernel
theorem d_M_value_19 : decode b_M_value 19 = .ok (.iload_n 1, 1) := by decide +kernel
theorem d_M_value_20 : decode b_M_value 20 = .ok (.iaload, 1) := by decide +kernel
theorem d_M_value_21 : decode b_M_value 21 = .ok (.ifCond .ne 7, 3) := by decide +kernel
theorem d_M_value_24 : decode b_M_value 24 = .ok (.iconst 1, 1) := by decide +kernel
theorem d_M_value_25 : decode b_M_value 25 = .ok (.goto 4, 3) := by decide +kernel
theorem d_M_value_28 : decode b_M_value 28 = .ok (.iconst 0, 1) := by decide +kernel
theorem d_M_value_29 : decode b_M_value 29 = .ok (.invokevirtual 97, 3) := by decide +kernel
theorem d_M_value_32 : decode b_M_value 32 = .ok (.ifCond .eq 7, 3) := by decide +kernel
theorem d_M_value_35 : decode b_M_value 35 = .ok (.iconst 0, 1) := by decide +kernel
theorem d_M_value_36 : decode b_M_value 36 = .ok (.goto 9, 3) := by decide +kernel
theorem d_M_value_39 : decode b_M_value 39 = .ok (.aload_n 0, 1) := by decide +kernel
theorem d_M_value_40 : decode b_M_value 40 = .ok (.getfield 23, 3) := by decide +kernel
theorem d_M_value_43 : decode b_M_value 43 = .ok (.iload_n 1, 1) := by decide +kernel
theorem d_M_value_44 : decode b_M_value 44 = .ok (.iaload, 1) := by decide +kernel
theorem d_M_value_45 : decode b_M_value 45 = .ok (.ireturn, 1) := by decide +kernel
theorem m_M_value : fk_MI y_M_value b_M_value 3 (some .int) 1 := ⟨i_849, i_847, i_848, i_8, by decide +kernel⟩
set_option maxHeartbeats 4000000 in
set_option maxRecDepth 100000 in
theorem c_M_value (l : Launch) (g : fk_G) (ov : Int64) (M : fk_M) (v : Int32) (n : Nat) (hn : M 89 1 = nI n) (h12 : n ≤ 12) : fk_CI l y_M_value b_M_value 3 (some .int) (fk_rm 1) g ov M (fk_th M (fk_tc (fk_ou v n).toNat (decide (¬ (fk_ou v n) = true ∧ M 95 v.toNatClampNeg = 0)).toNat)) [.ref (fk_a g 89), .int v] (if 0 < fk_tc (fk_ou v n).toNat (decide (¬ (fk_ou v n) = true ∧ M 95 v.toNatClampNeg = 0)).toNat then nI 0 else M 94 v.toNatClampNeg) := by
  refine fk_ofI rfl (Nat.le_of_ble_eq_true rfl) ?_
  intro p e s m args below meth c ls S hr hlk E G hl
  have hl : lv_has ls 3 [(0, .ref (fk_a g 89)), (1, .int v)] := hl
  refine lv_iload_n S.1 S.2.1 d_M_value_0 rfl (lv_at hl 1 rfl) ?_
  refine lv_aload_n S.1 S.2.1 d_M_value_1 rfl (lv_at hl 0 rfl) ?_
  refine fk_gf S E G 89 (by decide) (v := .int (M 89 1)) (congrArg (fk_ce g ov 89 (M 89)) kd_89) rfl 1 (by decide) rfl i_623 rfl d_M_value_2 ?_
  rw [hn]
  refine fk_csi S E G (rest := []) (c_M_out l g ov M v n) m_M_out i_760 ⟨rfl, rfl⟩ ⟨by decide, by decide⟩ rfl rfl hl.1 (Nat.le_of_ble_eq_true rfl) d_M_value_5 ⟨Nat.zero_le _, Nat.zero_le _⟩ (fun H locs G => ?_)
  refine lv_istore_n (lv' := [(2, .int (nI ((fk_ou v n).toNat))), (0, .ref (fk_a g 89)), (1, .int v)]) S.1 S.2.1 d_M_value_8 rfl hl (by decide) rfl (fun ls hl => ?_)
  refine lv_aload_n S.1 S.2.1 d_M_value_9 rfl (lv_at hl 1 rfl) ?_
  refine lv_iload_n S.1 S.2.1 d_M_value_10 rfl (lv_at hl 0 rfl) ?_
  refine lv_iload_n S.1 S.2.1 d_M_value_11 rfl (lv_at hl 0 rfl) ?_
  refine fk_zne (tgt := 28) S.1 S.2.1 (fk_bl _) d_M_value_12 rfl (fun hc1 => ?_) (fun hc1 => ?_)
  · have hbt := fk_bt hc1
    refine lv_iconst (v := nI 0) S.1 S.2.1 d_M_value_28 (by decide +kernel) ?_
    have hQ : (decide (¬ (fk_ou v n) = true ∧ M 95 v.toNatClampNeg = 0)).toNat = 0 := by rw [decide_eq_false (fun q => q.1 hbt)]; rfl
    rw [hQ]
    refine fk_cvi S E G 89 (by decide) (congrArg (fk_ce g ov 89 (M 89)) kd_89) rfl (rest := []) (c_M_throwing l g ov M ((fk_ou v n).toNat) 0 (fk_bl _) (by decide)) m_M_throwing i_724 ⟨rfl, rfl⟩ ⟨by decide, by decide⟩ rfl rfl hl.1 (Nat.le_of_ble_eq_true rfl) d_M_value_29 ⟨Nat.zero_le _, Nat.zero_le _⟩ (fun H locs G => ?_)
    obtain ⟨M1, hM1⟩ : ∃ z : fk_M, z = fk_th M (fk_tc (fk_ou v n).toNat 0) := ⟨_, rfl⟩
    rw [← hM1] at G
    refine fk_zeq (tgt := 39) S.1 S.2.1 (fk_bl _) d_M_value_32 rfl (fun hc2 => ?_) (fun hc2 => ?_)
    · have hz := of_decide_eq_false (fk_bf hc2)
      have hz3 := fk_bf (fk_tc00 hz).1
      rw [hbt] at hz3
      cases hz3
    · have hz := of_decide_eq_true (fk_bt hc2)
      refine lv_iconst (v := nI 0) S.1 S.2.1 d_M_value_35 (by decide +kernel) ?_
      refine lv_goto (tgt := 45) S.1 S.2.1 d_M_value_36 rfl ?_
      exact fk_iret S hr hlk E G hM1 (by rw [if_pos hz]) d_M_value_45
  · have hbt := fk_bf hc1
    obtain ⟨j, hj1, hj2⟩ := fk_ou_in (by omega) hbt
    subst hj2
    refine lv_aload_n S.1 S.2.1 d_M_value_15 rfl (lv_at hl 1 rfl) ?_
    refine fk_gf S E G 89 (by decide) (v := .ref (fk_a g 95)) (congrArg (fk_ce g ov 89 (M 89)) kd_89) rfl 7 (by decide) rfl i_629 rfl d_M_value_16 ?_
    refine lv_iload_n S.1 S.2.1 d_M_value_19 rfl (lv_at hl 2 rfl) ?_
    refine fk_ia S E G 95 (by decide) (congrArg (fk_ce g ov 95 (M 95)) kd_95) j rfl (by omega) (by decide) (v := M 95 j) rfl d_M_value_20 ?_
    refine lv_if_ne (tgt := 28) S.1 S.2.1 d_M_value_21 rfl (fun hc3 => ?_) (fun hc3 => ?_)
    · refine lv_iconst (v := nI 0) S.1 S.2.1 d_M_value_28 (by decide +kernel) ?_
      have hQ : (decide (¬ (fk_ou (nI j) n) = true ∧ M 95 (nI j).toNatClampNeg = 0)).toNat = 0 := by rw [decide_eq_false (fun q => hc3 (by have := q.2; rw [nI_clamp (by omega)] at this; exact this))]; rfl
      rw [hQ]
      refine fk_cvi S E G 89 (by decide) (congrArg (fk_ce g ov 89 (M 89)) kd_89) rfl (rest := []) (c_M_throwing l g ov M ((fk_ou (nI j) n).toNat) 0 (fk_bl _) (by decide)) m_M_throwing i_724 ⟨rfl, rfl⟩ ⟨by decide, by decide⟩ rfl rfl hl.1 (Nat.le_of_ble_eq_true rfl) d_M_value_29 ⟨Nat.zero_le _, Nat.zero_le _⟩ (fun H locs G => ?_)
      obtain ⟨M1, hM1⟩ : ∃ z : fk_M, z = fk_th M (fk_tc (fk_ou (nI j) n).toNat 0) := ⟨_, rfl⟩
      rw [← hM1] at G
      refine fk_zeq (tgt := 39) S.1 S.2.1 (fk_bl _) d_M_value_32 rfl (fun hc4 => ?_) (fun hc4 => ?_)
      · have hz := of_decide_eq_false (fk_bf hc4)
        have ec : M1 94 = M 94 := by rw [hM1]; exact fk_th_ne (by decide)
        refine lv_aload_n S.1 S.2.1 d_M_value_39 rfl (lv_at hl 1 rfl) ?_
        refine fk_gf S E G 89 (by decide) (v := .ref (fk_a g 94)) (congrArg (fk_ce g ov 89 (M1 89)) kd_89) rfl 6 (by decide) rfl i_628 rfl d_M_value_40 ?_
        refine lv_iload_n S.1 S.2.1 d_M_value_43 rfl (lv_at hl 2 rfl) ?_
        refine fk_ia S E G 94 (by decide) (congrArg (fk_ce g ov 94 (M1 94)) kd_94) j rfl (by omega) (by decide) (v := M 94 j) (by rw [ec]) d_M_value_44 ?_
        exact fk_iret S hr hlk E G hM1 (by rw [if_neg hz, nI_clamp (by omega)]) d_M_value_45
      · have hz := of_decide_eq_true (fk_bt hc4)
        refine lv_iconst (v := nI 0) S.1 S.2.1 d_M_value_35 (by decide +kernel) ?_
        refine lv_goto (tgt := 45) S.1 S.2.1 d_M_value_36 rfl ?_
        exact fk_iret S hr hlk E G hM1 (by rw [if_pos hz]) d_M_value_45
    · refine lv_iconst (v := nI 1) S.1 S.2.1 d_M_value_24 (by decide +kernel) ?_
      refine lv_goto (tgt := 29) S.1 S.2.1 d_M_value_25 rfl ?_
      have hQ : (decide (¬ (fk_ou (nI j) n) = true ∧ M 95 (nI j).toNatClampNeg = 0)).toNat = 1 := by rw [decide_eq_true ⟨by rw [hbt]; decide, by rw [nI_clamp (by omega)]; exact hc3⟩]; rfl
      rw [hQ]
      refine fk_cvi S E G 89 (by decide) (congrArg (fk_ce g ov 89 (M 89)) kd_89) rfl (rest := []) (c_M_throwing l g ov M ((fk_ou (nI j) n).toNat) 1 (fk_bl _) (by decide)) m_M_throwing i_724 ⟨rfl, rfl⟩ ⟨by decide, by decide⟩ rfl rfl hl.1 (Nat.le_of_ble_eq_true rfl) d_M_value_29 ⟨Nat.zero_le _, Nat.zero_le _⟩ (fun H locs G => ?_)
      obtain ⟨M1, hM1⟩ : ∃ z : fk_M, z = fk_th M (fk_tc (fk_ou (nI j) n).toNat 1) := ⟨_, rfl⟩
      rw [← hM1] at G
      refine fk_zeq (tgt := 39) S.1 S.2.1 (fk_bl _) d_M_value_32 rfl (fun hc5 => ?_) (fun hc5 => ?_)
      · have hz := of_decide_eq_false (fk_bf hc5)
        have ec : M1 94 = M 94 := by rw [hM1]; exact fk_th_ne (by decide)
        refine lv_aload_n S.1 S.2.1 d_M_value_39 rfl (lv_at hl 1 rfl) ?_
        refine fk_gf S E G 89 (by decide) (v := .ref (fk_a g 94)) (congrArg (fk_ce g ov 89 (M1 89)) kd_89) rfl 6 (by decide) rfl i_628 rfl d_M_value_40 ?_
        refine lv_iload_n S.1 S.2.1 d_M_value_43 rfl (lv_at hl 2 rfl) ?_
        refine fk_ia S E G 94 (by decide) (congrArg (fk_ce g ov 94 (M1 94)) kd_94) j rfl (by omega) (by decide) (v := M 94 j) (by rw [ec]) d_M_value_44 ?_
        exact fk_iret S hr hlk E G hM1 (by rw [if_neg hz, nI_clamp (by omega)]) d_M_value_45
      · have hz := of_decide_eq_true (fk_bt hc5)
        refine lv_iconst (v := nI 0) S.1 S.2.1 d_M_value_35 (by decide +kernel) ?_
        refine lv_goto (tgt := 45) S.1 S.2.1 d_M_value_36 rfl ?_
        exact fk_iret S hr hlk E G hM1 (by rw [if_pos hz]) d_M_value_45
theorem d_M_set_0 : decode b_M_set 0 = .ok (.aload_n 0, 1) := by decide +kernel
theorem d_M_set_1 : decode b_M_set 1 = .ok (.iload_n 1, 1) := by decide +kernel
theorem d_M_set_2 : decode b_M_set 2 = .ok (.aload_n 0, 1) := by decide +kernel
theorem d_M_set_3 : decode b_M_set 3 = .ok (.getfield 94, 3) := by decide +kernel
theorem d_M_set_6 : decode b_M_set 6 = .ok (.invokestatic 128, 3) := by decide +kernel
theorem d_M_set_9 : decode b_M_set 9 = .ok (.ifCond .ne 12, 3) := by decide +kernel
theorem d_M_set_12 : decode b_M_set 12 = .ok (.aload_n 0, 1) := by decide +kernel
theorem d_M_set_13 : decode b_M_set 13 = .ok (.getfield 13, 3) := by decide +kernel
theorem d_M_set_16 : decode b_M_set 16 = .ok (.iload_n 1, 1) := by decide +kernel
theorem d_M_set_17 : decode b_M_set 17 = .ok (.baload, 1) := by decide +kernel
theorem d_M_set_18 : decode b_M_set 18 = .ok (.ifCond .ne 7, 3) := by decide +kernel
theorem d_M_set_21 : decode b_M_set 21 = .ok (.iconst 1, 1) := by decide +kernel
theorem d_M_set_22 : decode b_M_set 22 = .ok (.goto 4, 3) := by decide +kernel
theorem d_M_set_25 : decode b_M_set 25 = .ok (.iconst 0, 1) := by decide +kernel
theorem d_M_set_26 : decode b_M_set 26 = .ok (.iconst 0, 1) := by decide +kernel
theorem d_M_set_27 : decode b_M_set 27 = .ok (.invokevirtual 97, 3) := by decide +kernel
theorem d_M_set_30 : decode b_M_set 30 = .ok (.ifCond .eq 4, 3) := by decide +kernel
theorem d_M_set_33 : decode b_M_set 33 = .ok (.return_, 1) := by decide +kernel
theorem d_M_set_34 : decode b_M_set 34 = .ok (.aload_n 0, 1) := by decide +kernel
theorem d_M_set_35 : decode b_M_set 35 = .ok (.getfield 20, 3) := by decide +kernel
theorem d_M_set_38 : decode b_M_set 38 = .ok (.iload_n 1, 1) := by decide +kernel
theorem d_M_set_39 : decode b_M_set 39 = .ok (.aload_n 0, 1) := by decide +kernel
theorem d_M_set_40 : decode b_M_set 40 = .ok (.getfield 7, 3) := by decide +kernel
theorem d_M_set_43 : decode b_M_set 43 = .ok (.iload_n 1, 1) := by decide +kernel
theorem d_M_set_44 : decode b_M_set 44 = .ok (.baload, 1) := by decide +kernel
theorem d_M_set_45 : decode b_M_set 45 = .ok (.ifCond .eq 11, 3) := by decide +kernel
theorem d_M_set_48 : decode b_M_set 48 = .ok (.iload_n 2, 1) := by decide +kernel
theorem d_M_set_49 : decode b_M_set 49 = .ok (.ifCond .eq 7, 3) := by decide +kernel
theorem d_M_set_52 : decode b_M_set 52 = .ok (.iconst 1, 1) := by decide +kernel
theorem d_M_set_53 : decode b_M_set 53 = .ok (.goto 4, 3) := by decide +kernel
theorem d_M_set_56 : decode b_M_set 56 = .ok (.iload_n 2, 1) := by decide +kernel
theorem d_M_set_57 : decode b_M_set 57 = .ok (.iastore, 1) := by decide +kernel
theorem d_M_set_58 : decode b_M_set 58 = .ok (.return_, 1) := by decide +kernel
theorem m_M_set : fk_MI y_M_set b_M_set 3 none 2 := ⟨i_814, i_812, i_813, i_8, by decide +kernel⟩
set_option maxHeartbeats 4000000 in
set_option maxRecDepth 100000 in
theorem c_M_set (l : Launch) (g : fk_G) (ov : Int64) (M : fk_M) (v x : Int32) (n : Nat) (hn : M 89 1 = nI n) (h12 : n ≤ 12) : fk_CV l y_M_set b_M_set 3 (fk_rm 1) g ov M (if 0 < (decide ((fk_ou v n) = true ∨ M 91 v.toNatClampNeg = 0)).toNat then fk_th M 1 else va_up (fk_th M 0) 93 (upd (M 93) v.toNatClampNeg (if ¬ M 90 v.toNatClampNeg = 0 ∧ ¬ x = 0 then nI 1 else x))) [.ref (fk_a g 89), .int v, .int x] := by
  refine fk_ofV rfl (Nat.le_of_ble_eq_true rfl) ?_
  intro p e s m args below meth c ls S hr hlk E G hl
  have hl : lv_has ls 3 [(0, .ref (fk_a g 89)), (1, .int v), (2, .int x)] := hl
  refine lv_aload_n S.1 S.2.1 d_M_set_0 rfl (lv_at hl 0 rfl) ?_
  refine lv_iload_n S.1 S.2.1 d_M_set_1 rfl (lv_at hl 1 rfl) ?_
  refine lv_aload_n S.1 S.2.1 d_M_set_2 rfl (lv_at hl 0 rfl) ?_
  refine fk_gf S E G 89 (by decide) (v := .int (M 89 1)) (congrArg (fk_ce g ov 89 (M 89)) kd_89) rfl 1 (by decide) rfl i_623 rfl d_M_set_3 ?_
  rw [hn]
  refine fk_csi S E G (rest := [.ref (fk_a g 89)]) (c_M_out l g ov M v n) m_M_out i_760 ⟨rfl, rfl⟩ ⟨by decide, by decide⟩ rfl rfl hl.1 (Nat.le_of_ble_eq_true rfl) d_M_set_6 ⟨Nat.zero_le _, Nat.zero_le _⟩ (fun H locs G => ?_)
  refine fk_zne (tgt := 21) S.1 S.2.1 (fk_bl _) d_M_set_9 rfl (fun hc1 => ?_) (fun hc1 => ?_)
  · have hbt := fk_bt hc1
    refine lv_iconst (v := nI 1) S.1 S.2.1 d_M_set_21 (by decide +kernel) ?_
    refine lv_goto (tgt := 26) S.1 S.2.1 d_M_set_22 rfl ?_
    have hBD : (decide ((fk_ou v n) = true ∨ M 91 v.toNatClampNeg = 0)).toNat = 1 := by rw [decide_eq_true (Or.inl hbt)]; rfl
    refine lv_iconst (v := nI 0) S.1 S.2.1 d_M_set_26 (by decide +kernel) ?_
    refine fk_cvi S E G 89 (by decide) (congrArg (fk_ce g ov 89 (M 89)) kd_89) rfl (rest := []) (c_M_throwing l g ov M 1 0 (by decide) (by decide)) m_M_throwing i_724 ⟨rfl, rfl⟩ ⟨by decide, by decide⟩ rfl rfl hl.1 (Nat.le_of_ble_eq_true rfl) d_M_set_27 ⟨Nat.zero_le _, Nat.zero_le _⟩ (fun H locs G => ?_)
    change fk_H g ov (fk_th M 1) s H locs at G
    refine fk_zeq (tgt := 34) S.1 S.2.1 (fk_bl _) d_M_set_30 rfl (fun hc2 => ?_) (fun hc2 => ?_)
    · exact absurd hc2 (by decide)
    · exact fk_vret S hr hlk E G (by rw [hBD, if_pos (by decide)]) d_M_set_33
  · have hbt := fk_bf hc1
    obtain ⟨j, hj1, hj2⟩ := fk_ou_in (by omega) hbt
    have hcl : v.toNatClampNeg = j := by rw [hj2, nI_clamp (by omega)]
    rw [hcl]
    subst hj2
    refine lv_aload_n S.1 S.2.1 d_M_set_12 rfl (lv_at hl 0 rfl) ?_
    refine fk_gf S E G 89 (by decide) (v := .ref (fk_a g 91)) (congrArg (fk_ce g ov 89 (M 89)) kd_89) rfl 3 (by decide) rfl i_625 rfl d_M_set_13 ?_
    refine lv_iload_n S.1 S.2.1 d_M_set_16 rfl (lv_at hl 1 rfl) ?_
    refine fk_za S E G 91 (by decide) (congrArg (fk_ce g ov 91 (M 91)) kd_91) j rfl (by omega) (by decide) (v := M 91 j) rfl d_M_set_17 ?_
    refine lv_if_ne (tgt := 25) S.1 S.2.1 d_M_set_18 rfl (fun hc3 => ?_) (fun hc3 => ?_)
    · have hBD : (decide ((fk_ou (nI j) n) = true ∨ M 91 j = 0)).toNat = 0 := by rw [decide_eq_false (fun q => q.elim (fun q => by rw [hbt] at q; cases q) hc3)]; rfl
      refine lv_iconst (v := nI 0) S.1 S.2.1 d_M_set_25 (by decide +kernel) ?_
      refine lv_iconst (v := nI 0) S.1 S.2.1 d_M_set_26 (by decide +kernel) ?_
      refine fk_cvi S E G 89 (by decide) (congrArg (fk_ce g ov 89 (M 89)) kd_89) rfl (rest := []) (c_M_throwing l g ov M 0 0 (by decide) (by decide)) m_M_throwing i_724 ⟨rfl, rfl⟩ ⟨by decide, by decide⟩ rfl rfl hl.1 (Nat.le_of_ble_eq_true rfl) d_M_set_27 ⟨Nat.zero_le _, Nat.zero_le _⟩ (fun H locs G => ?_)
      change fk_H g ov (fk_th M 0) s H locs at G
      obtain ⟨M1, hM1⟩ : ∃ z : fk_M, z = fk_th M 0 := ⟨_, rfl⟩
      rw [← hM1] at G
      refine fk_zeq (tgt := 34) S.1 S.2.1 (fk_bl _) d_M_set_30 rfl (fun hc4 => ?_) (fun hc4 => ?_)
      · have e93 : M1 93 = M 93 := by rw [hM1]; exact fk_th_ne (by decide)
        have e90 : M1 90 = M 90 := by rw [hM1]; exact fk_th_ne (by decide)
        refine lv_aload_n S.1 S.2.1 d_M_set_34 rfl (lv_at hl 0 rfl) ?_
        refine fk_gf S E G 89 (by decide) (v := .ref (fk_a g 93)) (congrArg (fk_ce g ov 89 (M1 89)) kd_89) rfl 5 (by decide) rfl i_627 rfl d_M_set_35 ?_
        refine lv_iload_n S.1 S.2.1 d_M_set_38 rfl (lv_at hl 1 rfl) ?_
        refine lv_aload_n S.1 S.2.1 d_M_set_39 rfl (lv_at hl 0 rfl) ?_
        refine fk_gf S E G 89 (by decide) (v := .ref (fk_a g 90)) (congrArg (fk_ce g ov 89 (M1 89)) kd_89) rfl 2 (by decide) rfl i_624 rfl d_M_set_40 ?_
        refine lv_iload_n S.1 S.2.1 d_M_set_43 rfl (lv_at hl 1 rfl) ?_
        refine fk_za S E G 90 (by decide) (congrArg (fk_ce g ov 90 (M1 90)) kd_90) j rfl (by omega) (by decide) (v := M 90 j) (by rw [e90]) d_M_set_44 ?_
        refine lv_if_eq (tgt := 56) S.1 S.2.1 d_M_set_45 rfl (fun hc5 => ?_) (fun hc5 => ?_)
        · refine lv_iload_n S.1 S.2.1 d_M_set_56 rfl (lv_at hl 2 rfl) ?_
          refine fk_is S E G 93 (by decide) (fun r => congrArg (fk_ce g ov 93 r) kd_93) j rfl (by omega) (by decide) d_M_set_57 (fun H locs G => ?_)
          obtain ⟨M6, hM6⟩ : ∃ z : fk_M, z = va_up M1 93 (upd (M1 93) j x) := ⟨_, rfl⟩
          rw [← hM6] at G
          exact fk_vret S hr hlk E G (by rw [hBD, if_neg (by decide), hM6, e93, hM1, if_neg (fun q => q.1 hc5)]) d_M_set_58
        · refine lv_iload_n S.1 S.2.1 d_M_set_48 rfl (lv_at hl 2 rfl) ?_
          refine lv_if_eq (tgt := 56) S.1 S.2.1 d_M_set_49 rfl (fun hc7 => ?_) (fun hc7 => ?_)
          · refine lv_iload_n S.1 S.2.1 d_M_set_56 rfl (lv_at hl 2 rfl) ?_
            refine fk_is S E G 93 (by decide) (fun r => congrArg (fk_ce g ov 93 r) kd_93) j rfl (by omega) (by decide) d_M_set_57 (fun H locs G => ?_)
            obtain ⟨M8, hM8⟩ : ∃ z : fk_M, z = va_up M1 93 (upd (M1 93) j x) := ⟨_, rfl⟩
            rw [← hM8] at G
            exact fk_vret S hr hlk E G (by rw [hBD, if_neg (by decide), hM8, e93, hM1, if_neg (fun q => q.2 hc7)]) d_M_set_58
          · refine lv_iconst (v := nI 1) S.1 S.2.1 d_M_set_52 (by decide +kernel) ?_
            refine lv_goto (tgt := 57) S.1 S.2.1 d_M_set_53 rfl ?_
            refine fk_is S E G 93 (by decide) (fun r => congrArg (fk_ce g ov 93 r) kd_93) j rfl (by omega) (by decide) d_M_set_57 (fun H locs G => ?_)
            obtain ⟨M9, hM9⟩ : ∃ z : fk_M, z = va_up M1 93 (upd (M1 93) j (nI 1)) := ⟨_, rfl⟩
            rw [← hM9] at G
            exact fk_vret S hr hlk E G (by rw [hBD, if_neg (by decide), hM9, e93, hM1, if_pos ⟨hc5, hc7⟩]) d_M_set_58
      · exact absurd hc4 (by decide)
    · refine lv_iconst (v := nI 1) S.1 S.2.1 d_M_set_21 (by decide +kernel) ?_
      refine lv_goto (tgt := 26) S.1 S.2.1 d_M_set_22 rfl ?_
      have hBD : (decide ((fk_ou (nI j) n) = true ∨ M 91 j = 0)).toNat = 1 := by rw [decide_eq_true (Or.inr hc3)]; rfl
      refine lv_iconst (v := nI 0) S.1 S.2.1 d_M_set_26 (by decide +kernel) ?_
      refine fk_cvi S E G 89 (by decide) (congrArg (fk_ce g ov 89 (M 89)) kd_89) rfl (rest := []) (c_M_throwing l g ov M 1 0 (by decide) (by decide)) m_M_throwing i_724 ⟨rfl, rfl⟩ ⟨by decide, by decide⟩ rfl rfl hl.1 (Nat.le_of_ble_eq_true rfl) d_M_set_27 ⟨Nat.zero_le _, Nat.zero_le _⟩ (fun H locs G => ?_)
      change fk_H g ov (fk_th M 1) s H locs at G
      refine fk_zeq (tgt := 34) S.1 S.2.1 (fk_bl _) d_M_set_30 rfl (fun hc10 => ?_) (fun hc10 => ?_)
      · exact absurd hc10 (by decide)
      · exact fk_vret S hr hlk E G (by rw [hBD, if_pos (by decide)]) d_M_set_33
end
section
/-! The reference: flow, type. Written by wip/gen/s_mod3.py. -/
theorem i_740 : (Cond.constantLong "FlowDeskModel" (107 : Nat) (255 : Int64)) ∈ fk_ALL := fk_mt (List.mem_of_getElem? (i := 740) (by decide +kernel)) (by decide +kernel)
theorem fk_ma_s {M : fk_M} {t : Nat} (h : t ≠ 22 ∧ t ≠ 23 ∧ t ≠ 24 ∧ t ≠ 25) : fk_ma M 89 t = M 89 t := by
  unfold fk_ma fk_mr fk_m2 fk_m1
  rw [va_up_ne _ _ (by decide), va_up_ne _ _ (by decide), va_up_ne _ _ (by decide), va_up_ne _ _ (by decide), va_up_ne _ _ (by decide), va_up_self, pk_un h.1, va_up_self, pk_un h.2.2.2, pk_un h.2.2.1, pk_un h.2.1]
/-- a flow more -/
def fk_mf (M : fk_M) (n : Nat) (vb v vi : Int32) : fk_M := fk_ma (va_up (va_up (va_up (va_up (fk_th M 0) 90 (upd (M 90) n vb)) 92 (upd (M 92) n v)) 91 (upd (M 91) n vi)) 89 (upd (fk_th M 0 89) 1 (nI (n + 1))))
/-- a byte of a row -/
def fk_yb (w : Int64) (k : Nat) : Int32 := ((w >>> ((nI (8 * k)).toInt64 &&& 63)) &&& 255).toInt32
def fk_mty (w : Int64) : Nat → Nat → fk_M → fk_M
  | 0, _, M => M
  | k + 1, dl, M => fk_mty w k (dl + 1) (va_up (va_up M 106 (upd (M 106) dl (fk_yb w k))) 89 (upd (M 89) 19 (nI (dl + 1))))
theorem d_M_flow_0 : decode b_M_flow 0 = .ok (.iload_n 2, 1) := by decide +kernel
theorem d_M_flow_1 : decode b_M_flow 1 = .ok (.ifCond .le 11, 3) := by decide +kernel
theorem d_M_flow_4 : decode b_M_flow 4 = .ok (.iload_n 2, 1) := by decide +kernel
theorem d_M_flow_5 : decode b_M_flow 5 = .ok (.iconst 1, 1) := by decide +kernel
theorem d_M_flow_6 : decode b_M_flow 6 = .ok (.isub, 1) := by decide +kernel
theorem d_M_flow_7 : decode b_M_flow 7 = .ok (.iconst 2, 1) := by decide +kernel
theorem d_M_flow_8 : decode b_M_flow 8 = .ok (.idiv, 1) := by decide +kernel
theorem d_M_flow_9 : decode b_M_flow 9 = .ok (.goto 4, 3) := by decide +kernel
theorem d_M_flow_12 : decode b_M_flow 12 = .ok (.iconst (-1), 1) := by decide +kernel
theorem d_M_flow_13 : decode b_M_flow 13 = .ok (.istore 4, 2) := by decide +kernel
theorem d_M_flow_15 : decode b_M_flow 15 = .ok (.iload_n 2, 1) := by decide +kernel
theorem d_M_flow_16 : decode b_M_flow 16 = .ok (.ifCond .lt 27, 3) := by decide +kernel
theorem d_M_flow_19 : decode b_M_flow 19 = .ok (.iload 4, 2) := by decide +kernel
theorem d_M_flow_21 : decode b_M_flow 21 = .ok (.aload_n 0, 1) := by decide +kernel
theorem d_M_flow_22 : decode b_M_flow 22 = .ok (.getfield 94, 3) := by decide +kernel
theorem d_M_flow_25 : decode b_M_flow 25 = .ok (.if_icmp .ge 18, 3) := by decide +kernel
theorem d_M_flow_28 : decode b_M_flow 28 = .ok (.iload 4, 2) := by decide +kernel
theorem d_M_flow_30 : decode b_M_flow 30 = .ok (.ifCond .lt 17, 3) := by decide +kernel
theorem d_M_flow_33 : decode b_M_flow 33 = .ok (.aload_n 0, 1) := by decide +kernel
theorem d_M_flow_34 : decode b_M_flow 34 = .ok (.getfield 7, 3) := by decide +kernel
theorem d_M_flow_37 : decode b_M_flow 37 = .ok (.iload 4, 2) := by decide +kernel
theorem d_M_flow_39 : decode b_M_flow 39 = .ok (.baload, 1) := by decide +kernel
theorem d_M_flow_40 : decode b_M_flow 40 = .ok (.ifCond .ne 7, 3) := by decide +kernel
theorem d_M_flow_43 : decode b_M_flow 43 = .ok (.iconst 1, 1) := by decide +kernel
theorem d_M_flow_44 : decode b_M_flow 44 = .ok (.goto 4, 3) := by decide +kernel
theorem d_M_flow_47 : decode b_M_flow 47 = .ok (.iconst 0, 1) := by decide +kernel
theorem d_M_flow_48 : decode b_M_flow 48 = .ok (.istore 5, 2) := by decide +kernel
theorem d_M_flow_50 : decode b_M_flow 50 = .ok (.aload_n 0, 1) := by decide +kernel
theorem d_M_flow_51 : decode b_M_flow 51 = .ok (.iload 5, 2) := by decide +kernel
theorem d_M_flow_53 : decode b_M_flow 53 = .ok (.iload 5, 2) := by decide +kernel
theorem d_M_flow_55 : decode b_M_flow 55 = .ok (.ifCond .ne 16, 3) := by decide +kernel
theorem d_M_flow_58 : decode b_M_flow 58 = .ok (.aload_n 0, 1) := by decide +kernel
theorem d_M_flow_59 : decode b_M_flow 59 = .ok (.getfield 94, 3) := by decide +kernel
theorem d_M_flow_62 : decode b_M_flow 62 = .ok (.bipush 12, 2) := by decide +kernel
theorem d_M_flow_64 : decode b_M_flow 64 = .ok (.if_icmp .ne 7, 3) := by decide +kernel
theorem d_M_flow_67 : decode b_M_flow 67 = .ok (.iconst 1, 1) := by decide +kernel
theorem d_M_flow_68 : decode b_M_flow 68 = .ok (.goto 4, 3) := by decide +kernel
theorem d_M_flow_71 : decode b_M_flow 71 = .ok (.iconst 0, 1) := by decide +kernel
theorem d_M_flow_72 : decode b_M_flow 72 = .ok (.invokevirtual 97, 3) := by decide +kernel
theorem d_M_flow_75 : decode b_M_flow 75 = .ok (.ifCond .eq 5, 3) := by decide +kernel
theorem d_M_flow_78 : decode b_M_flow 78 = .ok (.iconst 0, 1) := by decide +kernel
theorem d_M_flow_79 : decode b_M_flow 79 = .ok (.ireturn, 1) := by decide +kernel
theorem d_M_flow_80 : decode b_M_flow 80 = .ok (.aload_n 0, 1) := by decide +kernel
theorem d_M_flow_81 : decode b_M_flow 81 = .ok (.getfield 7, 3) := by decide +kernel
theorem d_M_flow_84 : decode b_M_flow 84 = .ok (.aload_n 0, 1) := by decide +kernel
theorem d_M_flow_85 : decode b_M_flow 85 = .ok (.getfield 94, 3) := by decide +kernel
theorem d_M_flow_88 : decode b_M_flow 88 = .ok (.iload_n 1, 1) := by decide +kernel
theorem d_M_flow_89 : decode b_M_flow 89 = .ok (.bastore, 1) := by decide +kernel
theorem d_M_flow_90 : decode b_M_flow 90 = .ok (.aload_n 0, 1) := by decide +kernel
theorem d_M_flow_91 : decode b_M_flow 91 = .ok (.getfield 16, 3) := by decide +kernel
theorem d_M_flow_94 : decode b_M_flow 94 = .ok (.aload_n 0, 1) := by decide +kernel
theorem d_M_flow_95 : decode b_M_flow 95 = .ok (.getfield 94, 3) := by decide +kernel
theorem d_M_flow_98 : decode b_M_flow 98 = .ok (.iload_n 2, 1) := by decide +kernel
theorem d_M_flow_99 : decode b_M_flow 99 = .ok (.iastore, 1) := by decide +kernel
theorem d_M_flow_100 : decode b_M_flow 100 = .ok (.aload_n 0, 1) := by decide +kernel
theorem d_M_flow_101 : decode b_M_flow 101 = .ok (.getfield 13, 3) := by decide +kernel
theorem d_M_flow_104 : decode b_M_flow 104 = .ok (.aload_n 0, 1) := by decide +kernel
theorem d_M_flow_105 : decode b_M_flow 105 = .ok (.getfield 94, 3) := by decide +kernel
theorem d_M_flow_108 : decode b_M_flow 108 = .ok (.iload_n 3, 1) := by decide +kernel
theorem d_M_flow_109 : decode b_M_flow 109 = .ok (.bastore, 1) := by decide +kernel
theorem d_M_flow_110 : decode b_M_flow 110 = .ok (.aload_n 0, 1) := by decide +kernel
theorem d_M_flow_111 : decode b_M_flow 111 = .ok (.dup, 1) := by decide +kernel
theorem d_M_flow_112 : decode b_M_flow 112 = .ok (.getfield 94, 3) := by decide +kernel
theorem d_M_flow_115 : decode b_M_flow 115 = .ok (.iconst 1, 1) := by decide +kernel
theorem d_M_flow_116 : decode b_M_flow 116 = .ok (.iadd, 1) := by decide +kernel
theorem d_M_flow_117 : decode b_M_flow 117 = .ok (.putfield 94, 3) := by decide +kernel
theorem d_M_flow_120 : decode b_M_flow 120 = .ok (.aload_n 0, 1) := by decide +kernel
theorem d_M_flow_121 : decode b_M_flow 121 = .ok (.invokevirtual 101, 3) := by decide +kernel
theorem d_M_flow_124 : decode b_M_flow 124 = .ok (.aload_n 0, 1) := by decide +kernel
theorem d_M_flow_125 : decode b_M_flow 125 = .ok (.getfield 94, 3) := by decide +kernel
theorem d_M_flow_128 : decode b_M_flow 128 = .ok (.iconst 1, 1) := by decide +kernel
theorem d_M_flow_129 : decode b_M_flow 129 = .ok (.isub, 1) := by decide +kernel
theorem d_M_flow_130 : decode b_M_flow 130 = .ok (.ireturn, 1) := by decide +kernel
theorem m_M_flow : fk_MI y_M_flow b_M_flow 6 (some .int) 3 := ⟨i_723, i_721, i_722, i_8, by decide +kernel⟩
set_option maxHeartbeats 4000000 in
set_option maxRecDepth 100000 in
theorem c_M_flow (l : Launch) (g : fk_G) (ov : Int64) (M : fk_M) (n : Nat) (hn : M 89 1 = nI n) (h12 : n ≤ 12) (vb v vi : Int32) (hvb : vb = 0 ∨ vb = 1) (hvi : vi = 0 ∨ vi = 1) (bd : Bool) (hbd : (v < 0 ∧ bd = true) ∨ (v = 0 ∧ bd = false) ∨ ∃ ck, 0 < ck ∧ ck < 2 ^ 31 ∧ v = nI ck ∧ bd = decide (n ≤ (ck - 1) / 2 ∨ M 90 ((ck - 1) / 2) = 0)) : fk_CI l y_M_flow b_M_flow 6 (some .int) (fk_rm 2) g ov M (if 0 < fk_tc bd.toNat (decide (bd = false ∧ n = 12)).toNat then fk_th M (fk_tc bd.toNat (decide (bd = false ∧ n = 12)).toNat) else fk_mf M n vb v vi) [.ref (fk_a g 89), .int vb, .int v, .int vi] (if 0 < fk_tc bd.toNat (decide (bd = false ∧ n = 12)).toNat then nI 0 else nI n) := by
  refine fk_ofI rfl (Nat.le_of_ble_eq_true rfl) ?_
  intro p e s m args below meth c ls S hr hlk E G hl
  have hl : lv_has ls 6 [(0, .ref (fk_a g 89)), (1, .int vb), (2, .int v), (3, .int vi)] := hl
  have tail : ∀ (vx : Int32) (H : Heap) (locs : List Loc) (ls : Array Slot), fk_H g ov (M) s H locs → lv_has ls 6 [(5, .int (nI bd.toNat)), (4, .int vx), (0, .ref (fk_a g 89)), (1, .int vb), (2, .int v), (3, .int vi)] → W p l e (fk_rm (2)) s m args below meth c H locs 0 0 (MQ below (va_Qi (fun rr (_ : Unit) => rr = (if 0 < fk_tc bd.toNat (decide (bd = false ∧ n = 12)).toNat then nI 0 else nI n)) (fun _ t9 => fk_Wd g ov (if 0 < fk_tc bd.toNat (decide (bd = false ∧ n = 12)).toNat then fk_th M (fk_tc bd.toNat (decide (bd = false ∧ n = 12)).toNat) else fk_mf M n vb v vi) t9) (fk_A g)) args s 0 0 (fk_A g)) (F0 m 50 ls []) := by
    intro vx H locs ls  G hl
    refine lv_aload_n S.1 S.2.1 d_M_flow_50 rfl (lv_at hl 2 rfl) ?_
    refine lv_iload S.1 S.2.1 d_M_flow_51 (lv_at hl 0 rfl) ?_
    refine lv_iload S.1 S.2.1 d_M_flow_53 (lv_at hl 0 rfl) ?_
    refine fk_zne (tgt := 71) S.1 S.2.1 (fk_bl _) d_M_flow_55 rfl (fun hc1 => ?_) (fun hc1 => ?_)
    · have hb1 := fk_bt hc1
      have hlt9 : bd = false → ¬ n = 12 := fun q => by rw [hb1] at q; cases q
      refine lv_iconst (v := nI 0) S.1 S.2.1 d_M_flow_71 (by decide +kernel) ?_
      have hCD : fk_tc bd.toNat (decide (bd = false ∧ n = 12)).toNat = fk_tc bd.toNat 0 := by rw [decide_eq_false (fun q => by have := q.1; rw [hb1] at this; cases this)]; rfl
      rw [hCD]
      refine fk_cvi S E G 89 (by decide) (congrArg (fk_ce g ov 89 (M 89)) kd_89) rfl (rest := []) (c_M_throwing l g ov M bd.toNat 0 (fk_bl _) (by decide)) m_M_throwing i_724 ⟨rfl, rfl⟩ ⟨by decide, by decide⟩ rfl rfl hl.1 (Nat.le_of_ble_eq_true rfl) d_M_flow_72 ⟨Nat.zero_le _, Nat.zero_le _⟩ (fun H locs G => ?_)
      refine fk_zeq (tgt := 80) S.1 S.2.1 (fk_bl _) d_M_flow_75 rfl (fun hc2 => ?_) (fun hc2 => ?_)
      · have hz := of_decide_eq_false (fk_bf hc2)
        have hz2 : fk_tc bd.toNat 0 = 0 := by omega
        rw [hz2] at G
        obtain ⟨M1, hM1⟩ : ∃ z : fk_M, z = fk_th M 0 := ⟨_, rfl⟩
        rw [← hM1] at G
        have e : ∀ k, k ≠ 89 → M1 k = M k := fun k hk => by rw [hM1]; exact fk_th_ne hk
        have e1 : M1 89 1 = nI n := by rw [hM1, fk_th_s (by decide)]; exact hn
        have hn12 : n < 12 := by by_cases h9 : n = 12; exact absurd h9 (hlt9 (fk_bf (fk_tc00 hz).1)); omega
        refine lv_aload_n S.1 S.2.1 d_M_flow_80 rfl (lv_at hl 2 rfl) ?_
        refine fk_gf S E G 89 (by decide) (v := .ref (fk_a g 90)) (congrArg (fk_ce g ov 89 (M1 89)) kd_89) rfl 2 (by decide) rfl i_624 rfl d_M_flow_81 ?_
        refine lv_aload_n S.1 S.2.1 d_M_flow_84 rfl (lv_at hl 2 rfl) ?_
        refine fk_gf S E G 89 (by decide) (v := .int (M1 89 1)) (congrArg (fk_ce g ov 89 (M1 89)) kd_89) rfl 1 (by decide) rfl i_623 rfl d_M_flow_85 ?_
        rw [e1]
        refine lv_iload_n S.1 S.2.1 d_M_flow_88 rfl (lv_at hl 3 rfl) ?_
        refine fk_zs S E G 90 (by decide) (fun r => congrArg (fk_ce g ov 90 r) kd_90) n rfl (by omega) (by decide) hvb d_M_flow_89 (fun H locs G => ?_)
        obtain ⟨M3, hM3⟩ : ∃ z : fk_M, z = va_up M1 90 (upd (M1 90) n vb) := ⟨_, rfl⟩
        rw [← hM3] at G
        have f1 : M3 89 = M1 89 := by rw [hM3, va_up_ne _ _ (by decide)]
        refine lv_aload_n S.1 S.2.1 d_M_flow_90 rfl (lv_at hl 2 rfl) ?_
        refine fk_gf S E G 89 (by decide) (v := .ref (fk_a g 92)) (congrArg (fk_ce g ov 89 (M3 89)) kd_89) rfl 4 (by decide) rfl i_626 rfl d_M_flow_91 ?_
        refine lv_aload_n S.1 S.2.1 d_M_flow_94 rfl (lv_at hl 2 rfl) ?_
        refine fk_gf S E G 89 (by decide) (v := .int (M3 89 1)) (congrArg (fk_ce g ov 89 (M3 89)) kd_89) rfl 1 (by decide) rfl i_623 rfl d_M_flow_95 ?_
        rw [f1, e1]
        refine lv_iload_n S.1 S.2.1 d_M_flow_98 rfl (lv_at hl 4 rfl) ?_
        refine fk_is S E G 92 (by decide) (fun r => congrArg (fk_ce g ov 92 r) kd_92) n rfl (by omega) (by decide) d_M_flow_99 (fun H locs G => ?_)
        obtain ⟨M4, hM4⟩ : ∃ z : fk_M, z = va_up M3 92 (upd (M3 92) n v) := ⟨_, rfl⟩
        rw [← hM4] at G
        have f2 : M4 89 = M1 89 := by rw [hM4, va_up_ne _ _ (by decide), f1]
        refine lv_aload_n S.1 S.2.1 d_M_flow_100 rfl (lv_at hl 2 rfl) ?_
        refine fk_gf S E G 89 (by decide) (v := .ref (fk_a g 91)) (congrArg (fk_ce g ov 89 (M4 89)) kd_89) rfl 3 (by decide) rfl i_625 rfl d_M_flow_101 ?_
        refine lv_aload_n S.1 S.2.1 d_M_flow_104 rfl (lv_at hl 2 rfl) ?_
        refine fk_gf S E G 89 (by decide) (v := .int (M4 89 1)) (congrArg (fk_ce g ov 89 (M4 89)) kd_89) rfl 1 (by decide) rfl i_623 rfl d_M_flow_105 ?_
        rw [f2, e1]
        refine lv_iload_n S.1 S.2.1 d_M_flow_108 rfl (lv_at hl 5 rfl) ?_
        refine fk_zs S E G 91 (by decide) (fun r => congrArg (fk_ce g ov 91 r) kd_91) n rfl (by omega) (by decide) hvi d_M_flow_109 (fun H locs G => ?_)
        obtain ⟨M5, hM5⟩ : ∃ z : fk_M, z = va_up M4 91 (upd (M4 91) n vi) := ⟨_, rfl⟩
        rw [← hM5] at G
        have f3 : M5 89 = M1 89 := by rw [hM5, va_up_ne _ _ (by decide), f2]
        refine lv_aload_n S.1 S.2.1 d_M_flow_110 rfl (lv_at hl 2 rfl) ?_
        refine lv_dup S.1 S.2.1 d_M_flow_111 rfl ?_
        refine fk_gf S E G 89 (by decide) (v := .int (M5 89 1)) (congrArg (fk_ce g ov 89 (M5 89)) kd_89) rfl 1 (by decide) rfl i_623 rfl d_M_flow_112 ?_
        rw [f3, e1]
        refine lv_iconst (v := nI 1) S.1 S.2.1 d_M_flow_115 (by decide +kernel) ?_
        refine fk_iadd S.1 S.2.1 d_M_flow_116 ?_
        refine fk_pf S E G 89 (by decide) (congrArg (fk_ce g ov 89 (M5 89)) kd_89) rfl 1 (by decide) rfl i_623 (upd (M5 89) 1 (nI (n + 1))) (congrArg (fk_ce g ov 89 (upd (M5 89) 1 (nI (n + 1)))) kd_89) rfl (ty := (.int)) (by decide +kernel) rfl rfl (Nat.le_of_ble_eq_true rfl) d_M_flow_117 (fun H locs G => ?_)
        obtain ⟨M6, hM6⟩ : ∃ z : fk_M, z = va_up M5 89 (upd (M5 89) 1 (nI (n + 1))) := ⟨_, rfl⟩
        rw [← hM6] at G
        refine lv_aload_n S.1 S.2.1 d_M_flow_120 rfl (lv_at hl 2 rfl) ?_
        refine fk_cvv S E G 89 (by decide) (congrArg (fk_ce g ov 89 (M6 89)) kd_89) rfl (rest := []) (c_M_again l g ov M6) m_M_again i_728 ⟨rfl, rfl⟩ ⟨by decide, by decide⟩ rfl rfl hl.1 (Nat.le_of_ble_eq_true rfl) d_M_flow_121 ⟨Nat.zero_le _, Nat.zero_le _⟩ (fun H locs G => ?_)
        have hM5 : M6 = va_up (va_up (va_up (va_up (fk_th M 0) 90 (upd (M 90) n vb)) 92 (upd (M 92) n v)) 91 (upd (M 91) n vi)) 89 (upd (fk_th M 0 89) 1 (nI (n + 1))) := by
          rw [hM6, f3, hM5, hM4, hM3, va_up_ne _ _ (show (91 : Nat) ≠ 92 by decide), va_up_ne _ _ (show (91 : Nat) ≠ 90 by decide), va_up_ne _ _ (show (92 : Nat) ≠ 90 by decide), e 90 (by decide), e 91 (by decide), e 92 (by decide), hM1]
        have g1 : fk_ma M6 89 1 = nI (n + 1) := by rw [fk_ma_s (by decide), hM6, va_up_self, pk_us]
        obtain ⟨M6, hM6⟩ : ∃ z : fk_M, z = fk_ma M6 := ⟨_, rfl⟩
        rw [← hM6] at G
        rw [← hM6] at g1
        refine lv_aload_n S.1 S.2.1 d_M_flow_124 rfl (lv_at hl 2 rfl) ?_
        refine fk_gf S E G 89 (by decide) (v := .int (M6 89 1)) (congrArg (fk_ce g ov 89 (M6 89)) kd_89) rfl 1 (by decide) rfl i_623 rfl d_M_flow_125 ?_
        rw [g1]
        refine lv_iconst (v := nI 1) S.1 S.2.1 d_M_flow_128 (by decide +kernel) ?_
        refine fk_isub S.1 S.2.1 (by omega) d_M_flow_129 ?_
        exact fk_iret S hr hlk E G (by rw [if_neg hz, hM6, hM5]; rfl) (by rw [if_neg hz, Nat.add_sub_cancel]) d_M_flow_130
      · have hz := of_decide_eq_true (fk_bt hc2)
        refine lv_iconst (v := nI 0) S.1 S.2.1 d_M_flow_78 (by decide +kernel) ?_
        exact fk_iret S hr hlk E G (by rw [if_pos hz]) (by rw [if_pos hz]) d_M_flow_79
    · have hb1 := fk_bf (b := bd) hc1
      refine lv_aload_n S.1 S.2.1 d_M_flow_58 rfl (lv_at hl 2 rfl) ?_
      refine fk_gf S E G 89 (by decide) (v := .int (M 89 1)) (congrArg (fk_ce g ov 89 (M 89)) kd_89) rfl 1 (by decide) rfl i_623 rfl d_M_flow_59 ?_
      rw [hn]
      refine lv_bipush (v := nI 12) S.1 S.2.1 d_M_flow_62 (by decide +kernel) ?_
      refine fk_cne (tgt := 71) S.1 S.2.1 (by omega) (by omega) d_M_flow_64 rfl (fun hc7 => ?_) (fun hc7 => ?_)
      · have hlt9 : bd = false → ¬ n = 12 := fun _ => hc7
        refine lv_iconst (v := nI 0) S.1 S.2.1 d_M_flow_71 (by decide +kernel) ?_
        have hCD : fk_tc bd.toNat (decide (bd = false ∧ n = 12)).toNat = fk_tc bd.toNat 0 := by rw [decide_eq_false (fun q => hc7 q.2)]; rfl
        rw [hCD]
        refine fk_cvi S E G 89 (by decide) (congrArg (fk_ce g ov 89 (M 89)) kd_89) rfl (rest := []) (c_M_throwing l g ov M bd.toNat 0 (fk_bl _) (by decide)) m_M_throwing i_724 ⟨rfl, rfl⟩ ⟨by decide, by decide⟩ rfl rfl hl.1 (Nat.le_of_ble_eq_true rfl) d_M_flow_72 ⟨Nat.zero_le _, Nat.zero_le _⟩ (fun H locs G => ?_)
        refine fk_zeq (tgt := 80) S.1 S.2.1 (fk_bl _) d_M_flow_75 rfl (fun hc8 => ?_) (fun hc8 => ?_)
        · have hz := of_decide_eq_false (fk_bf hc8)
          have hz2 : fk_tc bd.toNat 0 = 0 := by omega
          rw [hz2] at G
          obtain ⟨M1, hM1⟩ : ∃ z : fk_M, z = fk_th M 0 := ⟨_, rfl⟩
          rw [← hM1] at G
          have e : ∀ k, k ≠ 89 → M1 k = M k := fun k hk => by rw [hM1]; exact fk_th_ne hk
          have e1 : M1 89 1 = nI n := by rw [hM1, fk_th_s (by decide)]; exact hn
          have hn12 : n < 12 := by by_cases h9 : n = 12; exact absurd h9 (hlt9 (fk_bf (fk_tc00 hz).1)); omega
          refine lv_aload_n S.1 S.2.1 d_M_flow_80 rfl (lv_at hl 2 rfl) ?_
          refine fk_gf S E G 89 (by decide) (v := .ref (fk_a g 90)) (congrArg (fk_ce g ov 89 (M1 89)) kd_89) rfl 2 (by decide) rfl i_624 rfl d_M_flow_81 ?_
          refine lv_aload_n S.1 S.2.1 d_M_flow_84 rfl (lv_at hl 2 rfl) ?_
          refine fk_gf S E G 89 (by decide) (v := .int (M1 89 1)) (congrArg (fk_ce g ov 89 (M1 89)) kd_89) rfl 1 (by decide) rfl i_623 rfl d_M_flow_85 ?_
          rw [e1]
          refine lv_iload_n S.1 S.2.1 d_M_flow_88 rfl (lv_at hl 3 rfl) ?_
          refine fk_zs S E G 90 (by decide) (fun r => congrArg (fk_ce g ov 90 r) kd_90) n rfl (by omega) (by decide) hvb d_M_flow_89 (fun H locs G => ?_)
          obtain ⟨M9, hM9⟩ : ∃ z : fk_M, z = va_up M1 90 (upd (M1 90) n vb) := ⟨_, rfl⟩
          rw [← hM9] at G
          have f1 : M9 89 = M1 89 := by rw [hM9, va_up_ne _ _ (by decide)]
          refine lv_aload_n S.1 S.2.1 d_M_flow_90 rfl (lv_at hl 2 rfl) ?_
          refine fk_gf S E G 89 (by decide) (v := .ref (fk_a g 92)) (congrArg (fk_ce g ov 89 (M9 89)) kd_89) rfl 4 (by decide) rfl i_626 rfl d_M_flow_91 ?_
          refine lv_aload_n S.1 S.2.1 d_M_flow_94 rfl (lv_at hl 2 rfl) ?_
          refine fk_gf S E G 89 (by decide) (v := .int (M9 89 1)) (congrArg (fk_ce g ov 89 (M9 89)) kd_89) rfl 1 (by decide) rfl i_623 rfl d_M_flow_95 ?_
          rw [f1, e1]
          refine lv_iload_n S.1 S.2.1 d_M_flow_98 rfl (lv_at hl 4 rfl) ?_
          refine fk_is S E G 92 (by decide) (fun r => congrArg (fk_ce g ov 92 r) kd_92) n rfl (by omega) (by decide) d_M_flow_99 (fun H locs G => ?_)
          obtain ⟨M10, hM10⟩ : ∃ z : fk_M, z = va_up M9 92 (upd (M9 92) n v) := ⟨_, rfl⟩
          rw [← hM10] at G
          have f2 : M10 89 = M1 89 := by rw [hM10, va_up_ne _ _ (by decide), f1]
          refine lv_aload_n S.1 S.2.1 d_M_flow_100 rfl (lv_at hl 2 rfl) ?_
          refine fk_gf S E G 89 (by decide) (v := .ref (fk_a g 91)) (congrArg (fk_ce g ov 89 (M10 89)) kd_89) rfl 3 (by decide) rfl i_625 rfl d_M_flow_101 ?_
          refine lv_aload_n S.1 S.2.1 d_M_flow_104 rfl (lv_at hl 2 rfl) ?_
          refine fk_gf S E G 89 (by decide) (v := .int (M10 89 1)) (congrArg (fk_ce g ov 89 (M10 89)) kd_89) rfl 1 (by decide) rfl i_623 rfl d_M_flow_105 ?_
          rw [f2, e1]
          refine lv_iload_n S.1 S.2.1 d_M_flow_108 rfl (lv_at hl 5 rfl) ?_
          refine fk_zs S E G 91 (by decide) (fun r => congrArg (fk_ce g ov 91 r) kd_91) n rfl (by omega) (by decide) hvi d_M_flow_109 (fun H locs G => ?_)
          obtain ⟨M11, hM11⟩ : ∃ z : fk_M, z = va_up M10 91 (upd (M10 91) n vi) := ⟨_, rfl⟩
          rw [← hM11] at G
          have f3 : M11 89 = M1 89 := by rw [hM11, va_up_ne _ _ (by decide), f2]
          refine lv_aload_n S.1 S.2.1 d_M_flow_110 rfl (lv_at hl 2 rfl) ?_
          refine lv_dup S.1 S.2.1 d_M_flow_111 rfl ?_
          refine fk_gf S E G 89 (by decide) (v := .int (M11 89 1)) (congrArg (fk_ce g ov 89 (M11 89)) kd_89) rfl 1 (by decide) rfl i_623 rfl d_M_flow_112 ?_
          rw [f3, e1]
          refine lv_iconst (v := nI 1) S.1 S.2.1 d_M_flow_115 (by decide +kernel) ?_
          refine fk_iadd S.1 S.2.1 d_M_flow_116 ?_
          refine fk_pf S E G 89 (by decide) (congrArg (fk_ce g ov 89 (M11 89)) kd_89) rfl 1 (by decide) rfl i_623 (upd (M11 89) 1 (nI (n + 1))) (congrArg (fk_ce g ov 89 (upd (M11 89) 1 (nI (n + 1)))) kd_89) rfl (ty := (.int)) (by decide +kernel) rfl rfl (Nat.le_of_ble_eq_true rfl) d_M_flow_117 (fun H locs G => ?_)
          obtain ⟨M12, hM12⟩ : ∃ z : fk_M, z = va_up M11 89 (upd (M11 89) 1 (nI (n + 1))) := ⟨_, rfl⟩
          rw [← hM12] at G
          refine lv_aload_n S.1 S.2.1 d_M_flow_120 rfl (lv_at hl 2 rfl) ?_
          refine fk_cvv S E G 89 (by decide) (congrArg (fk_ce g ov 89 (M12 89)) kd_89) rfl (rest := []) (c_M_again l g ov M12) m_M_again i_728 ⟨rfl, rfl⟩ ⟨by decide, by decide⟩ rfl rfl hl.1 (Nat.le_of_ble_eq_true rfl) d_M_flow_121 ⟨Nat.zero_le _, Nat.zero_le _⟩ (fun H locs G => ?_)
          have hM5 : M12 = va_up (va_up (va_up (va_up (fk_th M 0) 90 (upd (M 90) n vb)) 92 (upd (M 92) n v)) 91 (upd (M 91) n vi)) 89 (upd (fk_th M 0 89) 1 (nI (n + 1))) := by
            rw [hM12, f3, hM11, hM10, hM9, va_up_ne _ _ (show (91 : Nat) ≠ 92 by decide), va_up_ne _ _ (show (91 : Nat) ≠ 90 by decide), va_up_ne _ _ (show (92 : Nat) ≠ 90 by decide), e 90 (by decide), e 91 (by decide), e 92 (by decide), hM1]
          have g1 : fk_ma M12 89 1 = nI (n + 1) := by rw [fk_ma_s (by decide), hM12, va_up_self, pk_us]
          obtain ⟨M6, hM6⟩ : ∃ z : fk_M, z = fk_ma M12 := ⟨_, rfl⟩
          rw [← hM6] at G
          rw [← hM6] at g1
          refine lv_aload_n S.1 S.2.1 d_M_flow_124 rfl (lv_at hl 2 rfl) ?_
          refine fk_gf S E G 89 (by decide) (v := .int (M6 89 1)) (congrArg (fk_ce g ov 89 (M6 89)) kd_89) rfl 1 (by decide) rfl i_623 rfl d_M_flow_125 ?_
          rw [g1]
          refine lv_iconst (v := nI 1) S.1 S.2.1 d_M_flow_128 (by decide +kernel) ?_
          refine fk_isub S.1 S.2.1 (by omega) d_M_flow_129 ?_
          exact fk_iret S hr hlk E G (by rw [if_neg hz, hM6, hM5]; rfl) (by rw [if_neg hz, Nat.add_sub_cancel]) d_M_flow_130
        · have hz := of_decide_eq_true (fk_bt hc8)
          refine lv_iconst (v := nI 0) S.1 S.2.1 d_M_flow_78 (by decide +kernel) ?_
          exact fk_iret S hr hlk E G (by rw [if_pos hz]) (by rw [if_pos hz]) d_M_flow_79
      · refine lv_iconst (v := nI 1) S.1 S.2.1 d_M_flow_67 (by decide +kernel) ?_
        refine lv_goto (tgt := 72) S.1 S.2.1 d_M_flow_68 rfl ?_
        have hCD : fk_tc bd.toNat (decide (bd = false ∧ n = 12)).toNat = fk_tc bd.toNat 1 := by rw [decide_eq_true ⟨hb1, hc7⟩]; rfl
        rw [hCD]
        refine fk_cvi S E G 89 (by decide) (congrArg (fk_ce g ov 89 (M 89)) kd_89) rfl (rest := []) (c_M_throwing l g ov M bd.toNat 1 (fk_bl _) (by decide)) m_M_throwing i_724 ⟨rfl, rfl⟩ ⟨by decide, by decide⟩ rfl rfl hl.1 (Nat.le_of_ble_eq_true rfl) d_M_flow_72 ⟨Nat.zero_le _, Nat.zero_le _⟩ (fun H locs G => ?_)
        refine fk_zeq (tgt := 80) S.1 S.2.1 (fk_bl _) d_M_flow_75 rfl (fun hc13 => ?_) (fun hc13 => ?_)
        · have hz := of_decide_eq_false (fk_bf hc13)
          exact absurd (fk_tc00 hz).2 (by decide)
        · have hz := of_decide_eq_true (fk_bt hc13)
          refine lv_iconst (v := nI 0) S.1 S.2.1 d_M_flow_78 (by decide +kernel) ?_
          exact fk_iret S hr hlk E G (by rw [if_pos hz]) (by rw [if_pos hz]) d_M_flow_79
  rcases hbd with ⟨h1, hb⟩ | ⟨h1, hb⟩ | ⟨ck, hc1, hc2, hc3, hb⟩
  · refine lv_iload_n S.1 S.2.1 d_M_flow_0 rfl (lv_at hl 2 rfl) ?_
    refine lv_if_le (tgt := 12) S.1 S.2.1 d_M_flow_1 rfl (fun hc14 => ?_) (fun hc14 => ?_)
    · refine lv_iconst (v := -1) S.1 S.2.1 d_M_flow_12 (by decide +kernel) ?_
      refine lv_istore (lv' := [(4, .int (-1)), (0, .ref (fk_a g 89)), (1, .int vb), (2, .int v), (3, .int vi)]) S.1 S.2.1 d_M_flow_13 hl (by decide) rfl (fun ls hl => ?_)
      refine lv_iload_n S.1 S.2.1 d_M_flow_15 rfl (lv_at hl 3 rfl) ?_
      refine lv_if_lt (tgt := 43) S.1 S.2.1 d_M_flow_16 rfl (fun hc15 => ?_) (fun hc15 => ?_)
      · have hbit : bd.toNat = 1 := by rw [hb]; rfl
        refine lv_iconst (v := nI 1) S.1 S.2.1 d_M_flow_43 (by decide +kernel) ?_
        refine lv_goto (tgt := 48) S.1 S.2.1 d_M_flow_44 rfl ?_
        refine lv_istore (lv' := [(5, .int (nI 1)), (4, .int (-1)), (0, .ref (fk_a g 89)), (1, .int vb), (2, .int v), (3, .int vi)]) S.1 S.2.1 d_M_flow_48 hl (by decide) rfl (fun ls hl => ?_)
        have hl : lv_has ls 6 [(5, .int (nI bd.toNat)), (4, .int (-1)), (0, .ref (fk_a g 89)), (1, .int vb), (2, .int v), (3, .int vi)] := by rw [hbit]; exact hl
        exact tail _ _ _ ls G hl
      · exact absurd h1 hc15
    · exact absurd (Int32.le_of_lt h1) hc14
  · subst h1
    refine lv_iload_n S.1 S.2.1 d_M_flow_0 rfl (lv_at hl 2 rfl) ?_
    refine lv_if_le (tgt := 12) S.1 S.2.1 d_M_flow_1 rfl (fun hc16 => ?_) (fun hc16 => ?_)
    · refine lv_iconst (v := -1) S.1 S.2.1 d_M_flow_12 (by decide +kernel) ?_
      refine lv_istore (lv' := [(4, .int (-1)), (0, .ref (fk_a g 89)), (1, .int vb), (2, .int 0), (3, .int vi)]) S.1 S.2.1 d_M_flow_13 hl (by decide) rfl (fun ls hl => ?_)
      refine lv_iload_n S.1 S.2.1 d_M_flow_15 rfl (lv_at hl 3 rfl) ?_
      refine lv_if_lt (tgt := 43) S.1 S.2.1 d_M_flow_16 rfl (fun hc17 => ?_) (fun hc17 => ?_)
      · exact absurd hc17 fk_irr
      · refine lv_iload S.1 S.2.1 d_M_flow_19 (lv_at hl 0 rfl) ?_
        refine lv_aload_n S.1 S.2.1 d_M_flow_21 rfl (lv_at hl 1 rfl) ?_
        refine fk_gf S E G 89 (by decide) (v := .int (M 89 1)) (congrArg (fk_ce g ov 89 (M 89)) kd_89) rfl 1 (by decide) rfl i_623 rfl d_M_flow_22 ?_
        rw [hn]
        refine lv_icmp_ge (tgt := 43) S.1 S.2.1 d_M_flow_25 rfl (fun hc18 => ?_) (fun hc18 => ?_)
        · exact absurd hc18 (by rw [show (-1 : Int32) = -1 from rfl]; exact fun q => absurd (Int32.le_trans (nI_pos' (n := n) (by omega)) q) (by decide +kernel))
        · refine lv_iload S.1 S.2.1 d_M_flow_28 (lv_at hl 0 rfl) ?_
          refine lv_if_lt (tgt := 47) S.1 S.2.1 d_M_flow_30 rfl (fun hc19 => ?_) (fun hc19 => ?_)
          · have hbit : bd.toNat = 0 := by rw [hb]; rfl
            refine lv_iconst (v := nI 0) S.1 S.2.1 d_M_flow_47 (by decide +kernel) ?_
            refine lv_istore (lv' := [(5, .int (nI 0)), (4, .int (-1)), (0, .ref (fk_a g 89)), (1, .int vb), (2, .int 0), (3, .int vi)]) S.1 S.2.1 d_M_flow_48 hl (by decide) rfl (fun ls hl => ?_)
            have hl : lv_has ls 6 [(5, .int (nI bd.toNat)), (4, .int (-1)), (0, .ref (fk_a g 89)), (1, .int vb), (2, .int 0), (3, .int vi)] := by rw [hbit]; exact hl
            exact tail _ _ _ ls G hl
          · exact absurd (by decide +kernel) hc19
    · exact absurd (Int32.le_refl _) hc16
  · subst hc3
    refine lv_iload_n S.1 S.2.1 d_M_flow_0 rfl (lv_at hl 2 rfl) ?_
    refine fk_zle (tgt := 12) S.1 S.2.1 (by omega) d_M_flow_1 rfl (fun hc20 => ?_) (fun hc20 => ?_)
    · exact absurd hc20 (by omega)
    · refine lv_iload_n S.1 S.2.1 d_M_flow_4 rfl (lv_at hl 2 rfl) ?_
      refine lv_iconst (v := nI 1) S.1 S.2.1 d_M_flow_5 (by decide +kernel) ?_
      refine fk_isub S.1 S.2.1 (by omega) d_M_flow_6 ?_
      refine lv_iconst (v := nI 2) S.1 S.2.1 d_M_flow_7 (by decide +kernel) ?_
      refine fk_idiv S.1 S.2.1 (by omega) (by decide) (by decide) d_M_flow_8 ?_
      refine lv_goto (tgt := 13) S.1 S.2.1 d_M_flow_9 rfl ?_
      refine lv_istore (lv' := [(4, .int (nI ((ck - 1) / 2))), (0, .ref (fk_a g 89)), (1, .int vb), (2, .int (nI ck)), (3, .int vi)]) S.1 S.2.1 d_M_flow_13 hl (by decide) rfl (fun ls hl => ?_)
      refine lv_iload_n S.1 S.2.1 d_M_flow_15 rfl (lv_at hl 3 rfl) ?_
      refine lv_if_lt (tgt := 43) S.1 S.2.1 d_M_flow_16 rfl (fun hc21 => ?_) (fun hc21 => ?_)
      · exact absurd hc21 (nI_pos hc2)
      · refine lv_iload S.1 S.2.1 d_M_flow_19 (lv_at hl 0 rfl) ?_
        refine lv_aload_n S.1 S.2.1 d_M_flow_21 rfl (lv_at hl 1 rfl) ?_
        refine fk_gf S E G 89 (by decide) (v := .int (M 89 1)) (congrArg (fk_ce g ov 89 (M 89)) kd_89) rfl 1 (by decide) rfl i_623 rfl d_M_flow_22 ?_
        rw [hn]
        refine fk_cge (tgt := 43) S.1 S.2.1 (by omega) (by omega) d_M_flow_25 rfl (fun hc22 => ?_) (fun hc22 => ?_)
        · have hbit : bd.toNat = 1 := by rw [hb, decide_eq_true (Or.inl hc22)]; rfl
          refine lv_iconst (v := nI 1) S.1 S.2.1 d_M_flow_43 (by decide +kernel) ?_
          refine lv_goto (tgt := 48) S.1 S.2.1 d_M_flow_44 rfl ?_
          refine lv_istore (lv' := [(5, .int (nI 1)), (4, .int (nI ((ck - 1) / 2))), (0, .ref (fk_a g 89)), (1, .int vb), (2, .int (nI ck)), (3, .int vi)]) S.1 S.2.1 d_M_flow_48 hl (by decide) rfl (fun ls hl => ?_)
          have hl : lv_has ls 6 [(5, .int (nI bd.toNat)), (4, .int (nI ((ck - 1) / 2))), (0, .ref (fk_a g 89)), (1, .int vb), (2, .int (nI ck)), (3, .int vi)] := by rw [hbit]; exact hl
          exact tail _ _ _ ls G hl
        · refine lv_iload S.1 S.2.1 d_M_flow_28 (lv_at hl 0 rfl) ?_
          refine lv_if_lt (tgt := 47) S.1 S.2.1 d_M_flow_30 rfl (fun hc23 => ?_) (fun hc23 => ?_)
          · exact absurd hc23 (nI_pos (by omega))
          · refine lv_aload_n S.1 S.2.1 d_M_flow_33 rfl (lv_at hl 1 rfl) ?_
            refine fk_gf S E G 89 (by decide) (v := .ref (fk_a g 90)) (congrArg (fk_ce g ov 89 (M 89)) kd_89) rfl 2 (by decide) rfl i_624 rfl d_M_flow_34 ?_
            refine lv_iload S.1 S.2.1 d_M_flow_37 (lv_at hl 0 rfl) ?_
            refine fk_za S E G 90 (by decide) (congrArg (fk_ce g ov 90 (M 90)) kd_90) ((ck - 1) / 2) rfl (by omega) (by decide) (v := M 90 ((ck - 1) / 2)) rfl d_M_flow_39 ?_
            refine lv_if_ne (tgt := 47) S.1 S.2.1 d_M_flow_40 rfl (fun hc24 => ?_) (fun hc24 => ?_)
            · have hbit : bd.toNat = 0 := by rw [hb, decide_eq_false (fun q => q.elim (fun q => by omega) hc24)]; rfl
              refine lv_iconst (v := nI 0) S.1 S.2.1 d_M_flow_47 (by decide +kernel) ?_
              refine lv_istore (lv' := [(5, .int (nI 0)), (4, .int (nI ((ck - 1) / 2))), (0, .ref (fk_a g 89)), (1, .int vb), (2, .int (nI ck)), (3, .int vi)]) S.1 S.2.1 d_M_flow_48 hl (by decide) rfl (fun ls hl => ?_)
              have hl : lv_has ls 6 [(5, .int (nI bd.toNat)), (4, .int (nI ((ck - 1) / 2))), (0, .ref (fk_a g 89)), (1, .int vb), (2, .int (nI ck)), (3, .int vi)] := by rw [hbit]; exact hl
              exact tail _ _ _ ls G hl
            · have hbit : bd.toNat = 1 := by rw [hb, decide_eq_true (Or.inr hc24)]; rfl
              refine lv_iconst (v := nI 1) S.1 S.2.1 d_M_flow_43 (by decide +kernel) ?_
              refine lv_goto (tgt := 48) S.1 S.2.1 d_M_flow_44 rfl ?_
              refine lv_istore (lv' := [(5, .int (nI 1)), (4, .int (nI ((ck - 1) / 2))), (0, .ref (fk_a g 89)), (1, .int vb), (2, .int (nI ck)), (3, .int vi)]) S.1 S.2.1 d_M_flow_48 hl (by decide) rfl (fun ls hl => ?_)
              have hl : lv_has ls 6 [(5, .int (nI bd.toNat)), (4, .int (nI ((ck - 1) / 2))), (0, .ref (fk_a g 89)), (1, .int vb), (2, .int (nI ck)), (3, .int vi)] := by rw [hbit]; exact hl
              exact tail _ _ _ ls G hl
theorem d_M_type_0 : decode b_M_type 0 = .ok (.iload_n 3, 1) := by decide +kernel
theorem d_M_type_1 : decode b_M_type 1 = .ok (.iconst 1, 1) := by decide +kernel
theorem d_M_type_2 : decode b_M_type 2 = .ok (.if_icmp .lt 9, 3) := by decide +kernel
theorem d_M_type_5 : decode b_M_type 5 = .ok (.iload_n 3, 1) := by decide +kernel
theorem d_M_type_6 : decode b_M_type 6 = .ok (.bipush 8, 2) := by decide +kernel
theorem d_M_type_8 : decode b_M_type 8 = .ok (.if_icmp .le 7, 3) := by decide +kernel
theorem d_M_type_11 : decode b_M_type 11 = .ok (.iconst 1, 1) := by decide +kernel
theorem d_M_type_12 : decode b_M_type 12 = .ok (.goto 4, 3) := by decide +kernel
theorem d_M_type_15 : decode b_M_type 15 = .ok (.iconst 0, 1) := by decide +kernel
theorem d_M_type_16 : decode b_M_type 16 = .ok (.istore 4, 2) := by decide +kernel
theorem d_M_type_18 : decode b_M_type 18 = .ok (.aload_n 0, 1) := by decide +kernel
theorem d_M_type_19 : decode b_M_type 19 = .ok (.iload 4, 2) := by decide +kernel
theorem d_M_type_21 : decode b_M_type 21 = .ok (.iload 4, 2) := by decide +kernel
theorem d_M_type_23 : decode b_M_type 23 = .ok (.ifCond .ne 18, 3) := by decide +kernel
theorem d_M_type_26 : decode b_M_type 26 = .ok (.aload_n 0, 1) := by decide +kernel
theorem d_M_type_27 : decode b_M_type 27 = .ok (.getfield 104, 3) := by decide +kernel
theorem d_M_type_30 : decode b_M_type 30 = .ok (.iload_n 3, 1) := by decide +kernel
theorem d_M_type_31 : decode b_M_type 31 = .ok (.iadd, 1) := by decide +kernel
theorem d_M_type_32 : decode b_M_type 32 = .ok (.bipush 40, 2) := by decide +kernel
theorem d_M_type_34 : decode b_M_type 34 = .ok (.if_icmp .le 7, 3) := by decide +kernel
theorem d_M_type_37 : decode b_M_type 37 = .ok (.iconst 1, 1) := by decide +kernel
theorem d_M_type_38 : decode b_M_type 38 = .ok (.goto 4, 3) := by decide +kernel
theorem d_M_type_41 : decode b_M_type 41 = .ok (.iconst 0, 1) := by decide +kernel
theorem d_M_type_42 : decode b_M_type 42 = .ok (.invokevirtual 97, 3) := by decide +kernel
theorem d_M_type_45 : decode b_M_type 45 = .ok (.ifCond .eq 4, 3) := by decide +kernel
theorem d_M_type_48 : decode b_M_type 48 = .ok (.return_, 1) := by decide +kernel
theorem d_M_type_49 : decode b_M_type 49 = .ok (.iload_n 3, 1) := by decide +kernel
theorem d_M_type_50 : decode b_M_type 50 = .ok (.iconst 1, 1) := by decide +kernel
theorem d_M_type_51 : decode b_M_type 51 = .ok (.isub, 1) := by decide +kernel
theorem d_M_type_52 : decode b_M_type 52 = .ok (.istore 5, 2) := by decide +kernel
theorem d_M_type_54 : decode b_M_type 54 = .ok (.iload 5, 2) := by decide +kernel
theorem d_M_type_56 : decode b_M_type 56 = .ok (.ifCond .lt 40, 3) := by decide +kernel
theorem d_M_type_59 : decode b_M_type 59 = .ok (.aload_n 0, 1) := by decide +kernel
theorem d_M_type_60 : decode b_M_type 60 = .ok (.getfield 59, 3) := by decide +kernel
theorem d_M_type_63 : decode b_M_type 63 = .ok (.aload_n 0, 1) := by decide +kernel
theorem d_M_type_64 : decode b_M_type 64 = .ok (.getfield 104, 3) := by decide +kernel
theorem d_M_type_67 : decode b_M_type 67 = .ok (.lload_n 1, 1) := by decide +kernel
theorem d_M_type_68 : decode b_M_type 68 = .ok (.bipush 8, 2) := by decide +kernel
theorem d_M_type_70 : decode b_M_type 70 = .ok (.iload 5, 2) := by decide +kernel
theorem d_M_type_72 : decode b_M_type 72 = .ok (.imul, 1) := by decide +kernel
theorem d_M_type_73 : decode b_M_type 73 = .ok (.lshr, 1) := by decide +kernel
theorem d_M_type_74 : decode b_M_type 74 = .ok (.ldc2_w 107, 3) := by decide +kernel
theorem d_M_type_77 : decode b_M_type 77 = .ok (.land, 1) := by decide +kernel
theorem d_M_type_78 : decode b_M_type 78 = .ok (.l2i, 1) := by decide +kernel
theorem d_M_type_79 : decode b_M_type 79 = .ok (.iastore, 1) := by decide +kernel
theorem d_M_type_80 : decode b_M_type 80 = .ok (.aload_n 0, 1) := by decide +kernel
theorem d_M_type_81 : decode b_M_type 81 = .ok (.dup, 1) := by decide +kernel
theorem d_M_type_82 : decode b_M_type 82 = .ok (.getfield 104, 3) := by decide +kernel
theorem d_M_type_85 : decode b_M_type 85 = .ok (.iconst 1, 1) := by decide +kernel
theorem d_M_type_86 : decode b_M_type 86 = .ok (.iadd, 1) := by decide +kernel
theorem d_M_type_87 : decode b_M_type 87 = .ok (.putfield 104, 3) := by decide +kernel
theorem d_M_type_90 : decode b_M_type 90 = .ok (.iinc 5 (-1), 3) := by decide +kernel
theorem d_M_type_93 : decode b_M_type 93 = .ok (.goto (-39), 3) := by decide +kernel
theorem d_M_type_96 : decode b_M_type 96 = .ok (.return_, 1) := by decide +kernel
theorem m_M_type : fk_MI y_M_type b_M_type 6 none 2 := ⟨i_739, i_737, i_738, i_8, by decide +kernel⟩
set_option maxHeartbeats 4000000 in
set_option maxRecDepth 100000 in
theorem c_M_typeBad (l : Launch) (g : fk_G) (ov : Int64) (M : fk_M) (w : Int64) (v : Int32) (hv : v < nI 1 ∨ nI 8 < v) : fk_CV l y_M_type b_M_type 6 (fk_rm 1) g ov M (fk_th M 1) [.ref (fk_a g 89), .long w, .int v] := by
  refine fk_ofV rfl (Nat.le_of_ble_eq_true rfl) ?_
  intro p e s m args below meth c ls S hr hlk E G hl
  have hl : lv_has ls 6 [(0, .ref (fk_a g 89)), (1, .long w), (3, .int v)] := hl
  refine lv_iload_n S.1 S.2.1 d_M_type_0 rfl (lv_at hl 2 rfl) ?_
  refine lv_iconst (v := nI 1) S.1 S.2.1 d_M_type_1 (by decide +kernel) ?_
  refine lv_icmp_lt (tgt := 11) S.1 S.2.1 d_M_type_2 rfl (fun hc1 => ?_) (fun hc1 => ?_)
  · refine lv_iconst (v := nI 1) S.1 S.2.1 d_M_type_11 (by decide +kernel) ?_
    refine lv_goto (tgt := 16) S.1 S.2.1 d_M_type_12 rfl ?_
    refine lv_istore (lv' := [(4, .int (nI 1)), (0, .ref (fk_a g 89)), (1, .long w), (3, .int v)]) S.1 S.2.1 d_M_type_16 hl (by decide) rfl (fun ls hl => ?_)
    refine lv_aload_n S.1 S.2.1 d_M_type_18 rfl (lv_at hl 1 rfl) ?_
    refine lv_iload S.1 S.2.1 d_M_type_19 (lv_at hl 0 rfl) ?_
    refine lv_iload S.1 S.2.1 d_M_type_21 (lv_at hl 0 rfl) ?_
    refine fk_zne (tgt := 41) S.1 S.2.1 (by omega) d_M_type_23 rfl (fun hc2 => ?_) (fun hc2 => ?_)
    · refine lv_iconst (v := nI 0) S.1 S.2.1 d_M_type_41 (by decide +kernel) ?_
      refine fk_cvi S E G 89 (by decide) (congrArg (fk_ce g ov 89 (M 89)) kd_89) rfl (rest := []) (c_M_throwing l g ov M 1 0 (by decide) (by decide)) m_M_throwing i_724 ⟨rfl, rfl⟩ ⟨by decide, by decide⟩ rfl rfl hl.1 (Nat.le_of_ble_eq_true rfl) d_M_type_42 ⟨Nat.zero_le _, Nat.zero_le _⟩ (fun H locs G => ?_)
      refine fk_zeq (tgt := 49) S.1 S.2.1 (fk_bl _) d_M_type_45 rfl (fun hc3 => ?_) (fun hc3 => ?_)
      · exact absurd hc3 (by decide)
      · exact fk_vret S hr hlk E G rfl d_M_type_48
    · exact absurd hc2 (by decide)
  · refine lv_iload_n S.1 S.2.1 d_M_type_5 rfl (lv_at hl 2 rfl) ?_
    refine lv_bipush (v := nI 8) S.1 S.2.1 d_M_type_6 (by decide +kernel) ?_
    refine lv_icmp_le (tgt := 15) S.1 S.2.1 d_M_type_8 rfl (fun hc4 => ?_) (fun hc4 => ?_)
    · exact absurd hv (fun q => q.elim hc1 (Int32.not_lt.mpr hc4))
    · refine lv_iconst (v := nI 1) S.1 S.2.1 d_M_type_11 (by decide +kernel) ?_
      refine lv_goto (tgt := 16) S.1 S.2.1 d_M_type_12 rfl ?_
      refine lv_istore (lv' := [(4, .int (nI 1)), (0, .ref (fk_a g 89)), (1, .long w), (3, .int v)]) S.1 S.2.1 d_M_type_16 hl (by decide) rfl (fun ls hl => ?_)
      refine lv_aload_n S.1 S.2.1 d_M_type_18 rfl (lv_at hl 1 rfl) ?_
      refine lv_iload S.1 S.2.1 d_M_type_19 (lv_at hl 0 rfl) ?_
      refine lv_iload S.1 S.2.1 d_M_type_21 (lv_at hl 0 rfl) ?_
      refine fk_zne (tgt := 41) S.1 S.2.1 (by omega) d_M_type_23 rfl (fun hc5 => ?_) (fun hc5 => ?_)
      · refine lv_iconst (v := nI 0) S.1 S.2.1 d_M_type_41 (by decide +kernel) ?_
        refine fk_cvi S E G 89 (by decide) (congrArg (fk_ce g ov 89 (M 89)) kd_89) rfl (rest := []) (c_M_throwing l g ov M 1 0 (by decide) (by decide)) m_M_throwing i_724 ⟨rfl, rfl⟩ ⟨by decide, by decide⟩ rfl rfl hl.1 (Nat.le_of_ble_eq_true rfl) d_M_type_42 ⟨Nat.zero_le _, Nat.zero_le _⟩ (fun H locs G => ?_)
        refine fk_zeq (tgt := 49) S.1 S.2.1 (fk_bl _) d_M_type_45 rfl (fun hc6 => ?_) (fun hc6 => ?_)
        · exact absurd hc6 (by decide)
        · exact fk_vret S hr hlk E G rfl d_M_type_48
      · exact absurd hc5 (by decide)
set_option maxHeartbeats 4000000 in
set_option maxRecDepth 100000 in
theorem c_M_type (l : Launch) (g : fk_G) (ov : Int64) (M : fk_M) (w : Int64) (k : Nat) (h1 : 1 ≤ k) (h8 : k ≤ 8) (dl : Nat) (hdl : M 89 19 = nI dl) (h40 : dl ≤ 40) : fk_CV l y_M_type b_M_type 6 (fk_rm 1) g ov M (if 40 < dl + k then fk_th M 2 else fk_mty w k dl (fk_th M 0)) [.ref (fk_a g 89), .long w, .int (nI k)] := by
  refine fk_ofV rfl (Nat.le_of_ble_eq_true rfl) ?_
  intro p e s m args below meth c ls S hr hlk E G hl
  have hl : lv_has ls 6 [(0, .ref (fk_a g 89)), (1, .long w), (3, .int (nI k))] := hl
  refine lv_iload_n S.1 S.2.1 d_M_type_0 rfl (lv_at hl 2 rfl) ?_
  refine lv_iconst (v := nI 1) S.1 S.2.1 d_M_type_1 (by decide +kernel) ?_
  refine fk_clt (tgt := 11) S.1 S.2.1 (by omega) (by omega) d_M_type_2 rfl (fun hc1 => ?_) (fun hc1 => ?_)
  · exact absurd hc1 (by omega)
  · refine lv_iload_n S.1 S.2.1 d_M_type_5 rfl (lv_at hl 2 rfl) ?_
    refine lv_bipush (v := nI 8) S.1 S.2.1 d_M_type_6 (by decide +kernel) ?_
    refine fk_cle (tgt := 15) S.1 S.2.1 (by omega) (by omega) d_M_type_8 rfl (fun hc2 => ?_) (fun hc2 => ?_)
    · refine lv_iconst (v := nI 0) S.1 S.2.1 d_M_type_15 (by decide +kernel) ?_
      refine lv_istore (lv' := [(4, .int (nI 0)), (0, .ref (fk_a g 89)), (1, .long w), (3, .int (nI k))]) S.1 S.2.1 d_M_type_16 hl (by decide) rfl (fun ls hl => ?_)
      refine lv_aload_n S.1 S.2.1 d_M_type_18 rfl (lv_at hl 1 rfl) ?_
      refine lv_iload S.1 S.2.1 d_M_type_19 (lv_at hl 0 rfl) ?_
      refine lv_iload S.1 S.2.1 d_M_type_21 (lv_at hl 0 rfl) ?_
      refine fk_zne (tgt := 41) S.1 S.2.1 (by omega) d_M_type_23 rfl (fun hc3 => ?_) (fun hc3 => ?_)
      · exact absurd hc3 (by omega)
      · refine lv_aload_n S.1 S.2.1 d_M_type_26 rfl (lv_at hl 1 rfl) ?_
        refine fk_gf S E G 89 (by decide) (v := .int (M 89 19)) (congrArg (fk_ce g ov 89 (M 89)) kd_89) rfl 19 (by decide) rfl i_641 rfl d_M_type_27 ?_
        rw [hdl]
        refine lv_iload_n S.1 S.2.1 d_M_type_30 rfl (lv_at hl 3 rfl) ?_
        refine fk_iadd S.1 S.2.1 d_M_type_31 ?_
        refine lv_bipush (v := nI 40) S.1 S.2.1 d_M_type_32 (by decide +kernel) ?_
        refine fk_cle (tgt := 41) S.1 S.2.1 (by omega) (by omega) d_M_type_34 rfl (fun hc4 => ?_) (fun hc4 => ?_)
        · refine lv_iconst (v := nI 0) S.1 S.2.1 d_M_type_41 (by decide +kernel) ?_
          refine fk_cvi S E G 89 (by decide) (congrArg (fk_ce g ov 89 (M 89)) kd_89) rfl (rest := []) (c_M_throwing l g ov M 0 0 (by decide) (by decide)) m_M_throwing i_724 ⟨rfl, rfl⟩ ⟨by decide, by decide⟩ rfl rfl hl.1 (Nat.le_of_ble_eq_true rfl) d_M_type_42 ⟨Nat.zero_le _, Nat.zero_le _⟩ (fun H locs G => ?_)
          change fk_H g ov (fk_th M 0) s H locs at G
          refine fk_zeq (tgt := 49) S.1 S.2.1 (fk_bl _) d_M_type_45 rfl (fun hc5 => ?_) (fun hc5 => ?_)
          · refine lv_iload_n S.1 S.2.1 d_M_type_49 rfl (lv_at hl 3 rfl) ?_
            refine lv_iconst (v := nI 1) S.1 S.2.1 d_M_type_50 (by decide +kernel) ?_
            refine fk_isub S.1 S.2.1 (by omega) d_M_type_51 ?_
            refine lv_istore (lv' := [(5, .int (nI (k - 1))), (4, .int (nI 0)), (0, .ref (fk_a g 89)), (1, .long w), (3, .int (nI k))]) S.1 S.2.1 d_M_type_52 hl (by decide) rfl (fun ls hl => ?_)
            have loop : ∀ (d : Nat) (u : Nat) (Mc : fk_M) (H : Heap) (locs : List Loc) (ls : Array Slot), u + d ≤ 40 → d ≤ 8 → Mc 89 19 = nI u → fk_mty w d u Mc = (if 40 < dl + k then fk_th M 2 else fk_mty w k dl (fk_th M 0)) → fk_H g ov (Mc) s H locs → lv_has ls 6 [(5, .int (nI d - 1)), (4, .int (nI 0)), (0, .ref (fk_a g 89)), (1, .long w), (3, .int (nI k))] → W p l e (fk_rm (1)) s m args below meth c H locs 0 0 (MQ below (va_Qv (fun (_ : Unit) => True) (fun _ t9 => fk_Wd g ov (if 40 < dl + k then fk_th M 2 else fk_mty w k dl (fk_th M 0)) t9) (fk_A g)) args s 0 0 (fk_A g)) (F0 m 54 ls []) := by
              intro d
              induction d with
              | zero =>
                intro u Mc H locs ls hv0 hv1 hv2 hv3 G hl
                refine lv_iload S.1 S.2.1 d_M_type_54 (lv_at hl 0 rfl) ?_
                refine lv_if_lt (tgt := 96) S.1 S.2.1 d_M_type_56 rfl (fun hc6 => ?_) (fun hc6 => ?_)
                · exact fk_vret S hr hlk E G hv3 d_M_type_96
                · exact absurd (by decide +kernel) hc6
              | succ d ih =>
                intro u Mc H locs ls hv0 hv1 hv2 hv3 G hl
                rw [nI_pred] at hl
                refine lv_iload S.1 S.2.1 d_M_type_54 (lv_at hl 0 rfl) ?_
                refine lv_if_lt (tgt := 96) S.1 S.2.1 d_M_type_56 rfl (fun hc7 => ?_) (fun hc7 => ?_)
                · exact absurd hc7 (nI_pos (by omega))
                · refine lv_aload_n S.1 S.2.1 d_M_type_59 rfl (lv_at hl 2 rfl) ?_
                  refine fk_gf S E G 89 (by decide) (v := .ref (fk_a g 106)) (congrArg (fk_ce g ov 89 (Mc 89)) kd_89) rfl 18 (by decide) rfl i_640 rfl d_M_type_60 ?_
                  refine lv_aload_n S.1 S.2.1 d_M_type_63 rfl (lv_at hl 2 rfl) ?_
                  refine fk_gf S E G 89 (by decide) (v := .int (Mc 89 19)) (congrArg (fk_ce g ov 89 (Mc 89)) kd_89) rfl 19 (by decide) rfl i_641 rfl d_M_type_64 ?_
                  rw [hv2]
                  refine lv_lload_n S.1 S.2.1 d_M_type_67 rfl (lv_at hl 3 rfl) ?_
                  refine lv_bipush (v := nI 8) S.1 S.2.1 d_M_type_68 (by decide +kernel) ?_
                  refine lv_iload S.1 S.2.1 d_M_type_70 (lv_at hl 0 rfl) ?_
                  refine fk_imul S.1 S.2.1 d_M_type_72 ?_
                  refine lv_lshr (v := w >>> ((nI (8 * d)).toInt64 &&& 63)) S.1 S.2.1 d_M_type_73 rfl ?_
                  refine lv_ldc2 S.1 S.2.1 S.2.2.2.1 (S.2.2.2.2 _ i_740) d_M_type_74 ?_
                  refine lv_land S.1 S.2.1 d_M_type_77 ?_
                  refine lv_l2i (v := fk_yb w d) S.1 S.2.1 d_M_type_78 rfl ?_
                  refine fk_is S E G 106 (by decide) (fun r => congrArg (fk_ce g ov 106 r) kd_106) u rfl (by omega) (by decide) d_M_type_79 (fun H locs G => ?_)
                  obtain ⟨M8, hM8⟩ : ∃ z : fk_M, z = va_up Mc 106 (upd (Mc 106) u (fk_yb w d)) := ⟨_, rfl⟩
                  rw [← hM8] at G
                  have e89 : M8 89 = Mc 89 := by rw [hM8, va_up_ne _ _ (by decide)]
                  refine lv_aload_n S.1 S.2.1 d_M_type_80 rfl (lv_at hl 2 rfl) ?_
                  refine lv_dup S.1 S.2.1 d_M_type_81 rfl ?_
                  refine fk_gf S E G 89 (by decide) (v := .int (M8 89 19)) (congrArg (fk_ce g ov 89 (M8 89)) kd_89) rfl 19 (by decide) rfl i_641 rfl d_M_type_82 ?_
                  rw [e89, hv2]
                  refine lv_iconst (v := nI 1) S.1 S.2.1 d_M_type_85 (by decide +kernel) ?_
                  refine fk_iadd S.1 S.2.1 d_M_type_86 ?_
                  refine fk_pf S E G 89 (by decide) (congrArg (fk_ce g ov 89 (M8 89)) kd_89) rfl 19 (by decide) rfl i_641 (upd (M8 89) 19 (nI (u + 1))) (congrArg (fk_ce g ov 89 (upd (M8 89) 19 (nI (u + 1)))) kd_89) rfl (ty := (.int)) (by decide +kernel) rfl rfl (Nat.le_of_ble_eq_true rfl) d_M_type_87 (fun H locs G => ?_)
                  obtain ⟨M9, hM9⟩ : ∃ z : fk_M, z = va_up M8 89 (upd (M8 89) 19 (nI (u + 1))) := ⟨_, rfl⟩
                  rw [← hM9] at G
                  refine lv_iinc (k := 0) (v := nI d - 1) (lv' := [(5, .int (nI d - 1)), (4, .int (nI 0)), (0, .ref (fk_a g 89)), (1, .long w), (3, .int (nI k))]) S.1 S.2.1 d_M_type_90 hl rfl (fk_dec _) (by decide) rfl (fun ls hl => ?_)
                  refine lv_goto (tgt := 54) S.1 S.2.1 d_M_type_93 rfl ?_
                  exact ih (u + 1) M9 H locs ls (by omega) (by omega) (by rw [hM9, va_up_self, pk_us]) (by rw [← hv3, hM9, e89, hM8]; rfl) G hl
            rw [show nI (k - 1) = nI k - 1 by rw [← pk_sub h1]; rfl] at hl
            exact loop k dl (fk_th M 0) H locs ls (by omega) h8 (by rw [fk_th_s (by decide)]; exact hdl) (if_neg (by omega)).symm G hl
          · exact absurd hc5 (by decide)
        · refine lv_iconst (v := nI 1) S.1 S.2.1 d_M_type_37 (by decide +kernel) ?_
          refine lv_goto (tgt := 42) S.1 S.2.1 d_M_type_38 rfl ?_
          refine fk_cvi S E G 89 (by decide) (congrArg (fk_ce g ov 89 (M 89)) kd_89) rfl (rest := []) (c_M_throwing l g ov M 0 1 (by decide) (by decide)) m_M_throwing i_724 ⟨rfl, rfl⟩ ⟨by decide, by decide⟩ rfl rfl hl.1 (Nat.le_of_ble_eq_true rfl) d_M_type_42 ⟨Nat.zero_le _, Nat.zero_le _⟩ (fun H locs G => ?_)
          change fk_H g ov (fk_th M 2) s H locs at G
          refine fk_zeq (tgt := 49) S.1 S.2.1 (fk_bl _) d_M_type_45 rfl (fun hc10 => ?_) (fun hc10 => ?_)
          · exact absurd hc10 (by decide)
          · exact fk_vret S hr hlk E G (if_pos (by omega)).symm d_M_type_48
    · exact absurd hc2 (by omega)
end
