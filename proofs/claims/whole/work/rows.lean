section
-- ===== PART A: goes FIRST, ahead of the names: the tables' words, and 'selects' of the private methods out of them =====
/-- a private method of a class that the tables say can be made, by its rows of tables_1 -/
def lw_okq (q : MethodName × Nat) : Prop := (q.1.cls ≠ "java/lang/invoke/MethodHandle" ∧ q.1.cls ≠ "java/lang/invoke/VarHandle") ∧ Cond.instantiable q.1.cls q.2 ∈ tables_1 ∧ Cond.privateMethod q.1 ∈ tables_1 ∧ Cond.instanceMethod q.1 ∈ tables_1
theorem lw_p0 : lw_okq (⟨"StackAssembler$Encoder", "add", "(I)V"⟩, 3) := ⟨⟨by decide +kernel, by decide +kernel⟩, List.mem_of_getElem? (i := 320) (by decide +kernel), List.mem_of_getElem? (i := 410) (by decide +kernel), List.mem_of_getElem? (i := 411) (by decide +kernel)⟩
theorem lw_p1 : lw_okq (⟨"StackAssembler$Encoder", "addSignatures", "(LStackAssembler$Module;)V"⟩, 3) := ⟨⟨by decide +kernel, by decide +kernel⟩, List.mem_of_getElem? (i := 320) (by decide +kernel), List.mem_of_getElem? (i := 414) (by decide +kernel), List.mem_of_getElem? (i := 415) (by decide +kernel)⟩
theorem lw_p2 : lw_okq (⟨"StackAssembler$Encoder", "numberSignatures", "(LStackAssembler$Module;)I"⟩, 3) := ⟨⟨by decide +kernel, by decide +kernel⟩, List.mem_of_getElem? (i := 320) (by decide +kernel), List.mem_of_getElem? (i := 418) (by decide +kernel), List.mem_of_getElem? (i := 419) (by decide +kernel)⟩
theorem lw_p3 : lw_okq (⟨"StackAssembler$Encoder", "addUnsigned", "(J)V"⟩, 3) := ⟨⟨by decide +kernel, by decide +kernel⟩, List.mem_of_getElem? (i := 320) (by decide +kernel), List.mem_of_getElem? (i := 426) (by decide +kernel), List.mem_of_getElem? (i := 427) (by decide +kernel)⟩
theorem lw_p4 : lw_okq (⟨"StackAssembler$Encoder", "addSignature", "(LStackAssembler$Function;)V"⟩, 3) := ⟨⟨by decide +kernel, by decide +kernel⟩, List.mem_of_getElem? (i := 320) (by decide +kernel), List.mem_of_getElem? (i := 431) (by decide +kernel), List.mem_of_getElem? (i := 432) (by decide +kernel)⟩
theorem lw_p5 : lw_okq (⟨"StackAssembler$Encoder", "addType", "(I)V"⟩, 3) := ⟨⟨by decide +kernel, by decide +kernel⟩, List.mem_of_getElem? (i := 320) (by decide +kernel), List.mem_of_getElem? (i := 435) (by decide +kernel), List.mem_of_getElem? (i := 436) (by decide +kernel)⟩
theorem lw_p6 : lw_okq (⟨"StackAssembler$Encoder", "putSizeAhead", "(I)V"⟩, 3) := ⟨⟨by decide +kernel, by decide +kernel⟩, List.mem_of_getElem? (i := 320) (by decide +kernel), List.mem_of_getElem? (i := 439) (by decide +kernel), List.mem_of_getElem? (i := 440) (by decide +kernel)⟩
theorem lw_p7 : lw_okq (⟨"StackAssembler$Encoder", "addSignatureNumbers", "(LStackAssembler$Module;)V"⟩, 3) := ⟨⟨by decide +kernel, by decide +kernel⟩, List.mem_of_getElem? (i := 320) (by decide +kernel), List.mem_of_getElem? (i := 443) (by decide +kernel), List.mem_of_getElem? (i := 444) (by decide +kernel)⟩
theorem lw_p8 : lw_okq (⟨"StackAssembler$Encoder", "addBodies", "(LStackAssembler$Module;)V"⟩, 3) := ⟨⟨by decide +kernel, by decide +kernel⟩, List.mem_of_getElem? (i := 320) (by decide +kernel), List.mem_of_getElem? (i := 447) (by decide +kernel), List.mem_of_getElem? (i := 448) (by decide +kernel)⟩
theorem lw_p9 : lw_okq (⟨"StackAssembler$Encoder", "addBody", "(LStackAssembler$Module;LStackAssembler$Function;)V"⟩, 3) := ⟨⟨by decide +kernel, by decide +kernel⟩, List.mem_of_getElem? (i := 320) (by decide +kernel), List.mem_of_getElem? (i := 451) (by decide +kernel), List.mem_of_getElem? (i := 452) (by decide +kernel)⟩
theorem lw_p10 : lw_okq (⟨"StackAssembler$Encoder", "addRuns", "(LStackAssembler$Function;)V"⟩, 3) := ⟨⟨by decide +kernel, by decide +kernel⟩, List.mem_of_getElem? (i := 320) (by decide +kernel), List.mem_of_getElem? (i := 455) (by decide +kernel), List.mem_of_getElem? (i := 456) (by decide +kernel)⟩
theorem lw_p11 : lw_okq (⟨"StackAssembler$Encoder", "addOperand", "(LStackAssembler$Op;J)V"⟩, 3) := ⟨⟨by decide +kernel, by decide +kernel⟩, List.mem_of_getElem? (i := 320) (by decide +kernel), List.mem_of_getElem? (i := 467) (by decide +kernel), List.mem_of_getElem? (i := 468) (by decide +kernel)⟩
theorem lw_p12 : lw_okq (⟨"StackAssembler$Encoder", "addSigned", "(J)V"⟩, 3) := ⟨⟨by decide +kernel, by decide +kernel⟩, List.mem_of_getElem? (i := 320) (by decide +kernel), List.mem_of_getElem? (i := 471) (by decide +kernel), List.mem_of_getElem? (i := 472) (by decide +kernel)⟩
theorem lw_p13 : lw_okq (⟨"StackAssembler$Scanner", "behindGaps", "(I)I"⟩, 6) := ⟨⟨by decide +kernel, by decide +kernel⟩, List.mem_of_getElem? (i := 162) (by decide +kernel), List.mem_of_getElem? (i := 547) (by decide +kernel), List.mem_of_getElem? (i := 548) (by decide +kernel)⟩
theorem lw_p14 : lw_okq (⟨"StackAssembler$Scanner", "behindGap", "(I)I"⟩, 6) := ⟨⟨by decide +kernel, by decide +kernel⟩, List.mem_of_getElem? (i := 162) (by decide +kernel), List.mem_of_getElem? (i := 551) (by decide +kernel), List.mem_of_getElem? (i := 552) (by decide +kernel)⟩
theorem lw_p15 : lw_okq (⟨"StackAssembler$Scanner", "behindLine", "(I)I"⟩, 6) := ⟨⟨by decide +kernel, by decide +kernel⟩, List.mem_of_getElem? (i := 162) (by decide +kernel), List.mem_of_getElem? (i := 556) (by decide +kernel), List.mem_of_getElem? (i := 557) (by decide +kernel)⟩
def lw_privs_1 : List (MethodName × Nat) := [(⟨"StackAssembler$Encoder", "add", "(I)V"⟩, 3), (⟨"StackAssembler$Encoder", "addSignatures", "(LStackAssembler$Module;)V"⟩, 3), (⟨"StackAssembler$Encoder", "numberSignatures", "(LStackAssembler$Module;)I"⟩, 3), (⟨"StackAssembler$Encoder", "addUnsigned", "(J)V"⟩, 3), (⟨"StackAssembler$Encoder", "addSignature", "(LStackAssembler$Function;)V"⟩, 3), (⟨"StackAssembler$Encoder", "addType", "(I)V"⟩, 3), (⟨"StackAssembler$Encoder", "putSizeAhead", "(I)V"⟩, 3), (⟨"StackAssembler$Encoder", "addSignatureNumbers", "(LStackAssembler$Module;)V"⟩, 3), (⟨"StackAssembler$Encoder", "addBodies", "(LStackAssembler$Module;)V"⟩, 3), (⟨"StackAssembler$Encoder", "addBody", "(LStackAssembler$Module;LStackAssembler$Function;)V"⟩, 3), (⟨"StackAssembler$Encoder", "addRuns", "(LStackAssembler$Function;)V"⟩, 3), (⟨"StackAssembler$Encoder", "addOperand", "(LStackAssembler$Op;J)V"⟩, 3), (⟨"StackAssembler$Encoder", "addSigned", "(J)V"⟩, 3), (⟨"StackAssembler$Scanner", "behindGaps", "(I)I"⟩, 6), (⟨"StackAssembler$Scanner", "behindGap", "(I)I"⟩, 6), (⟨"StackAssembler$Scanner", "behindLine", "(I)I"⟩, 6)]
theorem lw_r1 : ∀ q ∈ lw_privs_1, lw_okq q := List.forall_mem_cons.mpr ⟨lw_p0, List.forall_mem_cons.mpr ⟨lw_p1, List.forall_mem_cons.mpr ⟨lw_p2, List.forall_mem_cons.mpr ⟨lw_p3, List.forall_mem_cons.mpr ⟨lw_p4, List.forall_mem_cons.mpr ⟨lw_p5, List.forall_mem_cons.mpr ⟨lw_p6, List.forall_mem_cons.mpr ⟨lw_p7, List.forall_mem_cons.mpr ⟨lw_p8, List.forall_mem_cons.mpr ⟨lw_p9, List.forall_mem_cons.mpr ⟨lw_p10, List.forall_mem_cons.mpr ⟨lw_p11, List.forall_mem_cons.mpr ⟨lw_p12, List.forall_mem_cons.mpr ⟨lw_p13, List.forall_mem_cons.mpr ⟨lw_p14, List.forall_mem_cons.mpr ⟨lw_p15, fun _ h => absurd h List.not_mem_nil⟩⟩⟩⟩⟩⟩⟩⟩⟩⟩⟩⟩⟩⟩⟩⟩
theorem lw_p16 : lw_okq (⟨"StackAssembler$Scanner", "behindComment", "(I)I"⟩, 6) := ⟨⟨by decide +kernel, by decide +kernel⟩, List.mem_of_getElem? (i := 162) (by decide +kernel), List.mem_of_getElem? (i := 560) (by decide +kernel), List.mem_of_getElem? (i := 561) (by decide +kernel)⟩
theorem lw_p17 : lw_okq (⟨"StackAssembler$Scanner", "behindWord", "(I)I"⟩, 6) := ⟨⟨by decide +kernel, by decide +kernel⟩, List.mem_of_getElem? (i := 162) (by decide +kernel), List.mem_of_getElem? (i := 567) (by decide +kernel), List.mem_of_getElem? (i := 568) (by decide +kernel)⟩
theorem lw_p18 : lw_okq (⟨"StackAssembler$Scanner", "findOp", "()LStackAssembler$Op;"⟩, 6) := ⟨⟨by decide +kernel, by decide +kernel⟩, List.mem_of_getElem? (i := 162) (by decide +kernel), List.mem_of_getElem? (i := 571) (by decide +kernel), List.mem_of_getElem? (i := 572) (by decide +kernel)⟩
theorem lw_p19 : lw_okq (⟨"StackAssembler$Reader", "judge", "(LStackAssembler$Level;)I"⟩, 10) := ⟨⟨by decide +kernel, by decide +kernel⟩, List.mem_of_getElem? (i := 154) (by decide +kernel), List.mem_of_getElem? (i := 629) (by decide +kernel), List.mem_of_getElem? (i := 630) (by decide +kernel)⟩
theorem lw_p20 : lw_okq (⟨"StackAssembler$Reader", "inOperand", "(LStackAssembler$Level;)I"⟩, 10) := ⟨⟨by decide +kernel, by decide +kernel⟩, List.mem_of_getElem? (i := 154) (by decide +kernel), List.mem_of_getElem? (i := 633) (by decide +kernel), List.mem_of_getElem? (i := 634) (by decide +kernel)⟩
theorem lw_p21 : lw_okq (⟨"StackAssembler$Reader", "readOperand", "(I)Z"⟩, 10) := ⟨⟨by decide +kernel, by decide +kernel⟩, List.mem_of_getElem? (i := 154) (by decide +kernel), List.mem_of_getElem? (i := 637) (by decide +kernel), List.mem_of_getElem? (i := 638) (by decide +kernel)⟩
theorem lw_p22 : lw_okq (⟨"StackAssembler$Reader", "readNumber", "(JJ)Z"⟩, 10) := ⟨⟨by decide +kernel, by decide +kernel⟩, List.mem_of_getElem? (i := 154) (by decide +kernel), List.mem_of_getElem? (i := 643) (by decide +kernel), List.mem_of_getElem? (i := 644) (by decide +kernel)⟩
theorem lw_p23 : lw_okq (⟨"StackAssembler$Reader", "labelNamed", "()I"⟩, 10) := ⟨⟨by decide +kernel, by decide +kernel⟩, List.mem_of_getElem? (i := 154) (by decide +kernel), List.mem_of_getElem? (i := 672) (by decide +kernel), List.mem_of_getElem? (i := 673) (by decide +kernel)⟩
theorem lw_p24 : lw_okq (⟨"StackAssembler$Reader", "slotNamed", "()I"⟩, 10) := ⟨⟨by decide +kernel, by decide +kernel⟩, List.mem_of_getElem? (i := 154) (by decide +kernel), List.mem_of_getElem? (i := 684) (by decide +kernel), List.mem_of_getElem? (i := 685) (by decide +kernel)⟩
theorem lw_p25 : lw_okq (⟨"StackAssembler$Reader", "setLatestOperand", "(J)V"⟩, 10) := ⟨⟨by decide +kernel, by decide +kernel⟩, List.mem_of_getElem? (i := 154) (by decide +kernel), List.mem_of_getElem? (i := 689) (by decide +kernel), List.mem_of_getElem? (i := 690) (by decide +kernel)⟩
theorem lw_p26 : lw_okq (⟨"StackAssembler$Reader", "inText", "(LStackAssembler$Level;)I"⟩, 10) := ⟨⟨by decide +kernel, by decide +kernel⟩, List.mem_of_getElem? (i := 154) (by decide +kernel), List.mem_of_getElem? (i := 693) (by decide +kernel), List.mem_of_getElem? (i := 694) (by decide +kernel)⟩
theorem lw_p27 : lw_okq (⟨"StackAssembler$Reader", "open", "()I"⟩, 10) := ⟨⟨by decide +kernel, by decide +kernel⟩, List.mem_of_getElem? (i := 154) (by decide +kernel), List.mem_of_getElem? (i := 697) (by decide +kernel), List.mem_of_getElem? (i := 698) (by decide +kernel)⟩
theorem lw_p28 : lw_okq (⟨"StackAssembler$Reader", "push", "(I)Z"⟩, 10) := ⟨⟨by decide +kernel, by decide +kernel⟩, List.mem_of_getElem? (i := 154) (by decide +kernel), List.mem_of_getElem? (i := 701) (by decide +kernel), List.mem_of_getElem? (i := 702) (by decide +kernel)⟩
theorem lw_p29 : lw_okq (⟨"StackAssembler$Reader", "behindOpening", "(LStackAssembler$Level;)I"⟩, 10) := ⟨⟨by decide +kernel, by decide +kernel⟩, List.mem_of_getElem? (i := 154) (by decide +kernel), List.mem_of_getElem? (i := 705) (by decide +kernel), List.mem_of_getElem? (i := 706) (by decide +kernel)⟩
theorem lw_p30 : lw_okq (⟨"StackAssembler$Reader", "beginFunction", "(LStackAssembler$Level;)I"⟩, 10) := ⟨⟨by decide +kernel, by decide +kernel⟩, List.mem_of_getElem? (i := 154) (by decide +kernel), List.mem_of_getElem? (i := 712) (by decide +kernel), List.mem_of_getElem? (i := 713) (by decide +kernel)⟩
theorem lw_p31 : lw_okq (⟨"StackAssembler$Reader", "setFunctionName", "(I)V"⟩, 10) := ⟨⟨by decide +kernel, by decide +kernel⟩, List.mem_of_getElem? (i := 154) (by decide +kernel), List.mem_of_getElem? (i := 726) (by decide +kernel), List.mem_of_getElem? (i := 727) (by decide +kernel)⟩
def lw_privs_2 : List (MethodName × Nat) := [(⟨"StackAssembler$Scanner", "behindComment", "(I)I"⟩, 6), (⟨"StackAssembler$Scanner", "behindWord", "(I)I"⟩, 6), (⟨"StackAssembler$Scanner", "findOp", "()LStackAssembler$Op;"⟩, 6), (⟨"StackAssembler$Reader", "judge", "(LStackAssembler$Level;)I"⟩, 10), (⟨"StackAssembler$Reader", "inOperand", "(LStackAssembler$Level;)I"⟩, 10), (⟨"StackAssembler$Reader", "readOperand", "(I)Z"⟩, 10), (⟨"StackAssembler$Reader", "readNumber", "(JJ)Z"⟩, 10), (⟨"StackAssembler$Reader", "labelNamed", "()I"⟩, 10), (⟨"StackAssembler$Reader", "slotNamed", "()I"⟩, 10), (⟨"StackAssembler$Reader", "setLatestOperand", "(J)V"⟩, 10), (⟨"StackAssembler$Reader", "inText", "(LStackAssembler$Level;)I"⟩, 10), (⟨"StackAssembler$Reader", "open", "()I"⟩, 10), (⟨"StackAssembler$Reader", "push", "(I)Z"⟩, 10), (⟨"StackAssembler$Reader", "behindOpening", "(LStackAssembler$Level;)I"⟩, 10), (⟨"StackAssembler$Reader", "beginFunction", "(LStackAssembler$Level;)I"⟩, 10), (⟨"StackAssembler$Reader", "setFunctionName", "(I)V"⟩, 10)]
theorem lw_r2 : ∀ q ∈ lw_privs_2, lw_okq q := List.forall_mem_cons.mpr ⟨lw_p16, List.forall_mem_cons.mpr ⟨lw_p17, List.forall_mem_cons.mpr ⟨lw_p18, List.forall_mem_cons.mpr ⟨lw_p19, List.forall_mem_cons.mpr ⟨lw_p20, List.forall_mem_cons.mpr ⟨lw_p21, List.forall_mem_cons.mpr ⟨lw_p22, List.forall_mem_cons.mpr ⟨lw_p23, List.forall_mem_cons.mpr ⟨lw_p24, List.forall_mem_cons.mpr ⟨lw_p25, List.forall_mem_cons.mpr ⟨lw_p26, List.forall_mem_cons.mpr ⟨lw_p27, List.forall_mem_cons.mpr ⟨lw_p28, List.forall_mem_cons.mpr ⟨lw_p29, List.forall_mem_cons.mpr ⟨lw_p30, List.forall_mem_cons.mpr ⟨lw_p31, fun _ h => absurd h List.not_mem_nil⟩⟩⟩⟩⟩⟩⟩⟩⟩⟩⟩⟩⟩⟩⟩⟩
theorem lw_p32 : lw_okq (⟨"StackAssembler$Reader", "beginFolded", "(LStackAssembler$Level;)I"⟩, 10) := ⟨⟨by decide +kernel, by decide +kernel⟩, List.mem_of_getElem? (i := 154) (by decide +kernel), List.mem_of_getElem? (i := 730) (by decide +kernel), List.mem_of_getElem? (i := 731) (by decide +kernel)⟩
theorem lw_p33 : lw_okq (⟨"StackAssembler$Reader", "beginPart", "(LStackAssembler$Level;LStackAssembler$Level;)I"⟩, 10) := ⟨⟨by decide +kernel, by decide +kernel⟩, List.mem_of_getElem? (i := 154) (by decide +kernel), List.mem_of_getElem? (i := 749) (by decide +kernel), List.mem_of_getElem? (i := 750) (by decide +kernel)⟩
theorem lw_p34 : lw_okq (⟨"StackAssembler$Reader", "inModule", "()I"⟩, 10) := ⟨⟨by decide +kernel, by decide +kernel⟩, List.mem_of_getElem? (i := 154) (by decide +kernel), List.mem_of_getElem? (i := 756) (by decide +kernel), List.mem_of_getElem? (i := 757) (by decide +kernel)⟩
theorem lw_p35 : lw_okq (⟨"StackAssembler$Reader", "close", "()I"⟩, 10) := ⟨⟨by decide +kernel, by decide +kernel⟩, List.mem_of_getElem? (i := 154) (by decide +kernel), List.mem_of_getElem? (i := 760) (by decide +kernel), List.mem_of_getElem? (i := 761) (by decide +kernel)⟩
theorem lw_p36 : lw_okq (⟨"StackAssembler$Reader", "inDeclaration", "(LStackAssembler$Level;)I"⟩, 10) := ⟨⟨by decide +kernel, by decide +kernel⟩, List.mem_of_getElem? (i := 154) (by decide +kernel), List.mem_of_getElem? (i := 764) (by decide +kernel), List.mem_of_getElem? (i := 765) (by decide +kernel)⟩
theorem lw_p37 : lw_okq (⟨"StackAssembler$Reader", "declare", "(LStackAssembler$Level;I)Z"⟩, 10) := ⟨⟨by decide +kernel, by decide +kernel⟩, List.mem_of_getElem? (i := 154) (by decide +kernel), List.mem_of_getElem? (i := 774) (by decide +kernel), List.mem_of_getElem? (i := 775) (by decide +kernel)⟩
theorem lw_p38 : lw_okq (⟨"StackAssembler$Reader", "inResult", "(LStackAssembler$Level;)I"⟩, 10) := ⟨⟨by decide +kernel, by decide +kernel⟩, List.mem_of_getElem? (i := 154) (by decide +kernel), List.mem_of_getElem? (i := 787) (by decide +kernel), List.mem_of_getElem? (i := 788) (by decide +kernel)⟩
theorem lw_p39 : lw_okq (⟨"StackAssembler$Reader", "setResult", "(I)V"⟩, 10) := ⟨⟨by decide +kernel, by decide +kernel⟩, List.mem_of_getElem? (i := 154) (by decide +kernel), List.mem_of_getElem? (i := 791) (by decide +kernel), List.mem_of_getElem? (i := 792) (by decide +kernel)⟩
theorem lw_p40 : lw_okq (⟨"StackAssembler$Reader", "inFolded", "(LStackAssembler$Level;)I"⟩, 10) := ⟨⟨by decide +kernel, by decide +kernel⟩, List.mem_of_getElem? (i := 154) (by decide +kernel), List.mem_of_getElem? (i := 795) (by decide +kernel), List.mem_of_getElem? (i := 796) (by decide +kernel)⟩
theorem lw_p41 : lw_okq (⟨"StackAssembler$Reader", "inBody", "(LStackAssembler$Level;)I"⟩, 10) := ⟨⟨by decide +kernel, by decide +kernel⟩, List.mem_of_getElem? (i := 154) (by decide +kernel), List.mem_of_getElem? (i := 803) (by decide +kernel), List.mem_of_getElem? (i := 804) (by decide +kernel)⟩
theorem lw_p42 : lw_okq (⟨"StackAssembler$Reader", "instructionIn", "(LStackAssembler$Level;)I"⟩, 10) := ⟨⟨by decide +kernel, by decide +kernel⟩, List.mem_of_getElem? (i := 154) (by decide +kernel), List.mem_of_getElem? (i := 807) (by decide +kernel), List.mem_of_getElem? (i := 808) (by decide +kernel)⟩
theorem lw_p43 : lw_okq (⟨"StackAssembler$Reader", "giveName", "(LStackAssembler$Level;)I"⟩, 10) := ⟨⟨by decide +kernel, by decide +kernel⟩, List.mem_of_getElem? (i := 154) (by decide +kernel), List.mem_of_getElem? (i := 816) (by decide +kernel), List.mem_of_getElem? (i := 817) (by decide +kernel)⟩
theorem lw_p44 : lw_okq (⟨"StackAssembler$Reader", "functionNamed", "(I)I"⟩, 10) := ⟨⟨by decide +kernel, by decide +kernel⟩, List.mem_of_getElem? (i := 154) (by decide +kernel), List.mem_of_getElem? (i := 820) (by decide +kernel), List.mem_of_getElem? (i := 821) (by decide +kernel)⟩
theorem lw_p45 : lw_okq (⟨"StackAssembler$Reader", "findFunctions", "()I"⟩, 10) := ⟨⟨by decide +kernel, by decide +kernel⟩, List.mem_of_getElem? (i := 154) (by decide +kernel), List.mem_of_getElem? (i := 824) (by decide +kernel), List.mem_of_getElem? (i := 825) (by decide +kernel)⟩
theorem lw_p46 : lw_okq (⟨"StackAssembler$Checker", "checkFunction", "()I"⟩, 8) := ⟨⟨by decide +kernel, by decide +kernel⟩, List.mem_of_getElem? (i := 250) (by decide +kernel), List.mem_of_getElem? (i := 835) (by decide +kernel), List.mem_of_getElem? (i := 836) (by decide +kernel)⟩
theorem lw_p47 : lw_okq (⟨"StackAssembler$Checker", "check", "(LStackAssembler$Op;J)V"⟩, 8) := ⟨⟨by decide +kernel, by decide +kernel⟩, List.mem_of_getElem? (i := 250) (by decide +kernel), List.mem_of_getElem? (i := 843) (by decide +kernel), List.mem_of_getElem? (i := 844) (by decide +kernel)⟩
def lw_privs_3 : List (MethodName × Nat) := [(⟨"StackAssembler$Reader", "beginFolded", "(LStackAssembler$Level;)I"⟩, 10), (⟨"StackAssembler$Reader", "beginPart", "(LStackAssembler$Level;LStackAssembler$Level;)I"⟩, 10), (⟨"StackAssembler$Reader", "inModule", "()I"⟩, 10), (⟨"StackAssembler$Reader", "close", "()I"⟩, 10), (⟨"StackAssembler$Reader", "inDeclaration", "(LStackAssembler$Level;)I"⟩, 10), (⟨"StackAssembler$Reader", "declare", "(LStackAssembler$Level;I)Z"⟩, 10), (⟨"StackAssembler$Reader", "inResult", "(LStackAssembler$Level;)I"⟩, 10), (⟨"StackAssembler$Reader", "setResult", "(I)V"⟩, 10), (⟨"StackAssembler$Reader", "inFolded", "(LStackAssembler$Level;)I"⟩, 10), (⟨"StackAssembler$Reader", "inBody", "(LStackAssembler$Level;)I"⟩, 10), (⟨"StackAssembler$Reader", "instructionIn", "(LStackAssembler$Level;)I"⟩, 10), (⟨"StackAssembler$Reader", "giveName", "(LStackAssembler$Level;)I"⟩, 10), (⟨"StackAssembler$Reader", "functionNamed", "(I)I"⟩, 10), (⟨"StackAssembler$Reader", "findFunctions", "()I"⟩, 10), (⟨"StackAssembler$Checker", "checkFunction", "()I"⟩, 8), (⟨"StackAssembler$Checker", "check", "(LStackAssembler$Op;J)V"⟩, 8)]
theorem lw_r3 : ∀ q ∈ lw_privs_3, lw_okq q := List.forall_mem_cons.mpr ⟨lw_p32, List.forall_mem_cons.mpr ⟨lw_p33, List.forall_mem_cons.mpr ⟨lw_p34, List.forall_mem_cons.mpr ⟨lw_p35, List.forall_mem_cons.mpr ⟨lw_p36, List.forall_mem_cons.mpr ⟨lw_p37, List.forall_mem_cons.mpr ⟨lw_p38, List.forall_mem_cons.mpr ⟨lw_p39, List.forall_mem_cons.mpr ⟨lw_p40, List.forall_mem_cons.mpr ⟨lw_p41, List.forall_mem_cons.mpr ⟨lw_p42, List.forall_mem_cons.mpr ⟨lw_p43, List.forall_mem_cons.mpr ⟨lw_p44, List.forall_mem_cons.mpr ⟨lw_p45, List.forall_mem_cons.mpr ⟨lw_p46, List.forall_mem_cons.mpr ⟨lw_p47, fun _ h => absurd h List.not_mem_nil⟩⟩⟩⟩⟩⟩⟩⟩⟩⟩⟩⟩⟩⟩⟩⟩
theorem lw_p48 : lw_okq (⟨"StackAssembler$Checker", "beginFrame", "(LStackAssembler$Op;I)V"⟩, 8) := ⟨⟨by decide +kernel, by decide +kernel⟩, List.mem_of_getElem? (i := 250) (by decide +kernel), List.mem_of_getElem? (i := 855) (by decide +kernel), List.mem_of_getElem? (i := 856) (by decide +kernel)⟩
theorem lw_p49 : lw_okq (⟨"StackAssembler$Checker", "take", "(I)I"⟩, 8) := ⟨⟨by decide +kernel, by decide +kernel⟩, List.mem_of_getElem? (i := 250) (by decide +kernel), List.mem_of_getElem? (i := 860) (by decide +kernel), List.mem_of_getElem? (i := 861) (by decide +kernel)⟩
theorem lw_p50 : lw_okq (⟨"StackAssembler$Checker", "endFrame", "()V"⟩, 8) := ⟨⟨by decide +kernel, by decide +kernel⟩, List.mem_of_getElem? (i := 250) (by decide +kernel), List.mem_of_getElem? (i := 866) (by decide +kernel), List.mem_of_getElem? (i := 867) (by decide +kernel)⟩
theorem lw_p51 : lw_okq (⟨"StackAssembler$Checker", "takeResult", "(I)V"⟩, 8) := ⟨⟨by decide +kernel, by decide +kernel⟩, List.mem_of_getElem? (i := 250) (by decide +kernel), List.mem_of_getElem? (i := 870) (by decide +kernel), List.mem_of_getElem? (i := 871) (by decide +kernel)⟩
theorem lw_p52 : lw_okq (⟨"StackAssembler$Checker", "restartFrame", "()V"⟩, 8) := ⟨⟨by decide +kernel, by decide +kernel⟩, List.mem_of_getElem? (i := 250) (by decide +kernel), List.mem_of_getElem? (i := 874) (by decide +kernel), List.mem_of_getElem? (i := 875) (by decide +kernel)⟩
theorem lw_p53 : lw_okq (⟨"StackAssembler$Checker", "leaveFrame", "()V"⟩, 8) := ⟨⟨by decide +kernel, by decide +kernel⟩, List.mem_of_getElem? (i := 250) (by decide +kernel), List.mem_of_getElem? (i := 878) (by decide +kernel), List.mem_of_getElem? (i := 879) (by decide +kernel)⟩
theorem lw_p54 : lw_okq (⟨"StackAssembler$Checker", "put", "(I)V"⟩, 8) := ⟨⟨by decide +kernel, by decide +kernel⟩, List.mem_of_getElem? (i := 250) (by decide +kernel), List.mem_of_getElem? (i := 883) (by decide +kernel), List.mem_of_getElem? (i := 884) (by decide +kernel)⟩
theorem lw_p55 : lw_okq (⟨"StackAssembler$Checker", "checkBranch", "(LStackAssembler$Op;J)V"⟩, 8) := ⟨⟨by decide +kernel, by decide +kernel⟩, List.mem_of_getElem? (i := 250) (by decide +kernel), List.mem_of_getElem? (i := 887) (by decide +kernel), List.mem_of_getElem? (i := 888) (by decide +kernel)⟩
theorem lw_p56 : lw_okq (⟨"StackAssembler$Checker", "makeUnreachable", "()V"⟩, 8) := ⟨⟨by decide +kernel, by decide +kernel⟩, List.mem_of_getElem? (i := 250) (by decide +kernel), List.mem_of_getElem? (i := 893) (by decide +kernel), List.mem_of_getElem? (i := 894) (by decide +kernel)⟩
theorem lw_p57 : lw_okq (⟨"StackAssembler$Checker", "checkCall", "(J)V"⟩, 8) := ⟨⟨by decide +kernel, by decide +kernel⟩, List.mem_of_getElem? (i := 250) (by decide +kernel), List.mem_of_getElem? (i := 897) (by decide +kernel), List.mem_of_getElem? (i := 898) (by decide +kernel)⟩
theorem lw_p58 : lw_okq (⟨"StackAssembler$Checker", "checkSelect", "()V"⟩, 8) := ⟨⟨by decide +kernel, by decide +kernel⟩, List.mem_of_getElem? (i := 250) (by decide +kernel), List.mem_of_getElem? (i := 903) (by decide +kernel), List.mem_of_getElem? (i := 904) (by decide +kernel)⟩
theorem lw_p59 : lw_okq (⟨"StackAssembler$Checker", "checkSlot", "(LStackAssembler$Op;J)V"⟩, 8) := ⟨⟨by decide +kernel, by decide +kernel⟩, List.mem_of_getElem? (i := 250) (by decide +kernel), List.mem_of_getElem? (i := 907) (by decide +kernel), List.mem_of_getElem? (i := 908) (by decide +kernel)⟩
theorem lw_p60 : lw_okq (⟨"StackAssembler$Checker", "checkSimple", "(LStackAssembler$Op;)V"⟩, 8) := ⟨⟨by decide +kernel, by decide +kernel⟩, List.mem_of_getElem? (i := 250) (by decide +kernel), List.mem_of_getElem? (i := 916) (by decide +kernel), List.mem_of_getElem? (i := 917) (by decide +kernel)⟩
theorem lw_p61 : lw_okq (⟨"java/lang/Throwable", "fillInStackTrace", "(I)Ljava/lang/Throwable;"⟩, 6) := ⟨⟨by decide +kernel, by decide +kernel⟩, List.mem_of_getElem? (i := 958) (by decide +kernel), List.mem_of_getElem? (i := 956) (by decide +kernel), List.mem_of_getElem? (i := 957) (by decide +kernel)⟩
theorem lw_p62 : lw_okq (⟨"StackAssembler$Printer", "writeFunction", "(LStackAssembler$Module;LStackAssembler$Function;)V"⟩, 1) := ⟨⟨by decide +kernel, by decide +kernel⟩, List.mem_of_getElem? (i := 338) (by decide +kernel), List.mem_of_getElem? (i := 1037) (by decide +kernel), List.mem_of_getElem? (i := 1038) (by decide +kernel)⟩
theorem lw_p63 : lw_okq (⟨"StackAssembler$Printer", "writeSlots", "(Ljava/lang/String;LStackAssembler$Function;II)V"⟩, 1) := ⟨⟨by decide +kernel, by decide +kernel⟩, List.mem_of_getElem? (i := 338) (by decide +kernel), List.mem_of_getElem? (i := 1043) (by decide +kernel), List.mem_of_getElem? (i := 1044) (by decide +kernel)⟩
def lw_privs_4 : List (MethodName × Nat) := [(⟨"StackAssembler$Checker", "beginFrame", "(LStackAssembler$Op;I)V"⟩, 8), (⟨"StackAssembler$Checker", "take", "(I)I"⟩, 8), (⟨"StackAssembler$Checker", "endFrame", "()V"⟩, 8), (⟨"StackAssembler$Checker", "takeResult", "(I)V"⟩, 8), (⟨"StackAssembler$Checker", "restartFrame", "()V"⟩, 8), (⟨"StackAssembler$Checker", "leaveFrame", "()V"⟩, 8), (⟨"StackAssembler$Checker", "put", "(I)V"⟩, 8), (⟨"StackAssembler$Checker", "checkBranch", "(LStackAssembler$Op;J)V"⟩, 8), (⟨"StackAssembler$Checker", "makeUnreachable", "()V"⟩, 8), (⟨"StackAssembler$Checker", "checkCall", "(J)V"⟩, 8), (⟨"StackAssembler$Checker", "checkSelect", "()V"⟩, 8), (⟨"StackAssembler$Checker", "checkSlot", "(LStackAssembler$Op;J)V"⟩, 8), (⟨"StackAssembler$Checker", "checkSimple", "(LStackAssembler$Op;)V"⟩, 8), (⟨"java/lang/Throwable", "fillInStackTrace", "(I)Ljava/lang/Throwable;"⟩, 6), (⟨"StackAssembler$Printer", "writeFunction", "(LStackAssembler$Module;LStackAssembler$Function;)V"⟩, 1), (⟨"StackAssembler$Printer", "writeSlots", "(Ljava/lang/String;LStackAssembler$Function;II)V"⟩, 1)]
theorem lw_r4 : ∀ q ∈ lw_privs_4, lw_okq q := List.forall_mem_cons.mpr ⟨lw_p48, List.forall_mem_cons.mpr ⟨lw_p49, List.forall_mem_cons.mpr ⟨lw_p50, List.forall_mem_cons.mpr ⟨lw_p51, List.forall_mem_cons.mpr ⟨lw_p52, List.forall_mem_cons.mpr ⟨lw_p53, List.forall_mem_cons.mpr ⟨lw_p54, List.forall_mem_cons.mpr ⟨lw_p55, List.forall_mem_cons.mpr ⟨lw_p56, List.forall_mem_cons.mpr ⟨lw_p57, List.forall_mem_cons.mpr ⟨lw_p58, List.forall_mem_cons.mpr ⟨lw_p59, List.forall_mem_cons.mpr ⟨lw_p60, List.forall_mem_cons.mpr ⟨lw_p61, List.forall_mem_cons.mpr ⟨lw_p62, List.forall_mem_cons.mpr ⟨lw_p63, fun _ h => absurd h List.not_mem_nil⟩⟩⟩⟩⟩⟩⟩⟩⟩⟩⟩⟩⟩⟩⟩⟩
theorem lw_p64 : lw_okq (⟨"StackAssembler$Printer", "writeType", "(I)V"⟩, 1) := ⟨⟨by decide +kernel, by decide +kernel⟩, List.mem_of_getElem? (i := 338) (by decide +kernel), List.mem_of_getElem? (i := 1049) (by decide +kernel), List.mem_of_getElem? (i := 1050) (by decide +kernel)⟩
theorem lw_p65 : lw_okq (⟨"StackAssembler$Printer", "writeResult", "(I)V"⟩, 1) := ⟨⟨by decide +kernel, by decide +kernel⟩, List.mem_of_getElem? (i := 338) (by decide +kernel), List.mem_of_getElem? (i := 1055) (by decide +kernel), List.mem_of_getElem? (i := 1056) (by decide +kernel)⟩
theorem lw_p66 : lw_okq (⟨"StackAssembler$Printer", "writeInstruction", "(LStackAssembler$Op;J)V"⟩, 1) := ⟨⟨by decide +kernel, by decide +kernel⟩, List.mem_of_getElem? (i := 338) (by decide +kernel), List.mem_of_getElem? (i := 1061) (by decide +kernel), List.mem_of_getElem? (i := 1062) (by decide +kernel)⟩
theorem lw_p67 : lw_okq (⟨"StackAssemblerModel", "readModule", "()Z"⟩, 64) := ⟨⟨by decide +kernel, by decide +kernel⟩, List.mem_of_getElem? (i := 1077) (by decide +kernel), List.mem_of_getElem? (i := 1332) (by decide +kernel), List.mem_of_getElem? (i := 1333) (by decide +kernel)⟩
theorem lw_p68 : lw_okq (⟨"StackAssemblerModel", "next", "()V"⟩, 64) := ⟨⟨by decide +kernel, by decide +kernel⟩, List.mem_of_getElem? (i := 1077) (by decide +kernel), List.mem_of_getElem? (i := 1336) (by decide +kernel), List.mem_of_getElem? (i := 1337) (by decide +kernel)⟩
theorem lw_p69 : lw_okq (⟨"StackAssemblerModel", "ch", "(I)I"⟩, 64) := ⟨⟨by decide +kernel, by decide +kernel⟩, List.mem_of_getElem? (i := 1077) (by decide +kernel), List.mem_of_getElem? (i := 1340) (by decide +kernel), List.mem_of_getElem? (i := 1341) (by decide +kernel)⟩
theorem lw_p70 : lw_okq (⟨"StackAssemblerModel", "comment", "()Z"⟩, 64) := ⟨⟨by decide +kernel, by decide +kernel⟩, List.mem_of_getElem? (i := 1077) (by decide +kernel), List.mem_of_getElem? (i := 1344) (by decide +kernel), List.mem_of_getElem? (i := 1345) (by decide +kernel)⟩
theorem lw_p71 : lw_okq (⟨"StackAssemblerModel", "readWord", "()V"⟩, 64) := ⟨⟨by decide +kernel, by decide +kernel⟩, List.mem_of_getElem? (i := 1077) (by decide +kernel), List.mem_of_getElem? (i := 1354) (by decide +kernel), List.mem_of_getElem? (i := 1355) (by decide +kernel)⟩
theorem lw_p72 : lw_okq (⟨"StackAssemblerModel", "pass", "(I)Z"⟩, 64) := ⟨⟨by decide +kernel, by decide +kernel⟩, List.mem_of_getElem? (i := 1077) (by decide +kernel), List.mem_of_getElem? (i := 1358) (by decide +kernel), List.mem_of_getElem? (i := 1359) (by decide +kernel)⟩
theorem lw_p73 : lw_okq (⟨"StackAssemblerModel", "fail", "(I)Z"⟩, 64) := ⟨⟨by decide +kernel, by decide +kernel⟩, List.mem_of_getElem? (i := 1077) (by decide +kernel), List.mem_of_getElem? (i := 1362) (by decide +kernel), List.mem_of_getElem? (i := 1363) (by decide +kernel)⟩
theorem lw_p74 : lw_okq (⟨"StackAssemblerModel", "passWord", "(JI)Z"⟩, 64) := ⟨⟨by decide +kernel, by decide +kernel⟩, List.mem_of_getElem? (i := 1077) (by decide +kernel), List.mem_of_getElem? (i := 1367) (by decide +kernel), List.mem_of_getElem? (i := 1368) (by decide +kernel)⟩
theorem lw_p75 : lw_okq (⟨"StackAssemblerModel", "is", "(JI)Z"⟩, 64) := ⟨⟨by decide +kernel, by decide +kernel⟩, List.mem_of_getElem? (i := 1077) (by decide +kernel), List.mem_of_getElem? (i := 1371) (by decide +kernel), List.mem_of_getElem? (i := 1372) (by decide +kernel)⟩
theorem lw_p76 : lw_okq (⟨"StackAssemblerModel", "readFunction", "(I)Z"⟩, 64) := ⟨⟨by decide +kernel, by decide +kernel⟩, List.mem_of_getElem? (i := 1077) (by decide +kernel), List.mem_of_getElem? (i := 1376) (by decide +kernel), List.mem_of_getElem? (i := 1377) (by decide +kernel)⟩
theorem lw_p77 : lw_okq (⟨"StackAssemblerModel", "isId", "()Z"⟩, 64) := ⟨⟨by decide +kernel, by decide +kernel⟩, List.mem_of_getElem? (i := 1077) (by decide +kernel), List.mem_of_getElem? (i := 1380) (by decide +kernel), List.mem_of_getElem? (i := 1381) (by decide +kernel)⟩
theorem lw_p78 : lw_okq (⟨"StackAssemblerModel", "sameName", "(IIII)Z"⟩, 64) := ⟨⟨by decide +kernel, by decide +kernel⟩, List.mem_of_getElem? (i := 1077) (by decide +kernel), List.mem_of_getElem? (i := 1384) (by decide +kernel), List.mem_of_getElem? (i := 1385) (by decide +kernel)⟩
theorem lw_p79 : lw_okq (⟨"StackAssemblerModel", "variables", "(IZ)Z"⟩, 64) := ⟨⟨by decide +kernel, by decide +kernel⟩, List.mem_of_getElem? (i := 1077) (by decide +kernel), List.mem_of_getElem? (i := 1389) (by decide +kernel), List.mem_of_getElem? (i := 1390) (by decide +kernel)⟩
def lw_privs_5 : List (MethodName × Nat) := [(⟨"StackAssembler$Printer", "writeType", "(I)V"⟩, 1), (⟨"StackAssembler$Printer", "writeResult", "(I)V"⟩, 1), (⟨"StackAssembler$Printer", "writeInstruction", "(LStackAssembler$Op;J)V"⟩, 1), (⟨"StackAssemblerModel", "readModule", "()Z"⟩, 64), (⟨"StackAssemblerModel", "next", "()V"⟩, 64), (⟨"StackAssemblerModel", "ch", "(I)I"⟩, 64), (⟨"StackAssemblerModel", "comment", "()Z"⟩, 64), (⟨"StackAssemblerModel", "readWord", "()V"⟩, 64), (⟨"StackAssemblerModel", "pass", "(I)Z"⟩, 64), (⟨"StackAssemblerModel", "fail", "(I)Z"⟩, 64), (⟨"StackAssemblerModel", "passWord", "(JI)Z"⟩, 64), (⟨"StackAssemblerModel", "is", "(JI)Z"⟩, 64), (⟨"StackAssemblerModel", "readFunction", "(I)Z"⟩, 64), (⟨"StackAssemblerModel", "isId", "()Z"⟩, 64), (⟨"StackAssemblerModel", "sameName", "(IIII)Z"⟩, 64), (⟨"StackAssemblerModel", "variables", "(IZ)Z"⟩, 64)]
theorem lw_r5 : ∀ q ∈ lw_privs_5, lw_okq q := List.forall_mem_cons.mpr ⟨lw_p64, List.forall_mem_cons.mpr ⟨lw_p65, List.forall_mem_cons.mpr ⟨lw_p66, List.forall_mem_cons.mpr ⟨lw_p67, List.forall_mem_cons.mpr ⟨lw_p68, List.forall_mem_cons.mpr ⟨lw_p69, List.forall_mem_cons.mpr ⟨lw_p70, List.forall_mem_cons.mpr ⟨lw_p71, List.forall_mem_cons.mpr ⟨lw_p72, List.forall_mem_cons.mpr ⟨lw_p73, List.forall_mem_cons.mpr ⟨lw_p74, List.forall_mem_cons.mpr ⟨lw_p75, List.forall_mem_cons.mpr ⟨lw_p76, List.forall_mem_cons.mpr ⟨lw_p77, List.forall_mem_cons.mpr ⟨lw_p78, List.forall_mem_cons.mpr ⟨lw_p79, fun _ h => absurd h List.not_mem_nil⟩⟩⟩⟩⟩⟩⟩⟩⟩⟩⟩⟩⟩⟩⟩⟩
theorem lw_p80 : lw_okq (⟨"StackAssemblerModel", "variableOf", "(I)I"⟩, 64) := ⟨⟨by decide +kernel, by decide +kernel⟩, List.mem_of_getElem? (i := 1077) (by decide +kernel), List.mem_of_getElem? (i := 1393) (by decide +kernel), List.mem_of_getElem? (i := 1394) (by decide +kernel)⟩
theorem lw_p81 : lw_okq (⟨"StackAssemblerModel", "variable", "(IZII)Z"⟩, 64) := ⟨⟨by decide +kernel, by decide +kernel⟩, List.mem_of_getElem? (i := 1077) (by decide +kernel), List.mem_of_getElem? (i := 1397) (by decide +kernel), List.mem_of_getElem? (i := 1398) (by decide +kernel)⟩
theorem lw_p82 : lw_okq (⟨"StackAssemblerModel", "readType", "()I"⟩, 64) := ⟨⟨by decide +kernel, by decide +kernel⟩, List.mem_of_getElem? (i := 1077) (by decide +kernel), List.mem_of_getElem? (i := 1404) (by decide +kernel), List.mem_of_getElem? (i := 1405) (by decide +kernel)⟩
theorem lw_p83 : lw_okq (⟨"StackAssemblerModel", "body", "(IZ)Z"⟩, 64) := ⟨⟨by decide +kernel, by decide +kernel⟩, List.mem_of_getElem? (i := 1077) (by decide +kernel), List.mem_of_getElem? (i := 1409) (by decide +kernel), List.mem_of_getElem? (i := 1410) (by decide +kernel)⟩
theorem lw_p84 : lw_okq (⟨"StackAssemblerModel", "fold", "(I)Z"⟩, 64) := ⟨⟨by decide +kernel, by decide +kernel⟩, List.mem_of_getElem? (i := 1077) (by decide +kernel), List.mem_of_getElem? (i := 1413) (by decide +kernel), List.mem_of_getElem? (i := 1414) (by decide +kernel)⟩
theorem lw_p85 : lw_okq (⟨"StackAssemblerModel", "instructionWord", "()I"⟩, 64) := ⟨⟨by decide +kernel, by decide +kernel⟩, List.mem_of_getElem? (i := 1077) (by decide +kernel), List.mem_of_getElem? (i := 1417) (by decide +kernel), List.mem_of_getElem? (i := 1418) (by decide +kernel)⟩
theorem lw_p86 : lw_okq (⟨"StackAssemblerModel", "readImmediate", "(II)Z"⟩, 64) := ⟨⟨by decide +kernel, by decide +kernel⟩, List.mem_of_getElem? (i := 1077) (by decide +kernel), List.mem_of_getElem? (i := 1424) (by decide +kernel), List.mem_of_getElem? (i := 1425) (by decide +kernel)⟩
theorem lw_p87 : lw_okq (⟨"StackAssemblerModel", "constant", "(Z)Z"⟩, 64) := ⟨⟨by decide +kernel, by decide +kernel⟩, List.mem_of_getElem? (i := 1077) (by decide +kernel), List.mem_of_getElem? (i := 1428) (by decide +kernel), List.mem_of_getElem? (i := 1429) (by decide +kernel)⟩
theorem lw_p88 : lw_okq (⟨"StackAssemblerModel", "digits", "(I)Z"⟩, 64) := ⟨⟨by decide +kernel, by decide +kernel⟩, List.mem_of_getElem? (i := 1077) (by decide +kernel), List.mem_of_getElem? (i := 1432) (by decide +kernel), List.mem_of_getElem? (i := 1433) (by decide +kernel)⟩
theorem lw_p89 : lw_okq (⟨"StackAssemblerModel", "index", "(II)Z"⟩, 64) := ⟨⟨by decide +kernel, by decide +kernel⟩, List.mem_of_getElem? (i := 1077) (by decide +kernel), List.mem_of_getElem? (i := 1443) (by decide +kernel), List.mem_of_getElem? (i := 1444) (by decide +kernel)⟩
theorem lw_p90 : lw_okq (⟨"StackAssemblerModel", "labelOf", "()I"⟩, 64) := ⟨⟨by decide +kernel, by decide +kernel⟩, List.mem_of_getElem? (i := 1077) (by decide +kernel), List.mem_of_getElem? (i := 1447) (by decide +kernel), List.mem_of_getElem? (i := 1448) (by decide +kernel)⟩
theorem lw_p91 : lw_okq (⟨"StackAssemblerModel", "inFold", "(I)Z"⟩, 64) := ⟨⟨by decide +kernel, by decide +kernel⟩, List.mem_of_getElem? (i := 1077) (by decide +kernel), List.mem_of_getElem? (i := 1451) (by decide +kernel), List.mem_of_getElem? (i := 1452) (by decide +kernel)⟩
theorem lw_p92 : lw_okq (⟨"StackAssemblerModel", "open", "()Z"⟩, 64) := ⟨⟨by decide +kernel, by decide +kernel⟩, List.mem_of_getElem? (i := 1077) (by decide +kernel), List.mem_of_getElem? (i := 1455) (by decide +kernel), List.mem_of_getElem? (i := 1456) (by decide +kernel)⟩
theorem lw_p93 : lw_okq (⟨"StackAssemblerModel", "hasRoom", "()Z"⟩, 64) := ⟨⟨by decide +kernel, by decide +kernel⟩, List.mem_of_getElem? (i := 1077) (by decide +kernel), List.mem_of_getElem? (i := 1459) (by decide +kernel), List.mem_of_getElem? (i := 1460) (by decide +kernel)⟩
theorem lw_p94 : lw_okq (⟨"StackAssemblerModel", "emit", "(IJ)I"⟩, 64) := ⟨⟨by decide +kernel, by decide +kernel⟩, List.mem_of_getElem? (i := 1077) (by decide +kernel), List.mem_of_getElem? (i := 1463) (by decide +kernel), List.mem_of_getElem? (i := 1464) (by decide +kernel)⟩
theorem lw_p95 : lw_okq (⟨"StackAssemblerModel", "noteCall", "(II)V"⟩, 64) := ⟨⟨by decide +kernel, by decide +kernel⟩, List.mem_of_getElem? (i := 1077) (by decide +kernel), List.mem_of_getElem? (i := 1467) (by decide +kernel), List.mem_of_getElem? (i := 1468) (by decide +kernel)⟩
def lw_privs_6 : List (MethodName × Nat) := [(⟨"StackAssemblerModel", "variableOf", "(I)I"⟩, 64), (⟨"StackAssemblerModel", "variable", "(IZII)Z"⟩, 64), (⟨"StackAssemblerModel", "readType", "()I"⟩, 64), (⟨"StackAssemblerModel", "body", "(IZ)Z"⟩, 64), (⟨"StackAssemblerModel", "fold", "(I)Z"⟩, 64), (⟨"StackAssemblerModel", "instructionWord", "()I"⟩, 64), (⟨"StackAssemblerModel", "readImmediate", "(II)Z"⟩, 64), (⟨"StackAssemblerModel", "constant", "(Z)Z"⟩, 64), (⟨"StackAssemblerModel", "digits", "(I)Z"⟩, 64), (⟨"StackAssemblerModel", "index", "(II)Z"⟩, 64), (⟨"StackAssemblerModel", "labelOf", "()I"⟩, 64), (⟨"StackAssemblerModel", "inFold", "(I)Z"⟩, 64), (⟨"StackAssemblerModel", "open", "()Z"⟩, 64), (⟨"StackAssemblerModel", "hasRoom", "()Z"⟩, 64), (⟨"StackAssemblerModel", "emit", "(IJ)I"⟩, 64), (⟨"StackAssemblerModel", "noteCall", "(II)V"⟩, 64)]
theorem lw_r6 : ∀ q ∈ lw_privs_6, lw_okq q := List.forall_mem_cons.mpr ⟨lw_p80, List.forall_mem_cons.mpr ⟨lw_p81, List.forall_mem_cons.mpr ⟨lw_p82, List.forall_mem_cons.mpr ⟨lw_p83, List.forall_mem_cons.mpr ⟨lw_p84, List.forall_mem_cons.mpr ⟨lw_p85, List.forall_mem_cons.mpr ⟨lw_p86, List.forall_mem_cons.mpr ⟨lw_p87, List.forall_mem_cons.mpr ⟨lw_p88, List.forall_mem_cons.mpr ⟨lw_p89, List.forall_mem_cons.mpr ⟨lw_p90, List.forall_mem_cons.mpr ⟨lw_p91, List.forall_mem_cons.mpr ⟨lw_p92, List.forall_mem_cons.mpr ⟨lw_p93, List.forall_mem_cons.mpr ⟨lw_p94, List.forall_mem_cons.mpr ⟨lw_p95, fun _ h => absurd h List.not_mem_nil⟩⟩⟩⟩⟩⟩⟩⟩⟩⟩⟩⟩⟩⟩⟩⟩
theorem lw_p96 : lw_okq (⟨"StackAssemblerModel", "readInstruction", "(I)Z"⟩, 64) := ⟨⟨by decide +kernel, by decide +kernel⟩, List.mem_of_getElem? (i := 1077) (by decide +kernel), List.mem_of_getElem? (i := 1471) (by decide +kernel), List.mem_of_getElem? (i := 1472) (by decide +kernel)⟩
theorem lw_p97 : lw_okq (⟨"StackAssemblerModel", "beginBlock", "(II)Z"⟩, 64) := ⟨⟨by decide +kernel, by decide +kernel⟩, List.mem_of_getElem? (i := 1077) (by decide +kernel), List.mem_of_getElem? (i := 1475) (by decide +kernel), List.mem_of_getElem? (i := 1476) (by decide +kernel)⟩
theorem lw_p98 : lw_okq (⟨"StackAssemblerModel", "turnBlock", "(I)Z"⟩, 64) := ⟨⟨by decide +kernel, by decide +kernel⟩, List.mem_of_getElem? (i := 1077) (by decide +kernel), List.mem_of_getElem? (i := 1479) (by decide +kernel), List.mem_of_getElem? (i := 1480) (by decide +kernel)⟩
theorem lw_p99 : lw_okq (⟨"StackAssemblerModel", "blockName", "(I)Z"⟩, 64) := ⟨⟨by decide +kernel, by decide +kernel⟩, List.mem_of_getElem? (i := 1077) (by decide +kernel), List.mem_of_getElem? (i := 1483) (by decide +kernel), List.mem_of_getElem? (i := 1484) (by decide +kernel)⟩
theorem lw_p100 : lw_okq (⟨"StackAssemblerModel", "resolve", "()Z"⟩, 64) := ⟨⟨by decide +kernel, by decide +kernel⟩, List.mem_of_getElem? (i := 1077) (by decide +kernel), List.mem_of_getElem? (i := 1487) (by decide +kernel), List.mem_of_getElem? (i := 1488) (by decide +kernel)⟩
theorem lw_p101 : lw_okq (⟨"StackAssemblerModel", "raise", "(I)I"⟩, 64) := ⟨⟨by decide +kernel, by decide +kernel⟩, List.mem_of_getElem? (i := 1077) (by decide +kernel), List.mem_of_getElem? (i := 1491) (by decide +kernel), List.mem_of_getElem? (i := 1492) (by decide +kernel)⟩
theorem lw_p102 : lw_okq (⟨"StackAssemblerModel", "isValid", "()Z"⟩, 64) := ⟨⟨by decide +kernel, by decide +kernel⟩, List.mem_of_getElem? (i := 1077) (by decide +kernel), List.mem_of_getElem? (i := 1495) (by decide +kernel), List.mem_of_getElem? (i := 1496) (by decide +kernel)⟩
theorem lw_p103 : lw_okq (⟨"StackAssemblerModel", "frame", "(III)V"⟩, 64) := ⟨⟨by decide +kernel, by decide +kernel⟩, List.mem_of_getElem? (i := 1077) (by decide +kernel), List.mem_of_getElem? (i := 1499) (by decide +kernel), List.mem_of_getElem? (i := 1500) (by decide +kernel)⟩
theorem lw_p104 : lw_okq (⟨"StackAssemblerModel", "endFrame", "()V"⟩, 64) := ⟨⟨by decide +kernel, by decide +kernel⟩, List.mem_of_getElem? (i := 1077) (by decide +kernel), List.mem_of_getElem? (i := 1503) (by decide +kernel), List.mem_of_getElem? (i := 1504) (by decide +kernel)⟩
theorem lw_p105 : lw_okq (⟨"StackAssemblerModel", "takeResult", "(I)V"⟩, 64) := ⟨⟨by decide +kernel, by decide +kernel⟩, List.mem_of_getElem? (i := 1077) (by decide +kernel), List.mem_of_getElem? (i := 1507) (by decide +kernel), List.mem_of_getElem? (i := 1508) (by decide +kernel)⟩
theorem lw_p106 : lw_okq (⟨"StackAssemblerModel", "take", "(I)I"⟩, 64) := ⟨⟨by decide +kernel, by decide +kernel⟩, List.mem_of_getElem? (i := 1077) (by decide +kernel), List.mem_of_getElem? (i := 1511) (by decide +kernel), List.mem_of_getElem? (i := 1512) (by decide +kernel)⟩
theorem lw_p107 : lw_okq (⟨"StackAssemblerModel", "check", "(IIJ)V"⟩, 64) := ⟨⟨by decide +kernel, by decide +kernel⟩, List.mem_of_getElem? (i := 1077) (by decide +kernel), List.mem_of_getElem? (i := 1515) (by decide +kernel), List.mem_of_getElem? (i := 1516) (by decide +kernel)⟩
theorem lw_p108 : lw_okq (⟨"StackAssemblerModel", "die", "()V"⟩, 64) := ⟨⟨by decide +kernel, by decide +kernel⟩, List.mem_of_getElem? (i := 1077) (by decide +kernel), List.mem_of_getElem? (i := 1519) (by decide +kernel), List.mem_of_getElem? (i := 1520) (by decide +kernel)⟩
theorem lw_p109 : lw_okq (⟨"StackAssemblerModel", "control", "(II)V"⟩, 64) := ⟨⟨by decide +kernel, by decide +kernel⟩, List.mem_of_getElem? (i := 1077) (by decide +kernel), List.mem_of_getElem? (i := 1523) (by decide +kernel), List.mem_of_getElem? (i := 1524) (by decide +kernel)⟩
theorem lw_p110 : lw_okq (⟨"StackAssemblerModel", "put", "(I)V"⟩, 64) := ⟨⟨by decide +kernel, by decide +kernel⟩, List.mem_of_getElem? (i := 1077) (by decide +kernel), List.mem_of_getElem? (i := 1527) (by decide +kernel), List.mem_of_getElem? (i := 1528) (by decide +kernel)⟩
theorem lw_p111 : lw_okq (⟨"StackAssemblerModel", "branch", "(IJ)V"⟩, 64) := ⟨⟨by decide +kernel, by decide +kernel⟩, List.mem_of_getElem? (i := 1077) (by decide +kernel), List.mem_of_getElem? (i := 1531) (by decide +kernel), List.mem_of_getElem? (i := 1532) (by decide +kernel)⟩
def lw_privs_7 : List (MethodName × Nat) := [(⟨"StackAssemblerModel", "readInstruction", "(I)Z"⟩, 64), (⟨"StackAssemblerModel", "beginBlock", "(II)Z"⟩, 64), (⟨"StackAssemblerModel", "turnBlock", "(I)Z"⟩, 64), (⟨"StackAssemblerModel", "blockName", "(I)Z"⟩, 64), (⟨"StackAssemblerModel", "resolve", "()Z"⟩, 64), (⟨"StackAssemblerModel", "raise", "(I)I"⟩, 64), (⟨"StackAssemblerModel", "isValid", "()Z"⟩, 64), (⟨"StackAssemblerModel", "frame", "(III)V"⟩, 64), (⟨"StackAssemblerModel", "endFrame", "()V"⟩, 64), (⟨"StackAssemblerModel", "takeResult", "(I)V"⟩, 64), (⟨"StackAssemblerModel", "take", "(I)I"⟩, 64), (⟨"StackAssemblerModel", "check", "(IIJ)V"⟩, 64), (⟨"StackAssemblerModel", "die", "()V"⟩, 64), (⟨"StackAssemblerModel", "control", "(II)V"⟩, 64), (⟨"StackAssemblerModel", "put", "(I)V"⟩, 64), (⟨"StackAssemblerModel", "branch", "(IJ)V"⟩, 64)]
theorem lw_r7 : ∀ q ∈ lw_privs_7, lw_okq q := List.forall_mem_cons.mpr ⟨lw_p96, List.forall_mem_cons.mpr ⟨lw_p97, List.forall_mem_cons.mpr ⟨lw_p98, List.forall_mem_cons.mpr ⟨lw_p99, List.forall_mem_cons.mpr ⟨lw_p100, List.forall_mem_cons.mpr ⟨lw_p101, List.forall_mem_cons.mpr ⟨lw_p102, List.forall_mem_cons.mpr ⟨lw_p103, List.forall_mem_cons.mpr ⟨lw_p104, List.forall_mem_cons.mpr ⟨lw_p105, List.forall_mem_cons.mpr ⟨lw_p106, List.forall_mem_cons.mpr ⟨lw_p107, List.forall_mem_cons.mpr ⟨lw_p108, List.forall_mem_cons.mpr ⟨lw_p109, List.forall_mem_cons.mpr ⟨lw_p110, List.forall_mem_cons.mpr ⟨lw_p111, fun _ h => absurd h List.not_mem_nil⟩⟩⟩⟩⟩⟩⟩⟩⟩⟩⟩⟩⟩⟩⟩⟩
theorem lw_p112 : lw_okq (⟨"StackAssemblerModel", "bad", "()V"⟩, 64) := ⟨⟨by decide +kernel, by decide +kernel⟩, List.mem_of_getElem? (i := 1077) (by decide +kernel), List.mem_of_getElem? (i := 1535) (by decide +kernel), List.mem_of_getElem? (i := 1536) (by decide +kernel)⟩
theorem lw_p113 : lw_okq (⟨"StackAssemblerModel", "takeAndPut", "(I)V"⟩, 64) := ⟨⟨by decide +kernel, by decide +kernel⟩, List.mem_of_getElem? (i := 1077) (by decide +kernel), List.mem_of_getElem? (i := 1539) (by decide +kernel), List.mem_of_getElem? (i := 1540) (by decide +kernel)⟩
theorem lw_p114 : lw_okq (⟨"StackAssemblerModel", "callOf", "(J)V"⟩, 64) := ⟨⟨by decide +kernel, by decide +kernel⟩, List.mem_of_getElem? (i := 1077) (by decide +kernel), List.mem_of_getElem? (i := 1543) (by decide +kernel), List.mem_of_getElem? (i := 1544) (by decide +kernel)⟩
theorem lw_p115 : lw_okq (⟨"StackAssemblerModel", "select", "()V"⟩, 64) := ⟨⟨by decide +kernel, by decide +kernel⟩, List.mem_of_getElem? (i := 1077) (by decide +kernel), List.mem_of_getElem? (i := 1547) (by decide +kernel), List.mem_of_getElem? (i := 1548) (by decide +kernel)⟩
theorem lw_p116 : lw_okq (⟨"StackAssemblerModel", "local", "(IIJ)V"⟩, 64) := ⟨⟨by decide +kernel, by decide +kernel⟩, List.mem_of_getElem? (i := 1077) (by decide +kernel), List.mem_of_getElem? (i := 1551) (by decide +kernel), List.mem_of_getElem? (i := 1552) (by decide +kernel)⟩
theorem lw_p117 : lw_okq (⟨"StackAssemblerModel", "arithmetic", "(I)V"⟩, 64) := ⟨⟨by decide +kernel, by decide +kernel⟩, List.mem_of_getElem? (i := 1077) (by decide +kernel), List.mem_of_getElem? (i := 1555) (by decide +kernel), List.mem_of_getElem? (i := 1556) (by decide +kernel)⟩
theorem lw_p118 : lw_okq (⟨"StackAssemblerModel", "adopt", "()V"⟩, 64) := ⟨⟨by decide +kernel, by decide +kernel⟩, List.mem_of_getElem? (i := 1077) (by decide +kernel), List.mem_of_getElem? (i := 1559) (by decide +kernel), List.mem_of_getElem? (i := 1560) (by decide +kernel)⟩
theorem lw_p119 : lw_okq (⟨"StackAssemblerModel", "add", "(I)V"⟩, 64) := ⟨⟨by decide +kernel, by decide +kernel⟩, List.mem_of_getElem? (i := 1077) (by decide +kernel), List.mem_of_getElem? (i := 1567) (by decide +kernel), List.mem_of_getElem? (i := 1568) (by decide +kernel)⟩
theorem lw_p120 : lw_okq (⟨"StackAssemblerModel", "signatureSection", "()V"⟩, 64) := ⟨⟨by decide +kernel, by decide +kernel⟩, List.mem_of_getElem? (i := 1077) (by decide +kernel), List.mem_of_getElem? (i := 1571) (by decide +kernel), List.mem_of_getElem? (i := 1572) (by decide +kernel)⟩
theorem lw_p121 : lw_okq (⟨"StackAssemblerModel", "signaturesBefore", "(I)I"⟩, 64) := ⟨⟨by decide +kernel, by decide +kernel⟩, List.mem_of_getElem? (i := 1077) (by decide +kernel), List.mem_of_getElem? (i := 1575) (by decide +kernel), List.mem_of_getElem? (i := 1576) (by decide +kernel)⟩
theorem lw_p122 : lw_okq (⟨"StackAssemblerModel", "firstLike", "(I)I"⟩, 64) := ⟨⟨by decide +kernel, by decide +kernel⟩, List.mem_of_getElem? (i := 1077) (by decide +kernel), List.mem_of_getElem? (i := 1579) (by decide +kernel), List.mem_of_getElem? (i := 1580) (by decide +kernel)⟩
theorem lw_p123 : lw_okq (⟨"StackAssemblerModel", "sameSignature", "(II)Z"⟩, 64) := ⟨⟨by decide +kernel, by decide +kernel⟩, List.mem_of_getElem? (i := 1077) (by decide +kernel), List.mem_of_getElem? (i := 1583) (by decide +kernel), List.mem_of_getElem? (i := 1584) (by decide +kernel)⟩
theorem lw_p124 : lw_okq (⟨"StackAssemblerModel", "unsigned", "(J)V"⟩, 64) := ⟨⟨by decide +kernel, by decide +kernel⟩, List.mem_of_getElem? (i := 1077) (by decide +kernel), List.mem_of_getElem? (i := 1587) (by decide +kernel), List.mem_of_getElem? (i := 1588) (by decide +kernel)⟩
theorem lw_p125 : lw_okq (⟨"StackAssemblerModel", "close", "(I)V"⟩, 64) := ⟨⟨by decide +kernel, by decide +kernel⟩, List.mem_of_getElem? (i := 1077) (by decide +kernel), List.mem_of_getElem? (i := 1595) (by decide +kernel), List.mem_of_getElem? (i := 1596) (by decide +kernel)⟩
theorem lw_p126 : lw_okq (⟨"StackAssemblerModel", "functionSection", "()V"⟩, 64) := ⟨⟨by decide +kernel, by decide +kernel⟩, List.mem_of_getElem? (i := 1077) (by decide +kernel), List.mem_of_getElem? (i := 1599) (by decide +kernel), List.mem_of_getElem? (i := 1600) (by decide +kernel)⟩
theorem lw_p127 : lw_okq (⟨"StackAssemblerModel", "codeSection", "()V"⟩, 64) := ⟨⟨by decide +kernel, by decide +kernel⟩, List.mem_of_getElem? (i := 1077) (by decide +kernel), List.mem_of_getElem? (i := 1603) (by decide +kernel), List.mem_of_getElem? (i := 1604) (by decide +kernel)⟩
def lw_privs_8 : List (MethodName × Nat) := [(⟨"StackAssemblerModel", "bad", "()V"⟩, 64), (⟨"StackAssemblerModel", "takeAndPut", "(I)V"⟩, 64), (⟨"StackAssemblerModel", "callOf", "(J)V"⟩, 64), (⟨"StackAssemblerModel", "select", "()V"⟩, 64), (⟨"StackAssemblerModel", "local", "(IIJ)V"⟩, 64), (⟨"StackAssemblerModel", "arithmetic", "(I)V"⟩, 64), (⟨"StackAssemblerModel", "adopt", "()V"⟩, 64), (⟨"StackAssemblerModel", "add", "(I)V"⟩, 64), (⟨"StackAssemblerModel", "signatureSection", "()V"⟩, 64), (⟨"StackAssemblerModel", "signaturesBefore", "(I)I"⟩, 64), (⟨"StackAssemblerModel", "firstLike", "(I)I"⟩, 64), (⟨"StackAssemblerModel", "sameSignature", "(II)Z"⟩, 64), (⟨"StackAssemblerModel", "unsigned", "(J)V"⟩, 64), (⟨"StackAssemblerModel", "close", "(I)V"⟩, 64), (⟨"StackAssemblerModel", "functionSection", "()V"⟩, 64), (⟨"StackAssemblerModel", "codeSection", "()V"⟩, 64)]
theorem lw_r8 : ∀ q ∈ lw_privs_8, lw_okq q := List.forall_mem_cons.mpr ⟨lw_p112, List.forall_mem_cons.mpr ⟨lw_p113, List.forall_mem_cons.mpr ⟨lw_p114, List.forall_mem_cons.mpr ⟨lw_p115, List.forall_mem_cons.mpr ⟨lw_p116, List.forall_mem_cons.mpr ⟨lw_p117, List.forall_mem_cons.mpr ⟨lw_p118, List.forall_mem_cons.mpr ⟨lw_p119, List.forall_mem_cons.mpr ⟨lw_p120, List.forall_mem_cons.mpr ⟨lw_p121, List.forall_mem_cons.mpr ⟨lw_p122, List.forall_mem_cons.mpr ⟨lw_p123, List.forall_mem_cons.mpr ⟨lw_p124, List.forall_mem_cons.mpr ⟨lw_p125, List.forall_mem_cons.mpr ⟨lw_p126, List.forall_mem_cons.mpr ⟨lw_p127, fun _ h => absurd h List.not_mem_nil⟩⟩⟩⟩⟩⟩⟩⟩⟩⟩⟩⟩⟩⟩⟩⟩
theorem lw_p128 : lw_okq (⟨"StackAssemblerModel", "runs", "(I)V"⟩, 64) := ⟨⟨by decide +kernel, by decide +kernel⟩, List.mem_of_getElem? (i := 1077) (by decide +kernel), List.mem_of_getElem? (i := 1607) (by decide +kernel), List.mem_of_getElem? (i := 1608) (by decide +kernel)⟩
theorem lw_p129 : lw_okq (⟨"StackAssemblerModel", "runBegins", "(II)Z"⟩, 64) := ⟨⟨by decide +kernel, by decide +kernel⟩, List.mem_of_getElem? (i := 1077) (by decide +kernel), List.mem_of_getElem? (i := 1611) (by decide +kernel), List.mem_of_getElem? (i := 1612) (by decide +kernel)⟩
theorem lw_p130 : lw_okq (⟨"StackAssemblerModel", "instructionBytes", "(I)V"⟩, 64) := ⟨⟨by decide +kernel, by decide +kernel⟩, List.mem_of_getElem? (i := 1077) (by decide +kernel), List.mem_of_getElem? (i := 1615) (by decide +kernel), List.mem_of_getElem? (i := 1616) (by decide +kernel)⟩
theorem lw_p131 : lw_okq (⟨"StackAssemblerModel", "signed", "(J)V"⟩, 64) := ⟨⟨by decide +kernel, by decide +kernel⟩, List.mem_of_getElem? (i := 1077) (by decide +kernel), List.mem_of_getElem? (i := 1619) (by decide +kernel), List.mem_of_getElem? (i := 1620) (by decide +kernel)⟩
theorem lw_p132 : lw_okq (⟨"StackAssemblerModel", "out", "(I)V"⟩, 64) := ⟨⟨by decide +kernel, by decide +kernel⟩, List.mem_of_getElem? (i := 1077) (by decide +kernel), List.mem_of_getElem? (i := 1633) (by decide +kernel), List.mem_of_getElem? (i := 1634) (by decide +kernel)⟩
theorem lw_p133 : lw_okq (⟨"StackAssemblerModel", "outLong", "(J)V"⟩, 64) := ⟨⟨by decide +kernel, by decide +kernel⟩, List.mem_of_getElem? (i := 1077) (by decide +kernel), List.mem_of_getElem? (i := 1637) (by decide +kernel), List.mem_of_getElem? (i := 1638) (by decide +kernel)⟩
theorem lw_p134 : lw_okq (⟨"StackAssemblerModel", "outRow", "(JIII)V"⟩, 64) := ⟨⟨by decide +kernel, by decide +kernel⟩, List.mem_of_getElem? (i := 1077) (by decide +kernel), List.mem_of_getElem? (i := 1641) (by decide +kernel), List.mem_of_getElem? (i := 1642) (by decide +kernel)⟩
theorem lw_p135 : lw_okq (⟨"StackAssemblerModel", "outType", "(I)V"⟩, 64) := ⟨⟨by decide +kernel, by decide +kernel⟩, List.mem_of_getElem? (i := 1077) (by decide +kernel), List.mem_of_getElem? (i := 1645) (by decide +kernel), List.mem_of_getElem? (i := 1646) (by decide +kernel)⟩
theorem lw_p136 : lw_okq (⟨"StackAssemblerModel", "outResult", "(I)V"⟩, 64) := ⟨⟨by decide +kernel, by decide +kernel⟩, List.mem_of_getElem? (i := 1077) (by decide +kernel), List.mem_of_getElem? (i := 1649) (by decide +kernel), List.mem_of_getElem? (i := 1650) (by decide +kernel)⟩
theorem lw_p137 : lw_okq (⟨"StackAssemblerModel", "outInstruction", "(I)V"⟩, 64) := ⟨⟨by decide +kernel, by decide +kernel⟩, List.mem_of_getElem? (i := 1077) (by decide +kernel), List.mem_of_getElem? (i := 1653) (by decide +kernel), List.mem_of_getElem? (i := 1654) (by decide +kernel)⟩
theorem lw_p138 : lw_okq (⟨"StackAssemblerModel", "outNumber", "(J)V"⟩, 64) := ⟨⟨by decide +kernel, by decide +kernel⟩, List.mem_of_getElem? (i := 1077) (by decide +kernel), List.mem_of_getElem? (i := 1657) (by decide +kernel), List.mem_of_getElem? (i := 1658) (by decide +kernel)⟩
theorem lw_p139 : lw_okq (⟨"StackAssemblerModel", "isFunction", "(I)Z"⟩, 64) := ⟨⟨by decide +kernel, by decide +kernel⟩, List.mem_of_getElem? (i := 1077) (by decide +kernel), List.mem_of_getElem? (i := 1675) (by decide +kernel), List.mem_of_getElem? (i := 1676) (by decide +kernel)⟩
theorem lw_p140 : lw_okq (⟨"StackAssemblerModel", "isInstruction", "(II)Z"⟩, 64) := ⟨⟨by decide +kernel, by decide +kernel⟩, List.mem_of_getElem? (i := 1077) (by decide +kernel), List.mem_of_getElem? (i := 1683) (by decide +kernel), List.mem_of_getElem? (i := 1684) (by decide +kernel)⟩
def lw_privs_9 : List (MethodName × Nat) := [(⟨"StackAssemblerModel", "runs", "(I)V"⟩, 64), (⟨"StackAssemblerModel", "runBegins", "(II)Z"⟩, 64), (⟨"StackAssemblerModel", "instructionBytes", "(I)V"⟩, 64), (⟨"StackAssemblerModel", "signed", "(J)V"⟩, 64), (⟨"StackAssemblerModel", "out", "(I)V"⟩, 64), (⟨"StackAssemblerModel", "outLong", "(J)V"⟩, 64), (⟨"StackAssemblerModel", "outRow", "(JIII)V"⟩, 64), (⟨"StackAssemblerModel", "outType", "(I)V"⟩, 64), (⟨"StackAssemblerModel", "outResult", "(I)V"⟩, 64), (⟨"StackAssemblerModel", "outInstruction", "(I)V"⟩, 64), (⟨"StackAssemblerModel", "outNumber", "(J)V"⟩, 64), (⟨"StackAssemblerModel", "isFunction", "(I)Z"⟩, 64), (⟨"StackAssemblerModel", "isInstruction", "(II)Z"⟩, 64)]
theorem lw_r9 : ∀ q ∈ lw_privs_9, lw_okq q := List.forall_mem_cons.mpr ⟨lw_p128, List.forall_mem_cons.mpr ⟨lw_p129, List.forall_mem_cons.mpr ⟨lw_p130, List.forall_mem_cons.mpr ⟨lw_p131, List.forall_mem_cons.mpr ⟨lw_p132, List.forall_mem_cons.mpr ⟨lw_p133, List.forall_mem_cons.mpr ⟨lw_p134, List.forall_mem_cons.mpr ⟨lw_p135, List.forall_mem_cons.mpr ⟨lw_p136, List.forall_mem_cons.mpr ⟨lw_p137, List.forall_mem_cons.mpr ⟨lw_p138, List.forall_mem_cons.mpr ⟨lw_p139, List.forall_mem_cons.mpr ⟨lw_p140, fun _ h => absurd h List.not_mem_nil⟩⟩⟩⟩⟩⟩⟩⟩⟩⟩⟩⟩⟩
def lw_privs : List (MethodName × Nat) := lw_privs_1 ++ (lw_privs_2 ++ (lw_privs_3 ++ (lw_privs_4 ++ (lw_privs_5 ++ (lw_privs_6 ++ (lw_privs_7 ++ (lw_privs_8 ++ (lw_privs_9))))))))
def lw_tbl : List Cond := k2_sels lw_privs ++ tables_1
theorem lw_privs_ok : ∀ q ∈ lw_privs, lw_okq q := by
  show ∀ q ∈ lw_privs_1 ++ (lw_privs_2 ++ (lw_privs_3 ++ (lw_privs_4 ++ (lw_privs_5 ++ (lw_privs_6 ++ (lw_privs_7 ++ (lw_privs_8 ++ (lw_privs_9)))))))), lw_okq q
  exact List.forall_mem_append.mpr ⟨lw_r1, List.forall_mem_append.mpr ⟨lw_r2, List.forall_mem_append.mpr ⟨lw_r3, List.forall_mem_append.mpr ⟨lw_r4, List.forall_mem_append.mpr ⟨lw_r5, List.forall_mem_append.mpr ⟨lw_r6, List.forall_mem_append.mpr ⟨lw_r7, List.forall_mem_append.mpr ⟨lw_r8, lw_r9⟩⟩⟩⟩⟩⟩⟩⟩
end
section
def kz_TT : List Cond := lw_tbl.filter goodWord
def kz_isn (w : Cond) : Bool := match w with
  | .fieldLinkNest .. => true
  | .methodLinkNest .. => true
  | _ => false
def kz_NT : List Cond := tables_1.filter kz_isn
theorem kz_TTok : ∀ w ∈ kz_TT, (w.onTables && w.keeps) = true ∨ ∃ ty, w = .arrayClass ty := fun _ hw => good_of_word (List.mem_filter.mp hw).2
theorem kz_TTin : ∀ w ∈ kz_TT, w ∈ lw_tbl := fun _ hw => (List.mem_filter.mp hw).1
theorem kz_at (i : Nat) {w : Cond} (h : (decide (tables_1[i]? = some w) && goodWord w) = true) : w ∈ kz_TT := by
  rw [Bool.and_eq_true, decide_eq_true_eq] at h
  exact List.mem_filter.mpr ⟨List.mem_append_right _ (List.mem_of_getElem? h.1), h.2⟩
theorem kz_pv (i : Nat) {w : Cond} (h : (decide ((k2_sels lw_privs)[i]? = some w) && goodWord w) = true) : w ∈ kz_TT := by
  rw [Bool.and_eq_true, decide_eq_true_eq] at h
  exact List.mem_filter.mpr ⟨List.mem_append_left _ (List.mem_of_getElem? h.1), h.2⟩
theorem kz_in1 {w : Cond} (h : w ∈ tables_1_1) : w ∈ tables_1 := List.mem_append_left _ h
theorem kz_in2 {w : Cond} (h : w ∈ tables_1_2) : w ∈ tables_1 := List.mem_append_right _ (List.mem_append_left _ h)
theorem kz_in3 {w : Cond} (h : w ∈ tables_1_3) : w ∈ tables_1 := List.mem_append_right _ (List.mem_append_right _ (List.mem_append_left _ h))
theorem kz_in4 {w : Cond} (h : w ∈ tables_1_4) : w ∈ tables_1 := List.mem_append_right _ (List.mem_append_right _ (List.mem_append_right _ (List.mem_append_left _ h)))
theorem kz_in5 {w : Cond} (h : w ∈ tables_1_5) : w ∈ tables_1 := List.mem_append_right _ (List.mem_append_right _ (List.mem_append_right _ (List.mem_append_right _ (List.mem_append_left _ h))))
theorem kz_in6 {w : Cond} (h : w ∈ tables_1_6) : w ∈ tables_1 := List.mem_append_right _ (List.mem_append_right _ (List.mem_append_right _ (List.mem_append_right _ (List.mem_append_right _ (List.mem_append_left _ h)))))
theorem kz_in7 {w : Cond} (h : w ∈ tables_1_7) : w ∈ tables_1 := List.mem_append_right _ (List.mem_append_right _ (List.mem_append_right _ (List.mem_append_right _ (List.mem_append_right _ (List.mem_append_right _ (List.mem_append_left _ h))))))
theorem kz_in8 {w : Cond} (h : w ∈ tables_1_8) : w ∈ tables_1 := List.mem_append_right _ (List.mem_append_right _ (List.mem_append_right _ (List.mem_append_right _ (List.mem_append_right _ (List.mem_append_right _ (List.mem_append_right _ h))))))
theorem kz_g {w : Cond} (h : w ∈ tables_1) (g : goodWord w = true) : w ∈ kz_TT := List.mem_filter.mpr ⟨List.mem_append_right _ h, g⟩
theorem kz_s {q : MethodName × Nat} (h : q ∈ lw_privs) (g : goodWord (Cond.selects q.1.cls q.1 q.1) = true) : Cond.selects q.1.cls q.1 q.1 ∈ kz_TT := List.mem_filter.mpr ⟨List.mem_append_left _ (List.mem_map.mpr ⟨q, h, rfl⟩), g⟩
theorem kz_q {w : Cond} (h : w ∈ tables_1) (g : kz_isn w = true) : w ∈ kz_NT := List.mem_filter.mpr ⟨h, g⟩
def kz_T0 : u_T := fun k => match k with
  | 0 => ("StackAssembler", "reader", "LStackAssembler$Reader;", true)
  | 1 => ("StackAssembler", "checker", "LStackAssembler$Checker;", true)
  | 2 => ("StackAssembler", "encoder", "LStackAssembler$Encoder;", true)
  | 3 => ("StackAssembler", "printer", "LStackAssembler$Printer;", true)
  | 4 => ("StackAssembler", "text", "LStackAssembler$Text;", false)
  | 5 => ("StackAssembler", "spareText", "LStackAssembler$Text;", false)
  | 6 => ("StackAssembler", "module", "LStackAssembler$Module;", false)
  | 7 => ("StackAssembler", "spareModule", "LStackAssembler$Module;", false)
  | _ => ("StackAssembler", "place", "I", false)
def kz_T1 : u_T := fun k => match k with
  | 0 => ("StackAssembler$Checker", "stack", "[I", true)
  | 1 => ("StackAssembler$Checker", "frames", "[LStackAssembler$Frame;", true)
  | 2 => ("StackAssembler$Checker", "module", "LStackAssembler$Module;", false)
  | 3 => ("StackAssembler$Checker", "function", "LStackAssembler$Function;", false)
  | 4 => ("StackAssembler$Checker", "height", "I", false)
  | 5 => ("StackAssembler$Checker", "depth", "I", false)
  | 6 => ("StackAssembler$Checker", "invalid", "Z", false)
  | _ => ("StackAssembler$Checker", "stop", "I", false)
def kz_T2 : u_T := fun k => match k with
  | 0 => ("StackAssembler$Encoder", "octets", "[B", true)
  | 1 => ("StackAssembler$Encoder", "signatures", "[I", true)
  | _ => ("StackAssembler$Encoder", "count", "I", false)
def kz_T3 : u_T := fun k => match k with
  | 0 => ("StackAssembler$Frame", "label", "I", false)
  | 1 => ("StackAssembler$Frame", "result", "I", false)
  | 2 => ("StackAssembler$Frame", "height", "I", false)
  | 3 => ("StackAssembler$Frame", "unreachable", "Z", false)
  | _ => ("StackAssembler$Frame", "lacksElse", "Z", false)
def kz_T4 : u_T := fun k => match k with
  | 0 => ("StackAssembler$Function", "types", "[I", true)
  | 1 => ("StackAssembler$Function", "parameters", "I", false)
  | 2 => ("StackAssembler$Function", "slots", "I", false)
  | 3 => ("StackAssembler$Function", "result", "I", false)
  | 4 => ("StackAssembler$Function", "first", "I", false)
  | _ => ("StackAssembler$Function", "size", "I", false)
def kz_T5 : u_T := fun k => match k with
  | 0 => ("StackAssembler$Level", "kind", "I", false)
  | 1 => ("StackAssembler$Level", "phase", "I", false)
  | 2 => ("StackAssembler$Level", "name", "I", false)
  | 3 => ("StackAssembler$Level", "op", "LStackAssembler$Op;", false)
  | _ => ("StackAssembler$Level", "operand", "J", false)
def kz_T6 : u_T := fun k => match k with
  | 0 => ("StackAssembler$Module", "functions", "[LStackAssembler$Function;", true)
  | 1 => ("StackAssembler$Module", "ops", "[LStackAssembler$Op;", true)
  | 2 => ("StackAssembler$Module", "operands", "[J", true)
  | 3 => ("StackAssembler$Module", "count", "I", false)
  | _ => ("StackAssembler$Module", "length", "I", false)
def kz_T7 : u_T := fun k => match k with
  | 0 => ("StackAssembler$Op", "word", "Ljava/lang/String;", true)
  | 1 => ("StackAssembler$Op", "code", "I", true)
  | 2 => ("StackAssembler$Op", "operand", "I", true)
  | 3 => ("StackAssembler$Op", "takes", "I", true)
  | 4 => ("StackAssembler$Op", "taken", "I", true)
  | 5 => ("StackAssembler$Op", "puts", "I", true)
  | _ => ("java/lang/Enum", "ordinal", "I", true)
def kz_T8 : u_T := fun k => match k with
  | _ => ("StackAssembler$Printer", "text", "LStackAssembler$Text;", false)
def kz_T9 : u_T := fun k => match k with
  | 0 => ("StackAssembler$Reader", "scanner", "LStackAssembler$Scanner;", true)
  | 1 => ("StackAssembler$Reader", "levels", "[LStackAssembler$Level;", true)
  | 2 => ("StackAssembler$Reader", "functionNames", "[I", true)
  | 3 => ("StackAssembler$Reader", "slotNames", "[I", true)
  | 4 => ("StackAssembler$Reader", "module", "LStackAssembler$Module;", false)
  | 5 => ("StackAssembler$Reader", "depth", "I", false)
  | 6 => ("StackAssembler$Reader", "awaitsOperand", "Z", false)
  | 7 => ("StackAssembler$Reader", "nameOfEnded", "I", false)
  | 8 => ("StackAssembler$Reader", "value", "J", false)
  | _ => ("StackAssembler$Reader", "stop", "I", false)
def kz_T10 : u_T := fun k => match k with
  | 0 => ("StackAssembler$Scanner", "text", "LStackAssembler$Text;", false)
  | 1 => ("StackAssembler$Scanner", "kind", "I", false)
  | 2 => ("StackAssembler$Scanner", "start", "I", false)
  | 3 => ("StackAssembler$Scanner", "end", "I", false)
  | 4 => ("StackAssembler$Scanner", "op", "LStackAssembler$Op;", false)
  | _ => ("StackAssembler$Scanner", "number", "J", false)
def kz_T11 : u_T := fun k => match k with
  | 0 => ("StackAssembler$Text", "characters", "[C", true)
  | _ => ("StackAssembler$Text", "length", "I", false)
def kz_T12 : u_T := fun k => match k with
  | 0 => ("StackAssemblerModel", "head", "[J", true)
  | 1 => ("StackAssemblerModel", "rest", "[J", true)
  | 2 => ("StackAssemblerModel", "codeOf", "[I", true)
  | 3 => ("StackAssemblerModel", "thrown", "I", false)
  | 4 => ("StackAssemblerModel", "place", "I", false)
  | 5 => ("StackAssemblerModel", "size", "I", false)
  | 6 => ("StackAssemblerModel", "text", "[C", true)
  | 7 => ("StackAssemblerModel", "functions", "I", false)
  | 8 => ("StackAssemblerModel", "parameters", "[I", true)
  | 9 => ("StackAssemblerModel", "variables", "[I", true)
  | 10 => ("StackAssemblerModel", "results", "[I", true)
  | 11 => ("StackAssemblerModel", "types", "[I", true)
  | 12 => ("StackAssemblerModel", "start", "[I", true)
  | 13 => ("StackAssemblerModel", "codes", "[I", true)
  | 14 => ("StackAssemblerModel", "values", "[J", true)
  | 15 => ("StackAssemblerModel", "newFunctions", "I", false)
  | 16 => ("StackAssemblerModel", "newParameters", "[I", true)
  | 17 => ("StackAssemblerModel", "newVariables", "[I", true)
  | 18 => ("StackAssemblerModel", "newResults", "[I", true)
  | 19 => ("StackAssemblerModel", "newTypes", "[I", true)
  | 20 => ("StackAssemblerModel", "newStart", "[I", true)
  | 21 => ("StackAssemblerModel", "newCodes", "[I", true)
  | 22 => ("StackAssemblerModel", "newValues", "[J", true)
  | 23 => ("StackAssemblerModel", "many", "I", false)
  | 24 => ("StackAssemblerModel", "functionName", "[I", true)
  | 25 => ("StackAssemblerModel", "functionLength", "[I", true)
  | 26 => ("StackAssemblerModel", "variableName", "[I", true)
  | 27 => ("StackAssemblerModel", "variableLength", "[I", true)
  | 28 => ("StackAssemblerModel", "calls", "I", false)
  | 29 => ("StackAssemblerModel", "callName", "[I", true)
  | 30 => ("StackAssemblerModel", "callLength", "[I", true)
  | 31 => ("StackAssemblerModel", "callTo", "[I", true)
  | 32 => ("StackAssemblerModel", "at", "I", false)
  | 33 => ("StackAssemblerModel", "kind", "I", false)
  | 34 => ("StackAssemblerModel", "from", "I", false)
  | 35 => ("StackAssemblerModel", "wide", "I", false)
  | 36 => ("StackAssemblerModel", "first", "J", false)
  | 37 => ("StackAssemblerModel", "second", "J", false)
  | 38 => ("StackAssemblerModel", "wrong", "I", false)
  | 39 => ("StackAssemblerModel", "opened", "I", false)
  | 40 => ("StackAssemblerModel", "openCode", "[I", true)
  | 41 => ("StackAssemblerModel", "folded", "[Z", true)
  | 42 => ("StackAssemblerModel", "hasElse", "[Z", true)
  | 43 => ("StackAssemblerModel", "openName", "[I", true)
  | 44 => ("StackAssemblerModel", "openLength", "[I", true)
  | 45 => ("StackAssemblerModel", "openValue", "[J", true)
  | 46 => ("StackAssemblerModel", "openCall", "[I", true)
  | 47 => ("StackAssemblerModel", "number", "J", false)
  | 48 => ("StackAssemblerModel", "calling", "I", false)
  | 49 => ("StackAssemblerModel", "top", "I", false)
  | 50 => ("StackAssemblerModel", "stack", "[I", true)
  | 51 => ("StackAssemblerModel", "frames", "I", false)
  | 52 => ("StackAssemblerModel", "label", "[I", true)
  | 53 => ("StackAssemblerModel", "frameResult", "[I", true)
  | 54 => ("StackAssemblerModel", "height", "[I", true)
  | 55 => ("StackAssemblerModel", "frameCode", "[I", true)
  | 56 => ("StackAssemblerModel", "dead", "[Z", true)
  | 57 => ("StackAssemblerModel", "invalid", "Z", false)
  | 58 => ("StackAssemblerModel", "octets", "I", false)
  | 59 => ("StackAssemblerModel", "octet", "[I", true)
  | 60 => ("StackAssemblerModel", "made", "I", false)
  | 61 => ("StackAssemblerModel", "part", "[I", true)
  | 62 => ("StackAssemblerModel", "printed", "I", false)
  | _ => ("StackAssemblerModel", "print", "[C", true)
def kz_T13 : u_T := fun k => match k with
  | 0 => ("java/lang/String", "value", "[B", true)
  | _ => ("java/lang/String", "coder", "B", true)
def kz_cl : List vw_C := [("StackAssembler", kz_T0, 9), ("StackAssembler$Checker", kz_T1, 8), ("StackAssembler$Encoder", kz_T2, 3), ("StackAssembler$Frame", kz_T3, 5), ("StackAssembler$Function", kz_T4, 6), ("StackAssembler$Level", kz_T5, 5), ("StackAssembler$Module", kz_T6, 5), ("StackAssembler$Op", kz_T7, 7), ("StackAssembler$Printer", kz_T8, 1), ("StackAssembler$Reader", kz_T9, 10), ("StackAssembler$Scanner", kz_T10, 6), ("StackAssembler$Text", kz_T11, 2), ("StackAssemblerModel", kz_T12, 64), ("java/lang/String", kz_T13, 2)]
def kz_N (k : Nat) : Nat := match k with
  | 0 => 9
  | 1 => 8
  | 2 => 3
  | 3 => 5
  | 4 => 6
  | 5 => 5
  | 6 => 5
  | 7 => 7
  | 8 => 1
  | 9 => 10
  | 10 => 6
  | 11 => 2
  | 12 => 64
  | 13 => 2
  | _ => 0
def kz_ft (k j : Nat) : Nat := match k with
  | 0 => ([19, 11, 12, 18, 21, 21, 16, 16, 1] : List Nat).getD j 0
  | 1 => ([50, 58, 16, 14, 1, 1, 3, 1] : List Nat).getD j 0
  | 2 => ([53, 50, 1] : List Nat).getD j 0
  | 3 => ([1, 1, 1, 3, 3] : List Nat).getD j 0
  | 4 => ([50, 1, 1, 1, 1, 1] : List Nat).getD j 0
  | 5 => ([1, 1, 1, 17, 2] : List Nat).getD j 0
  | 6 => ([55, 56, 51, 1, 1] : List Nat).getD j 0
  | 7 => ([23, 1, 1, 1, 1, 1, 1] : List Nat).getD j 0
  | 8 => ([21] : List Nat).getD j 0
  | 9 => ([20, 57, 50, 50, 16, 1, 3, 1, 2, 1] : List Nat).getD j 0
  | 10 => ([21, 1, 1, 1, 17, 2] : List Nat).getD j 0
  | 11 => ([52, 1] : List Nat).getD j 0
  | 12 => ([51, 51, 50, 1, 1, 1, 52, 1, 50, 50, 50, 50, 50, 50, 51, 1, 50, 50, 50, 50, 50, 50, 51, 1, 50, 50, 50, 50, 1, 50, 50, 50, 1, 1, 1, 1, 2, 2, 1, 1, 50, 54, 54, 50, 50, 51, 50, 2, 1, 1, 50, 1, 50, 50, 50, 50, 54, 3, 1, 50, 1, 50, 1, 52] : List Nat).getD j 0
  | 13 => ([53, 5] : List Nat).getD j 0
  | _ => 0
def kz_fT (k j : Nat) : FieldType := match k with
  | 0 => ([.object "StackAssembler$Reader", .object "StackAssembler$Checker", .object "StackAssembler$Encoder", .object "StackAssembler$Printer", .object "StackAssembler$Text", .object "StackAssembler$Text", .object "StackAssembler$Module", .object "StackAssembler$Module", .int] : List FieldType).getD j .int
  | 1 => ([.array .int, .array (.object "StackAssembler$Frame"), .object "StackAssembler$Module", .object "StackAssembler$Function", .int, .int, .boolean, .int] : List FieldType).getD j .int
  | 2 => ([.array .byte, .array .int, .int] : List FieldType).getD j .int
  | 3 => ([.int, .int, .int, .boolean, .boolean] : List FieldType).getD j .int
  | 4 => ([.array .int, .int, .int, .int, .int, .int] : List FieldType).getD j .int
  | 5 => ([.int, .int, .int, .object "StackAssembler$Op", .long] : List FieldType).getD j .int
  | 6 => ([.array (.object "StackAssembler$Function"), .array (.object "StackAssembler$Op"), .array .long, .int, .int] : List FieldType).getD j .int
  | 7 => ([.object "java/lang/String", .int, .int, .int, .int, .int, .int] : List FieldType).getD j .int
  | 8 => ([.object "StackAssembler$Text"] : List FieldType).getD j .int
  | 9 => ([.object "StackAssembler$Scanner", .array (.object "StackAssembler$Level"), .array .int, .array .int, .object "StackAssembler$Module", .int, .boolean, .int, .long, .int] : List FieldType).getD j .int
  | 10 => ([.object "StackAssembler$Text", .int, .int, .int, .object "StackAssembler$Op", .long] : List FieldType).getD j .int
  | 11 => ([.array .char, .int] : List FieldType).getD j .int
  | 12 => ([.array .long, .array .long, .array .int, .int, .int, .int, .array .char, .int, .array .int, .array .int, .array .int, .array .int, .array .int, .array .int, .array .long, .int, .array .int, .array .int, .array .int, .array .int, .array .int, .array .int, .array .long, .int, .array .int, .array .int, .array .int, .array .int, .int, .array .int, .array .int, .array .int, .int, .int, .int, .int, .long, .long, .int, .int, .array .int, .array .boolean, .array .boolean, .array .int, .array .int, .array .long, .array .int, .long, .int, .int, .array .int, .int, .array .int, .array .int, .array .int, .array .int, .array .boolean, .boolean, .int, .array .int, .int, .array .int, .int, .array .char] : List FieldType).getD j .int
  | 13 => ([.array .byte, .byte] : List FieldType).getD j .int
  | _ => .int
def kz_ak : List Nat := [40, 41, 42, 43, 44, 45, 46, 47, 48]
def kz_aT (k : Nat) : FieldType := match k with
  | 40 => .int
  | 41 => .long
  | 42 => .char
  | 43 => .byte
  | 44 => .boolean
  | 45 => .object "StackAssembler$Function"
  | 46 => .object "StackAssembler$Op"
  | 47 => .object "StackAssembler$Level"
  | 48 => .object "StackAssembler$Frame"
  | _ => .int
def kz_ae (k : Nat) : Nat := match k with
  | 40 => 1
  | 41 => 2
  | 42 => 4
  | 43 => 5
  | 44 => 3
  | 45 => 14
  | 46 => 17
  | 47 => 15
  | 48 => 13
  | _ => 0
def kz_st : List (String × String × String × Nat × Int) := [("StackAssembler$Op", "UNREACHABLE", "LStackAssembler$Op;", 17, (-1)), ("StackAssembler$Op", "NOP", "LStackAssembler$Op;", 17, (-2)), ("StackAssembler$Op", "BLOCK", "LStackAssembler$Op;", 17, (-3)), ("StackAssembler$Op", "LOOP", "LStackAssembler$Op;", 17, (-4)), ("StackAssembler$Op", "IF", "LStackAssembler$Op;", 17, (-5)), ("StackAssembler$Op", "ELSE", "LStackAssembler$Op;", 17, (-6)), ("StackAssembler$Op", "END", "LStackAssembler$Op;", 17, (-7)), ("StackAssembler$Op", "BR", "LStackAssembler$Op;", 17, (-8)), ("StackAssembler$Op", "BR_IF", "LStackAssembler$Op;", 17, (-9)), ("StackAssembler$Op", "RETURN", "LStackAssembler$Op;", 17, (-10)), ("StackAssembler$Op", "CALL", "LStackAssembler$Op;", 17, (-11)), ("StackAssembler$Op", "DROP", "LStackAssembler$Op;", 17, (-12)), ("StackAssembler$Op", "SELECT", "LStackAssembler$Op;", 17, (-13)), ("StackAssembler$Op", "LOCAL_GET", "LStackAssembler$Op;", 17, (-14)), ("StackAssembler$Op", "LOCAL_SET", "LStackAssembler$Op;", 17, (-15)), ("StackAssembler$Op", "LOCAL_TEE", "LStackAssembler$Op;", 17, (-16)), ("StackAssembler$Op", "I32_CONST", "LStackAssembler$Op;", 17, (-17)), ("StackAssembler$Op", "I64_CONST", "LStackAssembler$Op;", 17, (-18)), ("StackAssembler$Op", "I32_EQZ", "LStackAssembler$Op;", 17, (-19)), ("StackAssembler$Op", "I32_EQ", "LStackAssembler$Op;", 17, (-20)), ("StackAssembler$Op", "I32_LT_S", "LStackAssembler$Op;", 17, (-21)), ("StackAssembler$Op", "I64_EQZ", "LStackAssembler$Op;", 17, (-22)), ("StackAssembler$Op", "I64_EQ", "LStackAssembler$Op;", 17, (-23)), ("StackAssembler$Op", "I32_ADD", "LStackAssembler$Op;", 17, (-24)), ("StackAssembler$Op", "I32_SUB", "LStackAssembler$Op;", 17, (-25)), ("StackAssembler$Op", "I32_MUL", "LStackAssembler$Op;", 17, (-26)), ("StackAssembler$Op", "I64_ADD", "LStackAssembler$Op;", 17, (-27)), ("StackAssembler$Op", "I64_MUL", "LStackAssembler$Op;", 17, (-28)), ("StackAssembler$Op", "I32_WRAP_I64", "LStackAssembler$Op;", 17, (-29)), ("StackAssembler$Op", "I64_EXTEND_I32_S", "LStackAssembler$Op;", 17, (-30)), ("StackAssembler$Op", "ALL", "[LStackAssembler$Op;", 56, (-31)), ("StackAssembler$Encoder", "HEADER", "[I", 50, (-32)), ("StackAssembler$1", "$SwitchMap$StackAssembler$Op", "[I", 50, (-33)), ("java/lang/String", "COMPACT_STRINGS", "Z", 3, 1)]
def kz_kK : List Nat := [7, 13]
def kz_ao : List String := ["StackAssembler$Function", "StackAssembler$Op", "StackAssembler$Level", "StackAssembler$Frame"]
def kz_so : List (String × String × String) := [("jdk/internal/util/Preconditions", "SIOOBE_FORMATTER", "Ljava/util/function/BiFunction;")]
def kz_ss : List (String × Nat × String × Int) := [("StackAssembler$Reader", 124, "module", (-35)), ("StackAssembler$Reader", 139, "func", (-37)), ("StackAssembler$Reader", 148, "param", (-39)), ("StackAssembler$Reader", 150, "result", (-41)), ("StackAssembler$Reader", 152, "local", (-43)), ("StackAssembler$Scanner", 70, "i32", (-45)), ("StackAssembler$Scanner", 76, "i64", (-47)), ("StackAssembler", 92, "the text is malformed", (-49)), ("StackAssembler", 99, "the text is too much", (-51)), ("StackAssembler", 104, "the module is invalid", (-53)), ("StackAssembler$Printer", 21, "(module", (-55)), ("StackAssembler$Printer", 44, "(func", (-57)), ("StackAssembler$Printer", 46, "(param", (-59)), ("StackAssembler$Printer", 100, "i32", (-45)), ("StackAssembler$Printer", 102, "i64", (-47)), ("StackAssembler$Printer", 98, "(result ", (-61)), ("StackAssembler$Printer", 64, "(local", (-63)), ("StackAssembler", 120, "the printed text is too long", (-65)), ("StackAssembler$Op", 149, "nop", (-67)), ("StackAssembler$Op", 164, "end", (-69)), ("StackAssembler$Op", 161, "else", (-71)), ("StackAssembler$Op", 158, "if", (-73)), ("StackAssembler$Op", 176, "call", (-75)), ("StackAssembler$Op", 155, "loop", (-77)), ("StackAssembler$Op", 170, "br_if", (-79)), ("StackAssembler$Op", 185, "local.get", (-81)), ("StackAssembler$Op", 188, "local.set", (-83)), ("StackAssembler$Op", 143, "unreachable", (-85)), ("StackAssembler$Op", 152, "block", (-87)), ("StackAssembler$Op", 167, "br", (-89)), ("StackAssembler$Op", 173, "return", (-91)), ("StackAssembler$Op", 179, "drop", (-93)), ("StackAssembler$Op", 182, "select", (-95)), ("StackAssembler$Op", 191, "local.tee", (-97)), ("StackAssembler$Op", 194, "i32.const", (-99)), ("StackAssembler$Op", 197, "i64.const", (-101)), ("StackAssembler$Op", 200, "i32.eqz", (-103)), ("StackAssembler$Op", 203, "i32.eq", (-105)), ("StackAssembler$Op", 206, "i32.lt_s", (-107)), ("StackAssembler$Op", 209, "i64.eqz", (-109)), ("StackAssembler$Op", 212, "i64.eq", (-111)), ("StackAssembler$Op", 215, "i32.add", (-113)), ("StackAssembler$Op", 218, "i32.sub", (-115)), ("StackAssembler$Op", 221, "i32.mul", (-117)), ("StackAssembler$Op", 224, "i64.add", (-119)), ("StackAssembler$Op", 227, "i64.mul", (-121)), ("StackAssembler$Op", 230, "i32.wrap_i64", (-123)), ("StackAssembler$Op", 233, "i64.extend_i32_s", (-125))]
def kz_nC : Nat := 126
def kz_kI : Nat := 7
def kz_kS : Nat := 13
def kz_kc (x : Int) : Nat := if -30 ≤ x then 7 else if x = -31 then 46 else if -34 ≤ x then 40 else if x % 2 = 1 then 13 else 43
end
section
/-! The machine of numbers: a heap is a function of object number and place; ints, longs and references are numbers. Place -1: an array's length; -2: the object's kind; -3: its address. Object 0 is null; (0, 0): how many objects were made, (0, 1): the size of the machine's heap. Numbers below zero: what was there before the law began. -/
abbrev qz_H : Type := Int → Int → Int
abbrev qz_R : Type := Int × qz_H
def qz_up (h : qz_H) (o i v : Int) : qz_H := fun a b => if a = o ∧ b = i then v else h a b
def qz_bn {α β : Type} (a : α) (f : α → β) : β := f a
def qz_ck (c : Prop) [Decidable c] (t : Option qz_R) : Option qz_R := if c then t else none
def qz_bc (o : Option qz_R) (f : Int → qz_H → Option qz_R) : Option qz_R := match o with
  | none => none
  | some r => f r.1 r.2
def qz_nw (h : qz_H) (k n : Int) : qz_H := fun a b => if a = 0 then (if b = 0 then h 0 0 + 1 else if b = 1 then h 0 1 + 1 else h 0 b) else if a = h 0 0 + 1 then (if b = -1 then n else if b = -2 then k else if b = -3 then h 0 1 else 0) else h a b
def qz_w (z : Int) : Int := (Int32.ofInt z).toInt
def qz_x (z : Int) : Int := (Int64.ofInt z).toInt
/-- a value on the stack or in a local: an int, a long, a reference (whether it is known not to be null, its kind, its number), nothing -/
abbrev qz_V : Type := Int ⊕ (Int ⊕ ((Bool × Nat × Int) ⊕ Option (Option Nat)))
def qz_i (x : Int) : qz_V := .inl x
def qz_j (x : Int) : qz_V := .inr (.inl x)
def qz_r (b : Bool) (k : Nat) (x : Int) : qz_V := .inr (.inr (.inl (b, k, x)))
def qz_u : qz_V := .inr (.inr (.inr none))
/-- a reference of which nothing is known -/
def qz_o (o : Option Nat) : qz_V := .inr (.inr (.inr (some o)))
def qz_ad (h : qz_H) (x : Int) : Nat := (h x (-3)).toNat
def qz_rf (h : qz_H) (x : Int) : Option Nat := if x = 0 then none else some (qz_ad h x)
def qz_cv (h : qz_H) (v : qz_V) : Value := match v with
  | .inl x => .int (Int32.ofInt x)
  | .inr (.inl x) => .long (Int64.ofInt x)
  | .inr (.inr (.inl q)) => va_rf (qz_rf h q.2.2)
  | .inr (.inr (.inr q)) => va_rf (q.getD none)
/-- x is an object of kind k -/
def qz_ok (h : qz_H) (k : Nat) (x : Int) : Prop := ((1 ≤ x ∧ x ≤ h 0 0) ∨ (-(kz_nC : Int) ≤ x ∧ x ≤ -1)) ∧ h x (-2) = (k : Int)
def qz_32 (x : Int) : Prop := -2147483648 ≤ x ∧ x ≤ 2147483647
def qz_64 (x : Int) : Prop := -9223372036854775808 ≤ x ∧ x ≤ 9223372036854775807
def qz_b32 (n : Int) : Bool := decide (-2147483648 ≤ n) && decide (n ≤ 2147483647)
def qz_vo (h : qz_H) (v : qz_V) : Prop := match v with
  | .inl x => qz_32 x
  | .inr (.inl x) => qz_64 x
  | .inr (.inr (.inl q)) => (q.1 = false ∧ q.2.2 = 0) ∨ qz_ok h q.2.1 q.2.2
  | .inr (.inr (.inr _)) => True
/-- types: 1 int, 2 long, 3 boolean, 4 char, 5 byte, 10 + k a reference of kind k -/
def qz_tv (h : qz_H) (t : Nat) (x : Int) : Value := if t = 2 then .long (Int64.ofInt x) else if t < 10 then .int (Int32.ofInt x) else va_rf (qz_rf h x)
def qz_rg (h : qz_H) (t : Nat) (x : Int) : Prop := if t = 2 then qz_64 x else if t = 3 then (x = 0 ∨ x = 1) else if t = 4 then (0 ≤ x ∧ x ≤ 65535) else if t = 5 then (-128 ≤ x ∧ x ≤ 127) else if t < 10 then qz_32 x else (x = 0 ∨ qz_ok h (t - 10) x)
/-- what a cell holds, and what the heap of numbers says of it -/
def qz_ob (D : va_G) (h : qz_H) (H : Heap) (x : Int) (k : Nat) : Prop := ∃ cell : Cell, H[qz_ad h x]? = some cell ∧ cell.cls = D.1 k ∧ cell.vm ≠ .unknown ∧ cell.vm.isStatics = false ∧ (0 < x → cell.vm = .none) ∧ ∀ j : Nat, j < kz_N k → cell.slots[D.2 k j]? = some (qz_tv h (kz_ft k j) (h x j))
def qz_ay (dA : Nat → ClassId) (U : State) (h : qz_H) (H : Heap) (x : Int) (k : Nat) : Prop := ∃ cell : Cell, H[qz_ad h x]? = some cell ∧ U.isArrayOf cell (kz_aT k) ∧ cell.vm ≠ .unknown ∧ (0 < x → cell.vm = .none ∧ cell.cls = dA k) ∧ (h x (-1)).toNat ≤ cell.slots.size ∧ cell.slots.size.toInt32 = Int32.ofInt (h x (-1)) ∧ ∀ j : Nat, j < (h x (-1)).toNat → cell.slots[j]? = some (qz_tv h (kz_ae k) (h x j))
def qz_ob2 (D : va_G) (h : qz_H) (H : Heap) (x : Int) (k : Nat) : Prop := qz_ob D h H x k ∧ ∀ j : Nat, j < kz_N k → qz_rg h (kz_ft k j) (h x j)
def qz_ay2 (dA : Nat → ClassId) (U : State) (h : qz_H) (H : Heap) (x : Int) (k : Nat) : Prop := qz_ay dA U h H x k ∧ 0 ≤ h x (-1) ∧ h x (-1) ≤ 2147483647 ∧ ∀ j : Nat, (j : Int) < h x (-1) → qz_rg h (kz_ae k) (h x j)
/-- one heap of numbers goes on from another: what was an object stays one, at its place -/
def qz_ex (h h' : qz_H) : Prop := ∀ (k : Nat) (x : Int), qz_ok h k x → qz_ok h' k x ∧ h' x (-3) = h x (-3)
/-- the world: every object's cell is as the heap of numbers says -/
def qz_W (D : va_G) (dA : Nat → ClassId) (B0 : Nat) (hc h0 : qz_H) (U : State) (h : qz_H) (H : Heap) : Prop :=
  (0 ≤ h 0 0 ∧ h 0 1 = (H.size : Int)) ∧ (∀ (x : Int) (k : Nat), qz_ok h k x → (k < 40 → qz_ob2 D h H x k) ∧ (40 ≤ k → qz_ay2 dA U h H x k)) ∧
  (∀ x : Int, 1 ≤ x → x ≤ h 0 0 → B0 ≤ qz_ad h x ∧ (0 ≤ h x (-2) ∧ h x (-2) < 99)) ∧ (∀ x y : Int, 1 ≤ x → x ≤ h 0 0 → 1 ≤ y → y ≤ h 0 0 → qz_ad h x = qz_ad h y → x = y) ∧ (∀ x : Int, -(kz_nC : Int) ≤ x → x ≤ -1 → qz_ad h x < B0) ∧ (∀ x : Int, x ≤ -1 → ∀ j : Int, h x j = hc x j) ∧ qz_ex h0 h
def qz_A (B0 : Nat) : Nat → Prop := fun q => B0 ≤ q
/-- what holds of the tables and of what was there before, at a method's entry -/
def qz_tys (dA : Nat → ClassId) : List (ClassId × FieldType) := kz_ak.map fun k => (dA k, kz_aT k)
/-- a field of an object that was there before: where it lies -/
def qz_SN (U : State) (C f d : String) (i : Nat) : Prop := ∃ cf kf fi fd, U.fieldFound? C f d = some (cf, kf, fi, fd) ∧ fd.slot = i ∧ fd.isStatic = false
theorem qz_SN.moved {u E : State} {C f d : String} {i : Nat} (hvm : u.vm.Alike E.vm) (h : qz_SN u C f d i) : qz_SN E C f d i := by
  obtain ⟨cf, kf, fi, fd, hi, hs⟩ := h
  obtain ⟨kf', hi', -⟩ := State.fieldFound?_setVm (s := u) hvm hi
  exact ⟨cf, kf', fi, fd, by simpa only [State.fieldFound?, State.vm_setVm] using hi', hs⟩
def qz_kd (hc : qz_H) : Prop := ∀ x : Int, -(kz_nC : Int) ≤ x → x ≤ -1 → hc x (-2) = (kz_kc x : Int)
def qz_E (D : va_G) (dA : Nat → ClassId) (B0 : Nat) (hc : qz_H) (U : State) : Prop :=
  B0 ≤ U.heap.size ∧ va_K D kz_cl (qz_tys dA) U ∧ ((∀ w ∈ kz_NT, va_Nw w U) ∧ (∀ C ∈ kz_ao, va_AO C U) ∧ ∀ k ∈ kz_kK, ∀ q : vw_C, kz_cl[k]? = some q → ∀ j, j < q.2.2 → qz_SN U (q.2.1 j).1 (q.2.1 j).2.1 (q.2.1 j).2.2.1 (D.2 k j)) ∧ ((∀ q ∈ kz_st, va_Z q.1 q.2.1 q.2.2.1 (qz_tv hc q.2.2.2.1 q.2.2.2.2) (qz_A B0) U U.heap) ∧ ∀ q ∈ kz_so, ∃ o, va_Z q.1 q.2.1 q.2.2 (va_rf o) (qz_A B0) U U.heap) ∧ (∀ q ∈ kz_ss, vk_R q.1 q.2.1 q.2.2.1 (qz_ad hc q.2.2.2) U) ∧ (∀ x y : Int, -(kz_nC : Int) ≤ x → x ≤ -1 → -(kz_nC : Int) ≤ y → y ≤ -1 → hc x (-2) = (kz_kI : Int) → hc y (-2) = (kz_kI : Int) → qz_ad hc x = qz_ad hc y → x = y) ∧ qz_kd hc
/-- a method: name, code, locals, what it answers (the machine's word, mine), room -/
abbrev qz_Y : Type := MethodName × ByteArray × Nat × Option FieldType × Nat × Room
def qz_ws (Y : qz_Y) : List Cond := Cond.code Y.1 Y.2.1 Y.2.2.1 Y.2.2.2.1 :: kz_TT
abbrev qz_G : Type := Program × Launch × Env × State × MethodId × Array Value × List Frame × Method × Code × va_G × (Nat → ClassId) × Nat × qz_H × qz_H
def qz_ca (cc : ByteArray) : Nat → List (Instr × Nat) → Prop
  | _, [] => True
  | pc, i :: is => decode cc pc = .ok i ∧ qz_ca cc (pc + i.2) is
def qz_cab (cc : ByteArray) : Nat → List (Instr × Nat) → Bool
  | _, [] => true
  | pc, i :: is => decide (decode cc pc = .ok i) && qz_cab cc (pc + i.2) is
theorem qz_cab_ok {cc : ByteArray} : ∀ (is : List (Instr × Nat)) (pc : Nat), qz_cab cc pc is = true → qz_ca cc pc is
  | [], _, _ => trivial
  | i :: is, pc, h => by
    simp only [qz_cab, Bool.and_eq_true, decide_eq_true_eq] at h
    exact ⟨h.1, qz_cab_ok is _ h.2⟩
def qz_sr (h : qz_H) : List qz_V → List Value → Prop
  | [], s => s = []
  | v :: st, s => ∃ r, s = qz_cv h v :: r ∧ qz_vo h v ∧ qz_sr h st r
def qz_lr (h : qz_H) (ls : List qz_V) (lsC : Array Slot) (n : Nat) : Prop := ∃ lv : List (Nat × Value), lv_has lsC n lv ∧ ∀ (i : Nat) (v : qz_V), ls[i]? = some v → v = qz_u ∨ (qz_vo h v ∧ (i, qz_cv h v) ∈ lv)
def qz_rv (Y : qz_Y) (r : qz_R) : Option Value := if Y.2.2.2.2.1 = 0 then none else some (qz_tv r.2 Y.2.2.2.2.1 r.1)
def qz_Q (Y : qz_Y) (D : va_G) (dA : Nat → ClassId) (B0 : Nat) (hc h0 : qz_H) (r : qz_R) : Array Value → State → Outcome → State → Prop := fun _ st oc t =>
  (oc = .returned (qz_rv Y r) ∧ qz_W D dA B0 hc h0 t r.2 t.heap ∧ (Y.2.2.2.2.1 ≠ 0 → qz_rg r.2 Y.2.2.2.2.1 r.1)) ∧ va_F (qz_A B0) st t
def qz_X (Y : qz_Y) (G : qz_G) : Prop := match G with
  | (p, _, _, s, m, args, _, meth, c, D, dA, B0, hc, _) => p.tables.exec = Jvm.exec ∧ c.code = Y.2.1 ∧ c.maxLocals = Y.2.2.1 ∧ meth.sig.returnType = Y.2.2.2.1 ∧ meth.locks = false ∧ meth.name = Y.1.name ∧ s.vm.findClass Y.1.cls = some m.cls ∧ (∀ w ∈ qz_ws Y, w.before args s = true) ∧ qz_E D dA B0 hc s
/-- at this place, with these locals, this stack and this heap of numbers, what is left of the method does what t says -/
def qz_J (Y : qz_Y) (G : qz_G) (is : List (Instr × Nat)) (pc : Nat) (ls st : List qz_V) (h : qz_H) (cs sl : Nat) (t : Option qz_R) : Prop := match G with
  | (p, l, e, s, m, args, below, meth, c, D, dA, B0, hc, h0) => ∀ r, t = some r → qz_X Y G → ∀ (lsC : Array Slot) (stC : List Value) (H : Heap) (locs : List Loc), qz_ca Y.2.1 pc is → qz_lr h ls lsC Y.2.2.1 → qz_sr h st stC → qz_W D dA B0 hc h0 s h H → va_S (qz_A B0) s.heap H locs →
    W p l e Y.2.2.2.2.2 s m args below meth c H locs cs sl (MQ below (qz_Q Y D dA B0 hc h0 r) args s Y.2.2.2.2.2.cells Y.2.2.2.2.2.slots (qz_A B0)) (F0 m pc lsC stC)
/-- a method's contract: on these values and this heap of numbers it does what t says -/
def qz_P (D : va_G) (dA : Nat → ClassId) (B0 : Nat) (hc : qz_H) (vs : List qz_V) (h : qz_H) : Array Value → State → Prop := fun a U => a = (vs.map (qz_cv h)).toArray ∧ (∀ v ∈ vs, qz_vo h v) ∧ qz_W D dA B0 hc h U h U.heap ∧ qz_E D dA B0 hc U
def qz_C (Y : qz_Y) (vs : List qz_V) (h : qz_H) (t : Option qz_R) : Prop := ∀ r, t = some r → ∀ (l : Launch) (D : va_G) (dA : Nat → ClassId) (B0 : Nat) (hc : qz_H), Met l Y.1 (qz_ws Y) Y.2.2.2.2.2 (qz_P D dA B0 hc vs h) (qz_Q Y D dA B0 hc h r) Y.2.2.2.2.2.cells Y.2.2.2.2.2.slots (qz_A B0)
theorem qz_r32 (v : Int32) : qz_32 v.toInt := ⟨by have := v.le_toInt; omega, by have := v.toInt_lt; omega⟩
theorem qz_r64 (v : Int64) : qz_64 v.toInt := ⟨by have := v.le_toInt; omega, by have := v.toInt_lt; omega⟩
theorem qz_t32 {x : Int} (h : qz_32 x) : (Int32.ofInt x).toInt = x := Int32.toInt_ofInt_of_le (by have := h.1; omega) (by have := h.2; omega)
theorem qz_t64 {x : Int} (h : qz_64 x) : (Int64.ofInt x).toInt = x := Int64.toInt_ofInt_of_le (by have := h.1; omega) (by have := h.2; omega)
theorem qz_b32_ok {n : Int} (h : qz_b32 n = true) : qz_32 n := by
  simp only [qz_b32, Bool.and_eq_true, decide_eq_true_eq] at h
  exact h
theorem qz_e32 {x y : Int} (hx : qz_32 x) (hy : qz_32 y) : Int32.ofInt x = Int32.ofInt y ↔ x = y := ⟨fun h => by rw [← qz_t32 hx, ← qz_t32 hy, h], fun h => by rw [h]⟩
theorem qz_l32 {x y : Int} (hx : qz_32 x) (hy : qz_32 y) : Int32.ofInt x < Int32.ofInt y ↔ x < y := by rw [Int32.lt_iff_toInt_lt, qz_t32 hx, qz_t32 hy]
theorem qz_m32 {x y : Int} (hx : qz_32 x) (hy : qz_32 y) : Int32.ofInt x ≤ Int32.ofInt y ↔ x ≤ y := by rw [Int32.le_iff_toInt_le, qz_t32 hx, qz_t32 hy]
theorem qz_032 : qz_32 0 := ⟨by decide, by decide⟩
theorem qz_z0 : (0 : Int32) = Int32.ofInt 0 := by decide
theorem qz_e0 {x : Int} (hx : qz_32 x) : Int32.ofInt x = 0 ↔ x = 0 := by rw [qz_z0]; exact qz_e32 hx qz_032
theorem qz_l0 {x : Int} (hx : qz_32 x) : Int32.ofInt x < 0 ↔ x < 0 := by rw [qz_z0]; exact qz_l32 hx qz_032
theorem qz_g0 {x : Int} (hx : qz_32 x) : 0 < Int32.ofInt x ↔ 0 < x := by rw [qz_z0]; exact qz_l32 qz_032 hx
theorem qz_le0 {x : Int} (hx : qz_32 x) : Int32.ofInt x ≤ 0 ↔ x ≤ 0 := by rw [qz_z0]; exact qz_m32 hx qz_032
theorem qz_ge0 {x : Int} (hx : qz_32 x) : 0 ≤ Int32.ofInt x ↔ 0 ≤ x := by rw [qz_z0]; exact qz_m32 qz_032 hx
theorem qz_ck_some {c : Prop} [Decidable c] {t : Option qz_R} {r : qz_R} (h : qz_ck c t = some r) : c ∧ t = some r := by
  unfold qz_ck at h
  split at h
  · exact ⟨by assumption, h⟩
  · cases h
theorem qz_cvI (h : qz_H) (v : Int32) : qz_cv h (qz_i v.toInt) = .int v := by simp [qz_cv, qz_i]
theorem qz_cvJ (h : qz_H) (v : Int64) : qz_cv h (qz_j v.toInt) = .long v := by simp [qz_cv, qz_j]
def qz_c1 (v : qz_V) : Bool := match v with
  | .inl _ => true
  | .inr (.inr (.inl _)) => true
  | _ => false
theorem qz_cat (h : qz_H) {v : qz_V} (hv : qz_c1 v = true) : (qz_cv h v).category = 1 := by
  rcases v with x | x | q | q
  · rfl
  · cases hv
  · show (va_rf (qz_rf h q.2.2)).category = 1
    cases qz_rf h q.2.2 <;> rfl
  · cases hv
theorem qz_ex.vo {h h' : qz_H} (he : qz_ex h h') {v : qz_V} (hv : qz_vo h v) : qz_vo h' v ∧ qz_cv h' v = qz_cv h v ∨ (v = qz_u) := by
  rcases v with x | x | ⟨b, k, x⟩ | q
  · exact Or.inl ⟨hv, rfl⟩
  · exact Or.inl ⟨hv, rfl⟩
  · rcases hv with ⟨h1, h2⟩ | h1
    · have h2 : x = 0 := h2
      subst h2
      exact Or.inl ⟨Or.inl ⟨h1, rfl⟩, rfl⟩
    · obtain ⟨h3, h4⟩ := he k x h1
      refine Or.inl ⟨Or.inr h3, ?_⟩
      show va_rf (qz_rf h' x) = va_rf (qz_rf h x)
      unfold qz_rf qz_ad
      rw [h4]
  · cases q with
    | none => exact Or.inr rfl
    | some o => exact Or.inl ⟨trivial, rfl⟩
theorem qz_ex.vo' {h h' : qz_H} (he : qz_ex h h') {v : qz_V} (hv : qz_vo h v) : qz_vo h' v ∧ qz_cv h' v = qz_cv h v := by
  rcases he.vo hv with h1 | h1
  · exact h1
  · subst h1
    exact ⟨trivial, rfl⟩
theorem qz_ex.sr {h h' : qz_H} (he : qz_ex h h') : ∀ (st : List qz_V) (s : List Value), qz_sr h st s → qz_sr h' st s
  | [], _, hs => hs
  | v :: st, _, ⟨r, h1, h2, h3⟩ => ⟨r, by rw [(he.vo' h2).2]; exact h1, (he.vo' h2).1, he.sr st r h3⟩
theorem qz_ex.lr {h h' : qz_H} (he : qz_ex h h') {ls : List qz_V} {a : Array Slot} {n : Nat} (hl : qz_lr h ls a n) : qz_lr h' ls a n := by
  obtain ⟨lv, h1, h2⟩ := hl
  refine ⟨lv, h1, fun i v hi => ?_⟩
  rcases h2 i v hi with h3 | ⟨h3, h4⟩
  · exact Or.inl h3
  · exact Or.inr ⟨(he.vo' h3).1, by rw [(he.vo' h3).2]; exact h4⟩
/-- storing a local -/
def qz_lg (v : qz_V) : Bool := match v with
  | .inr (.inl _) => true
  | _ => false
def qz_c0 : List qz_V → List qz_V
  | [] => []
  | _ :: r => qz_u :: r
def qz_st : Nat → qz_V → List qz_V → List qz_V
  | _, _, [] => []
  | 0, v, _ :: r => v :: (if qz_lg v = true then qz_c0 r else r)
  | i + 1, v, u :: r => (if i = 0 ∧ qz_lg u = true then qz_u else u) :: qz_st i v r
theorem qz_st_at : ∀ (i : Nat) (v : qz_V) (ls : List qz_V) (j : Nat) (u : qz_V), (qz_st i v ls)[j]? = some u → (j = i ∧ u = v) ∨ u = qz_u ∨ (j ≠ i ∧ ls[j]? = some u ∧ (qz_lg v = true → j ≠ i + 1) ∧ (j + 1 = i → qz_lg u = false))
  | i, v, [], j, u, h => by cases i <;> simp [qz_st] at h
  | 0, v, w :: r, 0, u, h => by
    simp [qz_st] at h
    exact Or.inl ⟨rfl, h.symm⟩
  | 0, v, w :: r, j + 1, u, h => by
    simp only [qz_st, List.getElem?_cons_succ] at h
    by_cases hv : qz_lg v = true
    · rw [if_pos hv] at h
      cases r with
      | nil => simp [qz_c0] at h
      | cons w2 r2 =>
        cases j with
        | zero => simp [qz_c0] at h; exact Or.inr (Or.inl h.symm)
        | succ j => 
          simp only [qz_c0, List.getElem?_cons_succ] at h
          exact Or.inr (Or.inr ⟨by omega, by simpa using h, fun _ => by omega, fun q => by omega⟩)
    · rw [if_neg hv] at h
      exact Or.inr (Or.inr ⟨by omega, by simpa using h, fun q => absurd q hv, fun q => by omega⟩)
  | i + 1, v, w :: r, 0, u, h => by
    simp only [qz_st, List.getElem?_cons_zero, Option.some.injEq] at h
    by_cases hc : i = 0 ∧ qz_lg w = true
    · rw [if_pos hc] at h
      exact Or.inr (Or.inl h.symm)
    · rw [if_neg hc] at h
      subst h
      refine Or.inr (Or.inr ⟨by omega, by simp, fun _ => by omega, fun q => ?_⟩)
      have : i = 0 := by omega
      simpa [this] using hc
  | i + 1, v, w :: r, j + 1, u, h => by
    simp only [qz_st, List.getElem?_cons_succ] at h
    rcases qz_st_at i v r j u h with ⟨a, b⟩ | a | ⟨a, b, c, d⟩
    · exact Or.inl ⟨by omega, b⟩
    · exact Or.inr (Or.inl a)
    · exact Or.inr (Or.inr ⟨by omega, by simpa using b, fun q => by have := c q; omega, fun q => d (by omega)⟩)
theorem qz_catL (h : qz_H) {v : qz_V} (hv : qz_lg v = false) : ¬ (qz_cv h v).category = 2 := by
  rcases v with x | x | q | q
  · simp [qz_cv, Value.category]
  · cases hv
  · show ¬ (va_rf (qz_rf h q.2.2)).category = 2
    cases qz_rf h q.2.2 <;> simp [va_rf, Value.category]
  · show ¬ (va_rf (q.getD none)).category = 2
    cases q.getD none <;> simp [va_rf, Value.category]
theorem qz_lr_st1 {h : qz_H} {ls : List qz_V} {a a' : Array Slot} {n i : Nat} {v : qz_V} {lv : List (Nat × Value)} (h2 : ∀ (i : Nat) (v : qz_V), ls[i]? = some v → v = qz_u ∨ (qz_vo h v ∧ (i, qz_cv h v) ∈ lv)) (hv : qz_vo h v) (hg : qz_lg v = false)
    (h1 : lv_has a' n ((i, qz_cv h v) :: lv.filter (fun q => !(q.1 == i) && !(q.1 + 1 == i && q.2.category == 2)))) : qz_lr h (qz_st i v ls) a' n := by
  refine ⟨_, h1, fun j u hj => ?_⟩
  rcases qz_st_at i v ls j u hj with ⟨rfl, rfl⟩ | q | ⟨q1, q2, q3, q4⟩
  · exact Or.inr ⟨hv, List.mem_cons_self⟩
  · exact Or.inl q
  · rcases h2 j u q2 with z | ⟨z1, z2⟩
    · exact Or.inl z
    · refine Or.inr ⟨z1, List.mem_cons_of_mem _ (List.mem_filter.mpr ⟨z2, ?_⟩)⟩
      simp only [Bool.and_eq_true, Bool.not_eq_true', beq_eq_false_iff_ne, ne_eq, Bool.and_eq_false_iff]
      refine ⟨q1, ?_⟩
      by_cases e : j + 1 = i
      · exact Or.inr (qz_catL h (q4 e))
      · exact Or.inl e
theorem qz_lr_st2 {h : qz_H} {ls : List qz_V} {a a' : Array Slot} {n i : Nat} {v : qz_V} {lv : List (Nat × Value)} (h2 : ∀ (i : Nat) (v : qz_V), ls[i]? = some v → v = qz_u ∨ (qz_vo h v ∧ (i, qz_cv h v) ∈ lv)) (hv : qz_vo h v) (hg : qz_lg v = true)
    (h1 : lv_has a' n ((i, qz_cv h v) :: lv.filter (fun q => !(q.1 == i) && (!(q.1 == i + 1) && !(q.1 + 1 == i && q.2.category == 2))))) : qz_lr h (qz_st i v ls) a' n := by
  refine ⟨_, h1, fun j u hj => ?_⟩
  rcases qz_st_at i v ls j u hj with ⟨rfl, rfl⟩ | q | ⟨q1, q2, q3, q4⟩
  · exact Or.inr ⟨hv, List.mem_cons_self⟩
  · exact Or.inl q
  · rcases h2 j u q2 with z | ⟨z1, z2⟩
    · exact Or.inl z
    · refine Or.inr ⟨z1, List.mem_cons_of_mem _ (List.mem_filter.mpr ⟨z2, ?_⟩)⟩
      simp only [Bool.and_eq_true, Bool.not_eq_true', beq_eq_false_iff_ne, ne_eq, Bool.and_eq_false_iff]
      refine ⟨q1, q3 hg, ?_⟩
      by_cases e : j + 1 = i
      · exact Or.inr (qz_catL h (q4 e))
      · exact Or.inl e
theorem qz_lr_at {h : qz_H} {ls : List qz_V} {a : Array Slot} {n i : Nat} {v : qz_V} (hl : qz_lr h ls a n) (hi : ls[i]? = some v) (hu : v ≠ qz_u) : qz_vo h v ∧ a[i]? = some (.val (qz_cv h v)) := by
  obtain ⟨lv, h1, h2⟩ := hl
  rcases h2 i v hi with h3 | ⟨h3, h4⟩
  · exact absurd h3 hu
  · exact ⟨h3, h1.2.2 _ h4⟩

section QZ
variable {Y : qz_Y} {G : qz_G} {is isT : List (Instr × Nat)} {pc T : Nat} {ls st : List qz_V} {h : qz_H} {cs sl : Nat} {t t1 t2 : Option qz_R}

theorem qz_iconst {n : Int} (hn : qz_b32 n = true) (k : qz_J Y G is (pc + 1) ls (qz_i n :: st) h cs sl t) : qz_J Y G ((.iconst n, 1) :: is) pc ls st h cs sl t := by
  obtain ⟨p, l, e, s, m, args, below, meth, c, D, dA, B0, hc, h0⟩ := G
  intro r hr hx lsC stC H locs hca hl hs hW hS
  obtain ⟨h1, h2, h3, h4, h5, h6, h7, h8, h9⟩ := id hx
  refine lv_iconst h1 h2 hca.1 rfl ?_
  exact k r hr hx lsC _ H locs hca.2 hl ⟨_, rfl, qz_b32_ok hn, hs⟩ hW hS
theorem qz_8 {n : Int} (hn : (decide (-128 ≤ n) && decide (n ≤ 127)) = true) : (Int8.ofInt n).toInt32 = Int32.ofInt n ∧ qz_32 n := by
  simp only [Bool.and_eq_true, decide_eq_true_eq] at hn
  have h3 : qz_32 n := ⟨by omega, by omega⟩
  refine ⟨?_, h3⟩
  apply Int32.toInt_inj.mp
  rw [qz_t32 h3, Int8.toInt_toInt32, Int8.toInt_ofInt_of_le (by omega) (by omega)]
theorem qz_16 {n : Int} (hn : (decide (-32768 ≤ n) && decide (n ≤ 32767)) = true) : (Int16.ofInt n).toInt32 = Int32.ofInt n ∧ qz_32 n := by
  simp only [Bool.and_eq_true, decide_eq_true_eq] at hn
  have h3 : qz_32 n := ⟨by omega, by omega⟩
  refine ⟨?_, h3⟩
  apply Int32.toInt_inj.mp
  rw [qz_t32 h3, Int16.toInt_toInt32, Int16.toInt_ofInt_of_le (by omega) (by omega)]

theorem qz_bipush {n : Int} (hn : (decide (-128 ≤ n) && decide (n ≤ 127)) = true) (k : qz_J Y G is (pc + 2) ls (qz_i n :: st) h cs sl t) : qz_J Y G ((.bipush n, 2) :: is) pc ls st h cs sl t := by
  obtain ⟨p, l, e, s, m, args, below, meth, c, D, dA, B0, hc, h0⟩ := G
  intro r hr hx lsC stC H locs hca hl hs hW hS
  obtain ⟨h1, h2, h3, h4, h5, h6, h7, h8, h9⟩ := id hx
  refine lv_bipush h1 h2 hca.1 (qz_8 hn).1 ?_
  exact k r hr hx lsC _ H locs hca.2 hl ⟨_, rfl, (qz_8 hn).2, hs⟩ hW hS
theorem qz_sipush {n : Int} (hn : (decide (-32768 ≤ n) && decide (n ≤ 32767)) = true) (k : qz_J Y G is (pc + 3) ls (qz_i n :: st) h cs sl t) : qz_J Y G ((.sipush n, 3) :: is) pc ls st h cs sl t := by
  obtain ⟨p, l, e, s, m, args, below, meth, c, D, dA, B0, hc, h0⟩ := G
  intro r hr hx lsC stC H locs hca hl hs hW hS
  obtain ⟨h1, h2, h3, h4, h5, h6, h7, h8, h9⟩ := id hx
  refine lv_sipush h1 h2 hca.1 (qz_16 hn).1 ?_
  exact k r hr hx lsC _ H locs hca.2 hl ⟨_, rfl, (qz_16 hn).2, hs⟩ hW hS
theorem qz_lconst {f : Fin 2} {n : Int} (hn : ((f : Nat) : Int) = n) (k : qz_J Y G is (pc + 1) ls (qz_j n :: st) h cs sl t) : qz_J Y G ((.lconst f, 1) :: is) pc ls st h cs sl t := by
  obtain ⟨p, l, e, s, m, args, below, meth, c, D, dA, B0, hc, h0⟩ := G
  intro r hr hx lsC stC H locs hca hl hs hW hS
  obtain ⟨h1, h2, h3, h4, h5, h6, h7, h8, h9⟩ := id hx
  refine lv_lconst h1 h2 hca.1 rfl ?_
  subst hn
  refine k r hr hx lsC _ H locs hca.2 hl ⟨_, ?_, ?_, hs⟩ hW hS
  · show Value.long (Int64.ofNat (f : Nat)) :: stC = Value.long (Int64.ofInt ((f : Nat) : Int)) :: stC
    rw [Int64.ofInt_eq_ofNat]
  · show qz_64 _
    have := f.isLt
    exact ⟨by omega, by omega⟩
theorem qz_ldc {i : Nat} {n : Int} (hw : Cond.constant Y.1.cls i (Int32.ofInt n) ∈ kz_TT) (hn : qz_b32 n = true) (k : qz_J Y G is (pc + 2) ls (qz_i n :: st) h cs sl t) : qz_J Y G ((.ldc i, 2) :: is) pc ls st h cs sl t := by
  obtain ⟨p, l, e, s, m, args, below, meth, c, D, dA, B0, hc, h0⟩ := G
  intro r hr hx lsC stC H locs hca hl hs hW hS
  obtain ⟨h1, h2, h3, h4, h5, h6, h7, h8, h9⟩ := id hx
  refine lv_ldc h1 h2 h7 (h8 _ (List.mem_cons_of_mem _ hw)) hca.1 ?_
  exact k r hr hx lsC _ H locs hca.2 hl ⟨_, rfl, qz_b32_ok hn, hs⟩ hW hS
theorem qz_ldc2 {i : Nat} {n : Int} (hw : Cond.constantLong Y.1.cls i (Int64.ofInt n) ∈ kz_TT) (hn : (decide (-9223372036854775808 ≤ n) && decide (n ≤ 9223372036854775807)) = true) (k : qz_J Y G is (pc + 3) ls (qz_j n :: st) h cs sl t) : qz_J Y G ((.ldc2_w i, 3) :: is) pc ls st h cs sl t := by
  obtain ⟨p, l, e, s, m, args, below, meth, c, D, dA, B0, hc, h0⟩ := G
  intro r hr hx lsC stC H locs hca hl hs hW hS
  obtain ⟨h1, h2, h3, h4, h5, h6, h7, h8, h9⟩ := id hx
  refine lv_ldc2 h1 h2 h7 (h8 _ (List.mem_cons_of_mem _ hw)) hca.1 ?_
  simp only [Bool.and_eq_true, decide_eq_true_eq] at hn
  exact k r hr hx lsC _ H locs hca.2 hl ⟨_, rfl, hn, hs⟩ hW hS
theorem qz_null (k0 : Nat) (k : qz_J Y G is (pc + 1) ls (qz_r false k0 0 :: st) h cs sl t) : qz_J Y G ((.aconst_null, 1) :: is) pc ls st h cs sl t := by
  obtain ⟨p, l, e, s, m, args, below, meth, c, D, dA, B0, hc, h0⟩ := G
  intro r hr hx lsC stC H locs hca hl hs hW hS
  obtain ⟨h1, h2, h3, h4, h5, h6, h7, h8, h9⟩ := id hx
  refine lv_null h1 h2 hca.1 ?_
  exact k r hr hx lsC _ H locs hca.2 hl ⟨_, rfl, Or.inl ⟨rfl, rfl⟩, hs⟩ hW hS
theorem qz_iload_n {q : Fin 4} {x : Int} (hi : ls[(q : Nat)]? = some (qz_i x)) (k : qz_J Y G is (pc + 1) ls (qz_i x :: st) h cs sl t) : qz_J Y G ((.iload_n q, 1) :: is) pc ls st h cs sl t := by
  obtain ⟨p, l, e, s, m, args, below, meth, c, D, dA, B0, hc, h0⟩ := G
  intro r hr hx lsC stC H locs hca hl hs hW hS
  obtain ⟨h1, h2, h3, h4, h5, h6, h7, h8, h9⟩ := id hx
  obtain ⟨g1, g2⟩ := qz_lr_at hl hi (fun q => by cases q)
  refine lv_iload_n h1 h2 hca.1 rfl g2 ?_
  exact k r hr hx lsC _ H locs hca.2 hl ⟨_, rfl, g1, hs⟩ hW hS
theorem qz_iload {i : Nat} {x : Int} (hi : ls[i]? = some (qz_i x)) (k : qz_J Y G is (pc + 2) ls (qz_i x :: st) h cs sl t) : qz_J Y G ((.iload i, 2) :: is) pc ls st h cs sl t := by
  obtain ⟨p, l, e, s, m, args, below, meth, c, D, dA, B0, hc, h0⟩ := G
  intro r hr hx lsC stC H locs hca hl hs hW hS
  obtain ⟨h1, h2, h3, h4, h5, h6, h7, h8, h9⟩ := id hx
  obtain ⟨g1, g2⟩ := qz_lr_at hl hi (fun q => by cases q)
  refine lv_iload h1 h2 hca.1 g2 ?_
  exact k r hr hx lsC _ H locs hca.2 hl ⟨_, rfl, g1, hs⟩ hW hS
theorem qz_lload_n {q : Fin 4} {x : Int} (hi : ls[(q : Nat)]? = some (qz_j x)) (k : qz_J Y G is (pc + 1) ls (qz_j x :: st) h cs sl t) : qz_J Y G ((.lload_n q, 1) :: is) pc ls st h cs sl t := by
  obtain ⟨p, l, e, s, m, args, below, meth, c, D, dA, B0, hc, h0⟩ := G
  intro r hr hx lsC stC H locs hca hl hs hW hS
  obtain ⟨h1, h2, h3, h4, h5, h6, h7, h8, h9⟩ := id hx
  obtain ⟨g1, g2⟩ := qz_lr_at hl hi (fun q => by cases q)
  refine lv_lload_n h1 h2 hca.1 rfl g2 ?_
  exact k r hr hx lsC _ H locs hca.2 hl ⟨_, rfl, g1, hs⟩ hW hS
theorem qz_lload {i : Nat} {x : Int} (hi : ls[i]? = some (qz_j x)) (k : qz_J Y G is (pc + 2) ls (qz_j x :: st) h cs sl t) : qz_J Y G ((.lload i, 2) :: is) pc ls st h cs sl t := by
  obtain ⟨p, l, e, s, m, args, below, meth, c, D, dA, B0, hc, h0⟩ := G
  intro r hr hx lsC stC H locs hca hl hs hW hS
  obtain ⟨h1, h2, h3, h4, h5, h6, h7, h8, h9⟩ := id hx
  obtain ⟨g1, g2⟩ := qz_lr_at hl hi (fun q => by cases q)
  refine lv_lload h1 h2 hca.1 g2 ?_
  exact k r hr hx lsC _ H locs hca.2 hl ⟨_, rfl, g1, hs⟩ hW hS
theorem qz_aload_n {q : Fin 4} {b : Bool} {k0 : Nat} {x : Int} (hi : ls[(q : Nat)]? = some (qz_r b k0 x)) (k : qz_J Y G is (pc + 1) ls (qz_r b k0 x :: st) h cs sl t) : qz_J Y G ((.aload_n q, 1) :: is) pc ls st h cs sl t := by
  obtain ⟨p, l, e, s, m, args, below, meth, c, D, dA, B0, hc, h0⟩ := G
  intro r hr hx lsC stC H locs hca hl hs hW hS
  obtain ⟨h1, h2, h3, h4, h5, h6, h7, h8, h9⟩ := id hx
  obtain ⟨g1, g2⟩ := qz_lr_at hl hi (fun q => by cases q)
  have g3 : lsC[(q : Nat)]? = some (.val (va_rf (qz_rf h x))) := g2
  have kk := k r hr hx lsC _ H locs hca.2 hl ⟨_, rfl, g1, hs⟩ hW hS
  have kk : W p l e Y.2.2.2.2.2 s m args below meth c H locs cs sl _ (F0 m (pc + 1) lsC (va_rf (qz_rf h x) :: stC)) := kk
  cases hq : qz_rf h x with
  | none => rw [hq] at g3 kk; exact lv_aload_nN h1 h2 hca.1 rfl g3 kk
  | some a => rw [hq] at g3 kk; exact lv_aload_n h1 h2 hca.1 rfl g3 kk
theorem qz_aload {i : Nat} {b : Bool} {k0 : Nat} {x : Int} (hi : ls[i]? = some (qz_r b k0 x)) (k : qz_J Y G is (pc + 2) ls (qz_r b k0 x :: st) h cs sl t) : qz_J Y G ((.aload i, 2) :: is) pc ls st h cs sl t := by
  obtain ⟨p, l, e, s, m, args, below, meth, c, D, dA, B0, hc, h0⟩ := G
  intro r hr hx lsC stC H locs hca hl hs hW hS
  obtain ⟨h1, h2, h3, h4, h5, h6, h7, h8, h9⟩ := id hx
  obtain ⟨g1, g2⟩ := qz_lr_at hl hi (fun q => by cases q)
  have g3 : lsC[i]? = some (.val (va_rf (qz_rf h x))) := g2
  have kk := k r hr hx lsC _ H locs hca.2 hl ⟨_, rfl, g1, hs⟩ hW hS
  have kk : W p l e Y.2.2.2.2.2 s m args below meth c H locs cs sl _ (F0 m (pc + 2) lsC (va_rf (qz_rf h x) :: stC)) := kk
  cases hq : qz_rf h x with
  | none => rw [hq] at g3 kk; exact lv_aloadN h1 h2 hca.1 g3 kk
  | some a => rw [hq] at g3 kk; exact lv_aload h1 h2 hca.1 g3 kk
theorem qz_istore_n {q : Fin 4} {a : Int} {f : Int → Option qz_R} (hn : (q : Nat) < Y.2.2.1) (k : ∀ x, qz_J Y G is (pc + 1) (qz_st (q : Nat) (qz_i x) ls) st h cs sl (f x)) : qz_J Y G ((.istore_n q, 1) :: is) pc ls (qz_i a :: st) h cs sl (qz_bn a f) := by
  obtain ⟨p, l, e, s, m, args, below, meth, c, D, dA, B0, hc, h0⟩ := G
  intro r hr hx lsC stC H locs hca hl hs hW hS
  obtain ⟨h1, h2, h3, h4, h5, h6, h7, h8, h9⟩ := id hx
  obtain ⟨r1, rfl, ha, hs⟩ := hs
  obtain ⟨lv, g1, g2⟩ := hl
  refine lv_istore_n h1 h2 hca.1 rfl g1 hn rfl fun ls' g3 => ?_
  exact k a r hr hx ls' _ H locs hca.2 (qz_lr_st1 (v := qz_i a) (a := lsC) g2 ha rfl g3) hs hW hS
theorem qz_istore {i : Nat} {a : Int} {f : Int → Option qz_R} (hn : i < Y.2.2.1) (k : ∀ x, qz_J Y G is (pc + 2) (qz_st i (qz_i x) ls) st h cs sl (f x)) : qz_J Y G ((.istore i, 2) :: is) pc ls (qz_i a :: st) h cs sl (qz_bn a f) := by
  obtain ⟨p, l, e, s, m, args, below, meth, c, D, dA, B0, hc, h0⟩ := G
  intro r hr hx lsC stC H locs hca hl hs hW hS
  obtain ⟨h1, h2, h3, h4, h5, h6, h7, h8, h9⟩ := id hx
  obtain ⟨r1, rfl, ha, hs⟩ := hs
  obtain ⟨lv, g1, g2⟩ := hl
  refine lv_istore h1 h2 hca.1 g1 hn rfl fun ls' g3 => ?_
  exact k a r hr hx ls' _ H locs hca.2 (qz_lr_st1 (v := qz_i a) (a := lsC) g2 ha rfl g3) hs hW hS
theorem qz_lstore_n {q : Fin 4} {a : Int} {f : Int → Option qz_R} (hn : (q : Nat) + 1 < Y.2.2.1) (k : ∀ x, qz_J Y G is (pc + 1) (qz_st (q : Nat) (qz_j x) ls) st h cs sl (f x)) : qz_J Y G ((.lstore_n q, 1) :: is) pc ls (qz_j a :: st) h cs sl (qz_bn a f) := by
  obtain ⟨p, l, e, s, m, args, below, meth, c, D, dA, B0, hc, h0⟩ := G
  intro r hr hx lsC stC H locs hca hl hs hW hS
  obtain ⟨h1, h2, h3, h4, h5, h6, h7, h8, h9⟩ := id hx
  obtain ⟨r1, rfl, ha, hs⟩ := hs
  obtain ⟨lv, g1, g2⟩ := hl
  refine lv_lstore_n h1 h2 hca.1 rfl g1 hn rfl fun ls' g3 => ?_
  exact k a r hr hx ls' _ H locs hca.2 (qz_lr_st2 (v := qz_j a) (a := lsC) g2 ha rfl g3) hs hW hS
theorem qz_lstore {i : Nat} {a : Int} {f : Int → Option qz_R} (hn : i + 1 < Y.2.2.1) (k : ∀ x, qz_J Y G is (pc + 2) (qz_st i (qz_j x) ls) st h cs sl (f x)) : qz_J Y G ((.lstore i, 2) :: is) pc ls (qz_j a :: st) h cs sl (qz_bn a f) := by
  obtain ⟨p, l, e, s, m, args, below, meth, c, D, dA, B0, hc, h0⟩ := G
  intro r hr hx lsC stC H locs hca hl hs hW hS
  obtain ⟨h1, h2, h3, h4, h5, h6, h7, h8, h9⟩ := id hx
  obtain ⟨r1, rfl, ha, hs⟩ := hs
  obtain ⟨lv, g1, g2⟩ := hl
  refine lv_lstore h1 h2 hca.1 g1 hn rfl fun ls' g3 => ?_
  exact k a r hr hx ls' _ H locs hca.2 (qz_lr_st2 (v := qz_j a) (a := lsC) g2 ha rfl g3) hs hW hS
theorem qz_astore_n {q : Fin 4} {b : Bool} {k0 : Nat} {a : Int} {f : Int → Option qz_R} (hn : (q : Nat) < Y.2.2.1) (k : ∀ x, qz_J Y G is (pc + 1) (qz_st (q : Nat) (qz_r b k0 x) ls) st h cs sl (f x)) : qz_J Y G ((.astore_n q, 1) :: is) pc ls (qz_r b k0 a :: st) h cs sl (qz_bn a f) := by
  obtain ⟨p, l, e, s, m, args, below, meth, c, D, dA, B0, hc, h0⟩ := G
  intro r hr hx lsC stC H locs hca hl hs hW hS
  obtain ⟨h1, h2, h3, h4, h5, h6, h7, h8, h9⟩ := id hx
  obtain ⟨r1, rfl, ha, hs⟩ := hs
  obtain ⟨lv, g1, g2⟩ := hl
  have fin := fun ls' g3 => k a r hr hx ls' _ H locs hca.2 (qz_lr_st1 (v := qz_r b k0 a) (a := lsC) g2 ha rfl g3) hs hW hS
  have e9 : qz_cv h (qz_r b k0 a) = va_rf (qz_rf h a) := rfl
  rw [e9] at fin
  show W p l e Y.2.2.2.2.2 s m args below meth c H locs cs sl _ (F0 m pc lsC (va_rf (qz_rf h a) :: r1))
  cases hq : qz_rf h a with
  | none => rw [hq] at fin; exact lv_astore_nN h1 h2 hca.1 rfl g1 hn rfl fin
  | some a => rw [hq] at fin; exact lv_astore_n h1 h2 hca.1 rfl g1 hn rfl fin
theorem qz_astore {i : Nat} {b : Bool} {k0 : Nat} {a : Int} {f : Int → Option qz_R} (hn : i < Y.2.2.1) (k : ∀ x, qz_J Y G is (pc + 2) (qz_st i (qz_r b k0 x) ls) st h cs sl (f x)) : qz_J Y G ((.astore i, 2) :: is) pc ls (qz_r b k0 a :: st) h cs sl (qz_bn a f) := by
  obtain ⟨p, l, e, s, m, args, below, meth, c, D, dA, B0, hc, h0⟩ := G
  intro r hr hx lsC stC H locs hca hl hs hW hS
  obtain ⟨h1, h2, h3, h4, h5, h6, h7, h8, h9⟩ := id hx
  obtain ⟨r1, rfl, ha, hs⟩ := hs
  obtain ⟨lv, g1, g2⟩ := hl
  have fin := fun ls' g3 => k a r hr hx ls' _ H locs hca.2 (qz_lr_st1 (v := qz_r b k0 a) (a := lsC) g2 ha rfl g3) hs hW hS
  have e9 : qz_cv h (qz_r b k0 a) = va_rf (qz_rf h a) := rfl
  rw [e9] at fin
  show W p l e Y.2.2.2.2.2 s m args below meth c H locs cs sl _ (F0 m pc lsC (va_rf (qz_rf h a) :: r1))
  cases hq : qz_rf h a with
  | none => rw [hq] at fin; exact lv_astoreN h1 h2 hca.1 g1 hn rfl fin
  | some a => rw [hq] at fin; exact lv_astore h1 h2 hca.1 g1 hn rfl fin
theorem qz_iinc {i : Nat} {n x : Int} {f : Int → Option qz_R} (hi : ls[i]? = some (qz_i x)) (hn : i < Y.2.2.1) (k : ∀ y, qz_J Y G is (pc + 3) (qz_st i (qz_i y) ls) st h cs sl (f y)) : qz_J Y G ((.iinc i n, 3) :: is) pc ls st h cs sl (qz_bn (qz_w (x + n)) f) := by
  obtain ⟨p, l, e, s, m, args, below, meth, c, D, dA, B0, hc, h0⟩ := G
  intro r hr hx lsC stC H locs hca hl hs hW hS
  obtain ⟨h1, h2, h3, h4, h5, h6, h7, h8, h9⟩ := id hx
  obtain ⟨lv, g1, g2⟩ := id hl
  have g5 : (i, Value.int (Int32.ofInt x)) ∈ lv := by
    rcases g2 i _ hi with z | z
    · cases z
    · exact z.2
  obtain ⟨kk, hkk⟩ := List.getElem?_of_mem g5
  refine lv_iinc h1 h2 hca.1 g1 hkk (v := Int32.ofInt (qz_w (x + n))) (by simp only [qz_w, Int32.ofInt_toInt, Int32.ofInt_add]) hn rfl fun ls' g3 => ?_
  exact k (qz_w (x + n)) r hr hx ls' _ H locs hca.2 (qz_lr_st1 (v := qz_i (qz_w (x + n))) (a := lsC) g2 (qz_r32 _) rfl g3) hs hW hS
def qz_and (x y : Int) : Int := (Int32.ofInt x &&& Int32.ofInt y).toInt
def qz_or (x y : Int) : Int := (Int32.ofInt x ||| Int32.ofInt y).toInt
def qz_shr (x y : Int) : Int := (Int32.ofInt x >>> (Int32.ofInt y &&& 31)).toInt
def qz_andJ (x y : Int) : Int := (Int64.ofInt x &&& Int64.ofInt y).toInt
def qz_orJ (x y : Int) : Int := (Int64.ofInt x ||| Int64.ofInt y).toInt
def qz_shlJ (x y : Int) : Int := (Int64.ofInt x <<< ((Int32.ofInt y).toInt64 &&& 63)).toInt
def qz_shrJ (x y : Int) : Int := (Int64.ofInt x >>> ((Int32.ofInt y).toInt64 &&& 63)).toInt
def qz_ushJ (x y : Int) : Int := ((Int64.ofInt x).toUInt64 >>> ((Int32.ofInt y).toInt64.toUInt64 &&& Int64.toUInt64 63)).toInt64.toInt
def qz_divJ (x y : Int) : Int := (Int64.ofInt x / Int64.ofInt y).toInt
def qz_remJ (x y : Int) : Int := (Int64.ofInt x - Int64.ofInt x / Int64.ofInt y * Int64.ofInt y).toInt
def qz_cmp (x y : Int) : Int := if y < x then 1 else if x = y then 0 else -1
def qz_i2c (x : Int) : Int := ((Int32.ofInt x).toUInt32 % 65536).toInt32.toInt
def qz_i2b (x : Int) : Int := (Int32.ofInt x).toInt8.toInt32.toInt

theorem qz_iadd {x y : Int} (k : qz_J Y G is (pc + 1) ls (qz_i (qz_w (x + y)) :: st) h cs sl t) : qz_J Y G ((.iadd, 1) :: is) pc ls (qz_i y :: qz_i x :: st) h cs sl t := by
  obtain ⟨p, l, e, s, m, args, below, meth, c, D, dA, B0, hc, h0⟩ := G
  intro r hr hx lsC stC H locs hca hl hs hW hS
  obtain ⟨h1, h2, h3, h4, h5, h6, h7, h8, h9⟩ := id hx
  obtain ⟨r1, rfl, hy, r2, rfl, hx', hs⟩ := hs
  refine lv_iadd h1 h2 hca.1 ?_
  exact k r hr hx lsC _ H locs hca.2 hl ⟨r2, by simp only [qz_cv, qz_i, qz_j, qz_w, Int32.ofInt_toInt, Int64.ofInt_toInt, Int32.ofInt_add, Int32.ofInt_sub, Int32.ofInt_mul, Int64.ofInt_add, Int64.ofInt_sub, Int64.ofInt_mul, Int64.ofInt_neg], qz_r32 _, hs⟩ hW hS
theorem qz_isub {x y : Int} (k : qz_J Y G is (pc + 1) ls (qz_i (qz_w (x - y)) :: st) h cs sl t) : qz_J Y G ((.isub, 1) :: is) pc ls (qz_i y :: qz_i x :: st) h cs sl t := by
  obtain ⟨p, l, e, s, m, args, below, meth, c, D, dA, B0, hc, h0⟩ := G
  intro r hr hx lsC stC H locs hca hl hs hW hS
  obtain ⟨h1, h2, h3, h4, h5, h6, h7, h8, h9⟩ := id hx
  obtain ⟨r1, rfl, hy, r2, rfl, hx', hs⟩ := hs
  refine lv_isub h1 h2 hca.1 ?_
  exact k r hr hx lsC _ H locs hca.2 hl ⟨r2, by simp only [qz_cv, qz_i, qz_j, qz_w, Int32.ofInt_toInt, Int64.ofInt_toInt, Int32.ofInt_add, Int32.ofInt_sub, Int32.ofInt_mul, Int64.ofInt_add, Int64.ofInt_sub, Int64.ofInt_mul, Int64.ofInt_neg], qz_r32 _, hs⟩ hW hS
theorem qz_imul {x y : Int} (k : qz_J Y G is (pc + 1) ls (qz_i (qz_w (x * y)) :: st) h cs sl t) : qz_J Y G ((.imul, 1) :: is) pc ls (qz_i y :: qz_i x :: st) h cs sl t := by
  obtain ⟨p, l, e, s, m, args, below, meth, c, D, dA, B0, hc, h0⟩ := G
  intro r hr hx lsC stC H locs hca hl hs hW hS
  obtain ⟨h1, h2, h3, h4, h5, h6, h7, h8, h9⟩ := id hx
  obtain ⟨r1, rfl, hy, r2, rfl, hx', hs⟩ := hs
  refine lv_imul h1 h2 hca.1 ?_
  exact k r hr hx lsC _ H locs hca.2 hl ⟨r2, by simp only [qz_cv, qz_i, qz_j, qz_w, Int32.ofInt_toInt, Int64.ofInt_toInt, Int32.ofInt_add, Int32.ofInt_sub, Int32.ofInt_mul, Int64.ofInt_add, Int64.ofInt_sub, Int64.ofInt_mul, Int64.ofInt_neg], qz_r32 _, hs⟩ hW hS
theorem qz_iand {x y : Int} (k : qz_J Y G is (pc + 1) ls (qz_i (qz_and x y) :: st) h cs sl t) : qz_J Y G ((.iand, 1) :: is) pc ls (qz_i y :: qz_i x :: st) h cs sl t := by
  obtain ⟨p, l, e, s, m, args, below, meth, c, D, dA, B0, hc, h0⟩ := G
  intro r hr hx lsC stC H locs hca hl hs hW hS
  obtain ⟨h1, h2, h3, h4, h5, h6, h7, h8, h9⟩ := id hx
  obtain ⟨r1, rfl, hy, r2, rfl, hx', hs⟩ := hs
  refine lv_iand h1 h2 hca.1 ?_
  exact k r hr hx lsC _ H locs hca.2 hl ⟨r2, by simp only [qz_cv, qz_i, qz_j, qz_and, Int32.ofInt_toInt, Int64.ofInt_toInt, Int32.ofInt_add, Int32.ofInt_sub, Int32.ofInt_mul, Int64.ofInt_add, Int64.ofInt_sub, Int64.ofInt_mul, Int64.ofInt_neg], qz_r32 _, hs⟩ hW hS
theorem qz_ior {x y : Int} (k : qz_J Y G is (pc + 1) ls (qz_i (qz_or x y) :: st) h cs sl t) : qz_J Y G ((.ior, 1) :: is) pc ls (qz_i y :: qz_i x :: st) h cs sl t := by
  obtain ⟨p, l, e, s, m, args, below, meth, c, D, dA, B0, hc, h0⟩ := G
  intro r hr hx lsC stC H locs hca hl hs hW hS
  obtain ⟨h1, h2, h3, h4, h5, h6, h7, h8, h9⟩ := id hx
  obtain ⟨r1, rfl, hy, r2, rfl, hx', hs⟩ := hs
  refine lv_ior h1 h2 hca.1 ?_
  exact k r hr hx lsC _ H locs hca.2 hl ⟨r2, by simp only [qz_cv, qz_i, qz_j, qz_or, Int32.ofInt_toInt, Int64.ofInt_toInt, Int32.ofInt_add, Int32.ofInt_sub, Int32.ofInt_mul, Int64.ofInt_add, Int64.ofInt_sub, Int64.ofInt_mul, Int64.ofInt_neg], qz_r32 _, hs⟩ hW hS
theorem qz_ishr {x y : Int} (k : qz_J Y G is (pc + 1) ls (qz_i (qz_shr x y) :: st) h cs sl t) : qz_J Y G ((.ishr, 1) :: is) pc ls (qz_i y :: qz_i x :: st) h cs sl t := by
  obtain ⟨p, l, e, s, m, args, below, meth, c, D, dA, B0, hc, h0⟩ := G
  intro r hr hx lsC stC H locs hca hl hs hW hS
  obtain ⟨h1, h2, h3, h4, h5, h6, h7, h8, h9⟩ := id hx
  obtain ⟨r1, rfl, hy, r2, rfl, hx', hs⟩ := hs
  refine lv_ishr h1 h2 hca.1 ?_
  exact k r hr hx lsC _ H locs hca.2 hl ⟨r2, by simp only [qz_cv, qz_i, qz_j, qz_shr, Int32.ofInt_toInt, Int64.ofInt_toInt, Int32.ofInt_add, Int32.ofInt_sub, Int32.ofInt_mul, Int64.ofInt_add, Int64.ofInt_sub, Int64.ofInt_mul, Int64.ofInt_neg], qz_r32 _, hs⟩ hW hS
theorem qz_ladd {x y : Int} (k : qz_J Y G is (pc + 1) ls (qz_j (qz_x (x + y)) :: st) h cs sl t) : qz_J Y G ((.ladd, 1) :: is) pc ls (qz_j y :: qz_j x :: st) h cs sl t := by
  obtain ⟨p, l, e, s, m, args, below, meth, c, D, dA, B0, hc, h0⟩ := G
  intro r hr hx lsC stC H locs hca hl hs hW hS
  obtain ⟨h1, h2, h3, h4, h5, h6, h7, h8, h9⟩ := id hx
  obtain ⟨r1, rfl, hy, r2, rfl, hx', hs⟩ := hs
  refine lv_ladd h1 h2 hca.1 ?_
  exact k r hr hx lsC _ H locs hca.2 hl ⟨r2, by simp only [qz_cv, qz_i, qz_j, qz_x, Int32.ofInt_toInt, Int64.ofInt_toInt, Int32.ofInt_add, Int32.ofInt_sub, Int32.ofInt_mul, Int64.ofInt_add, Int64.ofInt_sub, Int64.ofInt_mul, Int64.ofInt_neg], qz_r64 _, hs⟩ hW hS
theorem qz_lsub {x y : Int} (k : qz_J Y G is (pc + 1) ls (qz_j (qz_x (x - y)) :: st) h cs sl t) : qz_J Y G ((.lsub, 1) :: is) pc ls (qz_j y :: qz_j x :: st) h cs sl t := by
  obtain ⟨p, l, e, s, m, args, below, meth, c, D, dA, B0, hc, h0⟩ := G
  intro r hr hx lsC stC H locs hca hl hs hW hS
  obtain ⟨h1, h2, h3, h4, h5, h6, h7, h8, h9⟩ := id hx
  obtain ⟨r1, rfl, hy, r2, rfl, hx', hs⟩ := hs
  refine lv_lsub h1 h2 hca.1 ?_
  exact k r hr hx lsC _ H locs hca.2 hl ⟨r2, by simp only [qz_cv, qz_i, qz_j, qz_x, Int32.ofInt_toInt, Int64.ofInt_toInt, Int32.ofInt_add, Int32.ofInt_sub, Int32.ofInt_mul, Int64.ofInt_add, Int64.ofInt_sub, Int64.ofInt_mul, Int64.ofInt_neg], qz_r64 _, hs⟩ hW hS
theorem qz_lmul {x y : Int} (k : qz_J Y G is (pc + 1) ls (qz_j (qz_x (x * y)) :: st) h cs sl t) : qz_J Y G ((.lmul, 1) :: is) pc ls (qz_j y :: qz_j x :: st) h cs sl t := by
  obtain ⟨p, l, e, s, m, args, below, meth, c, D, dA, B0, hc, h0⟩ := G
  intro r hr hx lsC stC H locs hca hl hs hW hS
  obtain ⟨h1, h2, h3, h4, h5, h6, h7, h8, h9⟩ := id hx
  obtain ⟨r1, rfl, hy, r2, rfl, hx', hs⟩ := hs
  refine lv_lmul h1 h2 hca.1 ?_
  exact k r hr hx lsC _ H locs hca.2 hl ⟨r2, by simp only [qz_cv, qz_i, qz_j, qz_x, Int32.ofInt_toInt, Int64.ofInt_toInt, Int32.ofInt_add, Int32.ofInt_sub, Int32.ofInt_mul, Int64.ofInt_add, Int64.ofInt_sub, Int64.ofInt_mul, Int64.ofInt_neg], qz_r64 _, hs⟩ hW hS
theorem qz_land {x y : Int} (k : qz_J Y G is (pc + 1) ls (qz_j (qz_andJ x y) :: st) h cs sl t) : qz_J Y G ((.land, 1) :: is) pc ls (qz_j y :: qz_j x :: st) h cs sl t := by
  obtain ⟨p, l, e, s, m, args, below, meth, c, D, dA, B0, hc, h0⟩ := G
  intro r hr hx lsC stC H locs hca hl hs hW hS
  obtain ⟨h1, h2, h3, h4, h5, h6, h7, h8, h9⟩ := id hx
  obtain ⟨r1, rfl, hy, r2, rfl, hx', hs⟩ := hs
  refine lv_land h1 h2 hca.1 ?_
  exact k r hr hx lsC _ H locs hca.2 hl ⟨r2, by simp only [qz_cv, qz_i, qz_j, qz_andJ, Int32.ofInt_toInt, Int64.ofInt_toInt, Int32.ofInt_add, Int32.ofInt_sub, Int32.ofInt_mul, Int64.ofInt_add, Int64.ofInt_sub, Int64.ofInt_mul, Int64.ofInt_neg], qz_r64 _, hs⟩ hW hS
theorem qz_lor {x y : Int} (k : qz_J Y G is (pc + 1) ls (qz_j (qz_orJ x y) :: st) h cs sl t) : qz_J Y G ((.lor, 1) :: is) pc ls (qz_j y :: qz_j x :: st) h cs sl t := by
  obtain ⟨p, l, e, s, m, args, below, meth, c, D, dA, B0, hc, h0⟩ := G
  intro r hr hx lsC stC H locs hca hl hs hW hS
  obtain ⟨h1, h2, h3, h4, h5, h6, h7, h8, h9⟩ := id hx
  obtain ⟨r1, rfl, hy, r2, rfl, hx', hs⟩ := hs
  refine lv_lor h1 h2 hca.1 ?_
  exact k r hr hx lsC _ H locs hca.2 hl ⟨r2, by simp only [qz_cv, qz_i, qz_j, qz_orJ, Int32.ofInt_toInt, Int64.ofInt_toInt, Int32.ofInt_add, Int32.ofInt_sub, Int32.ofInt_mul, Int64.ofInt_add, Int64.ofInt_sub, Int64.ofInt_mul, Int64.ofInt_neg], qz_r64 _, hs⟩ hW hS
theorem qz_ldiv {x y : Int} (k : qz_J Y G is (pc + 1) ls (qz_j (qz_divJ x y) :: st) h cs sl t) : qz_J Y G ((.ldiv, 1) :: is) pc ls (qz_j y :: qz_j x :: st) h cs sl (qz_ck (y ≠ 0) t) := by
  obtain ⟨p, l, e, s, m, args, below, meth, c, D, dA, B0, hc, h0⟩ := G
  intro r hr hx lsC stC H locs hca hl hs hW hS
  obtain ⟨h1, h2, h3, h4, h5, h6, h7, h8, h9⟩ := id hx
  obtain ⟨r1, rfl, hy, r2, rfl, hx', hs⟩ := hs
  obtain ⟨g1, g2⟩ := qz_ck_some hr
  refine lv_ldiv h1 h2 hca.1 (fun q => g1 (by have q2 := congrArg Int64.toInt q; rw [qz_t64 hy] at q2; exact q2)) ?_
  exact k r g2 hx lsC _ H locs hca.2 hl ⟨r2, by simp only [qz_cv, qz_j, qz_divJ, Int32.ofInt_toInt, Int64.ofInt_toInt, Int32.ofInt_add, Int32.ofInt_sub, Int32.ofInt_mul, Int64.ofInt_add, Int64.ofInt_sub, Int64.ofInt_mul, Int64.ofInt_neg], qz_r64 _, hs⟩ hW hS
theorem qz_lrem {x y : Int} (k : qz_J Y G is (pc + 1) ls (qz_j (qz_remJ x y) :: st) h cs sl t) : qz_J Y G ((.lrem, 1) :: is) pc ls (qz_j y :: qz_j x :: st) h cs sl (qz_ck (y ≠ 0) t) := by
  obtain ⟨p, l, e, s, m, args, below, meth, c, D, dA, B0, hc, h0⟩ := G
  intro r hr hx lsC stC H locs hca hl hs hW hS
  obtain ⟨h1, h2, h3, h4, h5, h6, h7, h8, h9⟩ := id hx
  obtain ⟨r1, rfl, hy, r2, rfl, hx', hs⟩ := hs
  obtain ⟨g1, g2⟩ := qz_ck_some hr
  refine lv_lrem h1 h2 hca.1 (fun q => g1 (by have q2 := congrArg Int64.toInt q; rw [qz_t64 hy] at q2; exact q2)) ?_
  exact k r g2 hx lsC _ H locs hca.2 hl ⟨r2, by simp only [qz_cv, qz_j, qz_remJ, Int32.ofInt_toInt, Int64.ofInt_toInt, Int32.ofInt_add, Int32.ofInt_sub, Int32.ofInt_mul, Int64.ofInt_add, Int64.ofInt_sub, Int64.ofInt_mul, Int64.ofInt_neg], qz_r64 _, hs⟩ hW hS
theorem qz_lshl {x y : Int} (k : qz_J Y G is (pc + 1) ls (qz_j (qz_shlJ x y) :: st) h cs sl t) : qz_J Y G ((.lshl, 1) :: is) pc ls (qz_i y :: qz_j x :: st) h cs sl t := by
  obtain ⟨p, l, e, s, m, args, below, meth, c, D, dA, B0, hc, h0⟩ := G
  intro r hr hx lsC stC H locs hca hl hs hW hS
  obtain ⟨h1, h2, h3, h4, h5, h6, h7, h8, h9⟩ := id hx
  obtain ⟨r1, rfl, hy, r2, rfl, hx', hs⟩ := hs
  refine lv_lshl h1 h2 hca.1 rfl ?_
  exact k r hr hx lsC _ H locs hca.2 hl ⟨r2, by simp only [qz_cv, qz_j, qz_shlJ, Int32.ofInt_toInt, Int64.ofInt_toInt, Int32.ofInt_add, Int32.ofInt_sub, Int32.ofInt_mul, Int64.ofInt_add, Int64.ofInt_sub, Int64.ofInt_mul, Int64.ofInt_neg], qz_r64 _, hs⟩ hW hS
theorem qz_lshr {x y : Int} (k : qz_J Y G is (pc + 1) ls (qz_j (qz_shrJ x y) :: st) h cs sl t) : qz_J Y G ((.lshr, 1) :: is) pc ls (qz_i y :: qz_j x :: st) h cs sl t := by
  obtain ⟨p, l, e, s, m, args, below, meth, c, D, dA, B0, hc, h0⟩ := G
  intro r hr hx lsC stC H locs hca hl hs hW hS
  obtain ⟨h1, h2, h3, h4, h5, h6, h7, h8, h9⟩ := id hx
  obtain ⟨r1, rfl, hy, r2, rfl, hx', hs⟩ := hs
  refine lv_lshr h1 h2 hca.1 rfl ?_
  exact k r hr hx lsC _ H locs hca.2 hl ⟨r2, by simp only [qz_cv, qz_j, qz_shrJ, Int32.ofInt_toInt, Int64.ofInt_toInt, Int32.ofInt_add, Int32.ofInt_sub, Int32.ofInt_mul, Int64.ofInt_add, Int64.ofInt_sub, Int64.ofInt_mul, Int64.ofInt_neg], qz_r64 _, hs⟩ hW hS
theorem qz_lushr {x y : Int} (k : qz_J Y G is (pc + 1) ls (qz_j (qz_ushJ x y) :: st) h cs sl t) : qz_J Y G ((.lushr, 1) :: is) pc ls (qz_i y :: qz_j x :: st) h cs sl t := by
  obtain ⟨p, l, e, s, m, args, below, meth, c, D, dA, B0, hc, h0⟩ := G
  intro r hr hx lsC stC H locs hca hl hs hW hS
  obtain ⟨h1, h2, h3, h4, h5, h6, h7, h8, h9⟩ := id hx
  obtain ⟨r1, rfl, hy, r2, rfl, hx', hs⟩ := hs
  refine lv_lushr h1 h2 hca.1 rfl ?_
  exact k r hr hx lsC _ H locs hca.2 hl ⟨r2, by simp only [qz_cv, qz_j, qz_ushJ, Int32.ofInt_toInt, Int64.ofInt_toInt, Int32.ofInt_add, Int32.ofInt_sub, Int32.ofInt_mul, Int64.ofInt_add, Int64.ofInt_sub, Int64.ofInt_mul, Int64.ofInt_neg], qz_r64 _, hs⟩ hW hS
theorem qz_lneg {x : Int} (k : qz_J Y G is (pc + 1) ls (qz_j (qz_x (-x)) :: st) h cs sl t) : qz_J Y G ((.lneg, 1) :: is) pc ls (qz_j x :: st) h cs sl t := by
  obtain ⟨p, l, e, s, m, args, below, meth, c, D, dA, B0, hc, h0⟩ := G
  intro r hr hx lsC stC H locs hca hl hs hW hS
  obtain ⟨h1, h2, h3, h4, h5, h6, h7, h8, h9⟩ := id hx
  obtain ⟨r2, rfl, hx', hs⟩ := hs
  refine lv_lneg h1 h2 hca.1 ?_
  exact k r hr hx lsC _ H locs hca.2 hl ⟨r2, by simp only [qz_cv, qz_j, qz_x, Int32.ofInt_toInt, Int64.ofInt_toInt, Int32.ofInt_add, Int32.ofInt_sub, Int32.ofInt_mul, Int64.ofInt_add, Int64.ofInt_sub, Int64.ofInt_mul, Int64.ofInt_neg], qz_r64 _, hs⟩ hW hS
theorem qz_i2l {x : Int} (k : qz_J Y G is (pc + 1) ls (qz_j x :: st) h cs sl t) : qz_J Y G ((.i2l, 1) :: is) pc ls (qz_i x :: st) h cs sl t := by
  obtain ⟨p, l, e, s, m, args, below, meth, c, D, dA, B0, hc, h0⟩ := G
  intro r hr hx lsC stC H locs hca hl hs hW hS
  obtain ⟨h1, h2, h3, h4, h5, h6, h7, h8, h9⟩ := id hx
  obtain ⟨r2, rfl, hx', hs⟩ := hs
  have hx2 : qz_32 x := hx'
  have h64 : qz_64 x := ⟨by have := hx2.1; omega, by have := hx2.2; omega⟩
  refine lv_i2l h1 h2 hca.1 (v := Int64.ofInt x) (Int64.toInt_inj.mp (by rw [Int32.toInt_toInt64, qz_t32 hx2, qz_t64 h64])) ?_
  exact k r hr hx lsC _ H locs hca.2 hl ⟨r2, rfl, h64, hs⟩ hW hS
theorem qz_l2i {x : Int} (k : qz_J Y G is (pc + 1) ls (qz_i (qz_w x) :: st) h cs sl t) : qz_J Y G ((.l2i, 1) :: is) pc ls (qz_j x :: st) h cs sl t := by
  obtain ⟨p, l, e, s, m, args, below, meth, c, D, dA, B0, hc, h0⟩ := G
  intro r hr hx lsC stC H locs hca hl hs hW hS
  obtain ⟨h1, h2, h3, h4, h5, h6, h7, h8, h9⟩ := id hx
  obtain ⟨r2, rfl, hx', hs⟩ := hs
  refine lv_l2i h1 h2 hca.1 (v := Int32.ofInt x) (Int32.toInt_inj.mp (by rw [Int64.toInt_toInt32, qz_t64 hx', Int32.toInt_ofInt])) ?_
  exact k r hr hx lsC _ H locs hca.2 hl ⟨r2, by simp only [qz_cv, qz_i, qz_w, Int32.ofInt_toInt, Int64.ofInt_toInt, Int32.ofInt_add, Int32.ofInt_sub, Int32.ofInt_mul, Int64.ofInt_add, Int64.ofInt_sub, Int64.ofInt_mul, Int64.ofInt_neg], qz_r32 _, hs⟩ hW hS
theorem qz_ins_i2c {x : Int} (k : qz_J Y G is (pc + 1) ls (qz_i (qz_i2c x) :: st) h cs sl t) : qz_J Y G ((.i2c, 1) :: is) pc ls (qz_i x :: st) h cs sl t := by
  obtain ⟨p, l, e, s, m, args, below, meth, c, D, dA, B0, hc, h0⟩ := G
  intro r hr hx lsC stC H locs hca hl hs hW hS
  obtain ⟨h1, h2, h3, h4, h5, h6, h7, h8, h9⟩ := id hx
  obtain ⟨r2, rfl, hx', hs⟩ := hs
  refine lv_i2c h1 h2 hca.1 rfl ?_
  exact k r hr hx lsC _ H locs hca.2 hl ⟨r2, by simp only [qz_cv, qz_i, qz_i2c, Int32.ofInt_toInt, Int64.ofInt_toInt, Int32.ofInt_add, Int32.ofInt_sub, Int32.ofInt_mul, Int64.ofInt_add, Int64.ofInt_sub, Int64.ofInt_mul, Int64.ofInt_neg], qz_r32 _, hs⟩ hW hS
theorem qz_ins_i2b {x : Int} (k : qz_J Y G is (pc + 1) ls (qz_i (qz_i2b x) :: st) h cs sl t) : qz_J Y G ((.i2b, 1) :: is) pc ls (qz_i x :: st) h cs sl t := by
  obtain ⟨p, l, e, s, m, args, below, meth, c, D, dA, B0, hc, h0⟩ := G
  intro r hr hx lsC stC H locs hca hl hs hW hS
  obtain ⟨h1, h2, h3, h4, h5, h6, h7, h8, h9⟩ := id hx
  obtain ⟨r2, rfl, hx', hs⟩ := hs
  refine lv_i2b h1 h2 hca.1 rfl ?_
  exact k r hr hx lsC _ H locs hca.2 hl ⟨r2, by simp only [qz_cv, qz_i, qz_i2b, Int32.ofInt_toInt, Int64.ofInt_toInt, Int32.ofInt_add, Int32.ofInt_sub, Int32.ofInt_mul, Int64.ofInt_add, Int64.ofInt_sub, Int64.ofInt_mul, Int64.ofInt_neg], qz_r32 _, hs⟩ hW hS
theorem qz_lcmp {x y : Int} (k : qz_J Y G is (pc + 1) ls (qz_i (qz_cmp x y) :: st) h cs sl t) : qz_J Y G ((.lcmp, 1) :: is) pc ls (qz_j y :: qz_j x :: st) h cs sl t := by
  obtain ⟨p, l, e, s, m, args, below, meth, c, D, dA, B0, hc, h0⟩ := G
  intro r hr hx lsC stC H locs hca hl hs hW hS
  obtain ⟨h1, h2, h3, h4, h5, h6, h7, h8, h9⟩ := id hx
  obtain ⟨r1, rfl, hy, r2, rfl, hx', hs⟩ := hs
  refine W.lcmp h1 h2 hca.1 ?_
  have hx2 : qz_64 x := hx'
  have hy2 : qz_64 y := hy
  refine k r hr hx lsC _ H locs hca.2 hl ⟨r2, ?_, ?_, hs⟩ hW hS
  · show Value.int (lg_cmp (Int64.ofInt x) (Int64.ofInt y)) :: r2 = Value.int (Int32.ofInt (qz_cmp x y)) :: r2
    have e1 : (Int64.ofInt x > Int64.ofInt y) ↔ y < x := by show Int64.ofInt y < Int64.ofInt x ↔ _; rw [Int64.lt_iff_toInt_lt, qz_t64 hx2, qz_t64 hy2]
    have e2 : (Int64.ofInt x = Int64.ofInt y) ↔ x = y := ⟨fun q => by rw [← qz_t64 hx2, ← qz_t64 hy2, q], fun q => by rw [q]⟩
    unfold lg_cmp qz_cmp
    by_cases c1 : y < x
    · rw [if_pos c1, if_pos (e1.mpr c1)]; rfl
    · rw [if_neg c1, if_neg (fun q => c1 (e1.mp q))]
      by_cases c2 : x = y
      · rw [if_pos c2, if_pos (e2.mpr c2)]; rfl
      · rw [if_neg c2, if_neg (fun q => c2 (e2.mp q))]; rfl
  · show qz_32 (qz_cmp x y)
    unfold qz_cmp
    split
    · exact ⟨by decide, by decide⟩
    · split <;> exact ⟨by decide, by decide⟩
theorem qz_dup {v : qz_V} (hc1 : qz_c1 v = true) (k : qz_J Y G is (pc + 1) ls (v :: v :: st) h cs sl t) : qz_J Y G ((.dup, 1) :: is) pc ls (v :: st) h cs sl t := by
  obtain ⟨p, l, e, s, m, args, below, meth, c, D, dA, B0, hc, h0⟩ := G
  intro r hr hx lsC stC H locs hca hl hs hW hS
  obtain ⟨h1, h2, h3, h4, h5, h6, h7, h8, h9⟩ := id hx
  obtain ⟨r2, rfl, hv, hs⟩ := hs
  refine lv_dup h1 h2 hca.1 (qz_cat h hc1) ?_
  exact k r hr hx lsC _ H locs hca.2 hl ⟨_, rfl, hv, _, rfl, hv, hs⟩ hW hS
theorem qz_pop {v : qz_V} (hc1 : qz_c1 v = true) (k : qz_J Y G is (pc + 1) ls st h cs sl t) : qz_J Y G ((.pop, 1) :: is) pc ls (v :: st) h cs sl t := by
  obtain ⟨p, l, e, s, m, args, below, meth, c, D, dA, B0, hc, h0⟩ := G
  intro r hr hx lsC stC H locs hca hl hs hW hS
  obtain ⟨h1, h2, h3, h4, h5, h6, h7, h8, h9⟩ := id hx
  obtain ⟨r2, rfl, hv, hs⟩ := hs
  refine lv_pop h1 h2 hca.1 (qz_cat h hc1) ?_
  exact k r hr hx lsC _ H locs hca.2 hl hs hW hS
theorem qz_dup2 {v w : qz_V} (hc1 : qz_c1 v = true) (hc2 : qz_c1 w = true) (k : qz_J Y G is (pc + 1) ls (v :: w :: v :: w :: st) h cs sl t) : qz_J Y G ((.dup2, 1) :: is) pc ls (v :: w :: st) h cs sl t := by
  obtain ⟨p, l, e, s, m, args, below, meth, c, D, dA, B0, hc, h0⟩ := G
  intro r hr hx lsC stC H locs hca hl hs hW hS
  obtain ⟨h1, h2, h3, h4, h5, h6, h7, h8, h9⟩ := id hx
  obtain ⟨r1, rfl, hv, r2, rfl, hw, hs⟩ := hs
  refine lv_dup2_11 h1 h2 hca.1 (qz_cat h hc1) (qz_cat h hc2) ?_
  exact k r hr hx lsC _ H locs hca.2 hl ⟨_, rfl, hv, _, rfl, hw, _, rfl, hv, _, rfl, hw, hs⟩ hW hS
theorem qz_if_eq {x : Int} {off : Int} (ht : (pc : Int) + off = (T : Int)) (hT : qz_ca Y.2.1 T isT) (kt : qz_J Y G isT T ls st h cs sl t1) (kf : qz_J Y G is (pc + 3) ls st h cs sl t2) : qz_J Y G ((.ifCond .eq off, 3) :: is) pc ls (qz_i x :: st) h cs sl (if x = 0 then t1 else t2) := by
  obtain ⟨p, l, e, s, m, args, below, meth, c, D, dA, B0, hc, h0⟩ := G
  intro r hr hx lsC stC H locs hca hl hs hW hS
  obtain ⟨h1, h2, h3, h4, h5, h6, h7, h8, h9⟩ := id hx
  obtain ⟨r2, rfl, hx2, hs⟩ := hs
  have e : _ ↔ x = 0 := qz_e0 hx2
  refine lv_if_eq h1 h2 hca.1 ht (fun q => ?_) (fun q => ?_)
  · rw [if_pos (e.mp q)] at hr
    exact kt r hr hx lsC _ H locs hT hl hs hW hS
  · rw [if_neg (fun z => q (e.mpr z))] at hr
    exact kf r hr hx lsC _ H locs hca.2 hl hs hW hS
theorem qz_icmp_eq {x y : Int} {off : Int} (ht : (pc : Int) + off = (T : Int)) (hT : qz_ca Y.2.1 T isT) (kt : qz_J Y G isT T ls st h cs sl t1) (kf : qz_J Y G is (pc + 3) ls st h cs sl t2) : qz_J Y G ((.if_icmp .eq off, 3) :: is) pc ls (qz_i y :: qz_i x :: st) h cs sl (if x = y then t1 else t2) := by
  obtain ⟨p, l, e, s, m, args, below, meth, c, D, dA, B0, hc, h0⟩ := G
  intro r hr hx lsC stC H locs hca hl hs hW hS
  obtain ⟨h1, h2, h3, h4, h5, h6, h7, h8, h9⟩ := id hx
  obtain ⟨r1, rfl, hy2, r2, rfl, hx2, hs⟩ := hs
  have e : _ ↔ x = y := qz_e32 hx2 hy2
  refine lv_icmp_eq h1 h2 hca.1 ht (fun q => ?_) (fun q => ?_)
  · rw [if_pos (e.mp q)] at hr
    exact kt r hr hx lsC _ H locs hT hl hs hW hS
  · rw [if_neg (fun z => q (e.mpr z))] at hr
    exact kf r hr hx lsC _ H locs hca.2 hl hs hW hS
theorem qz_if_ne {x : Int} {off : Int} (ht : (pc : Int) + off = (T : Int)) (hT : qz_ca Y.2.1 T isT) (kt : qz_J Y G isT T ls st h cs sl t1) (kf : qz_J Y G is (pc + 3) ls st h cs sl t2) : qz_J Y G ((.ifCond .ne off, 3) :: is) pc ls (qz_i x :: st) h cs sl (if ¬ x = 0 then t1 else t2) := by
  obtain ⟨p, l, e, s, m, args, below, meth, c, D, dA, B0, hc, h0⟩ := G
  intro r hr hx lsC stC H locs hca hl hs hW hS
  obtain ⟨h1, h2, h3, h4, h5, h6, h7, h8, h9⟩ := id hx
  obtain ⟨r2, rfl, hx2, hs⟩ := hs
  have e : _ ↔ x = 0 := qz_e0 hx2
  refine lv_if_ne h1 h2 hca.1 ht (fun q => ?_) (fun q => ?_)
  · rw [if_pos (fun z => q (e.mpr z))] at hr
    exact kt r hr hx lsC _ H locs hT hl hs hW hS
  · rw [if_neg (fun z => z (e.mp q))] at hr
    exact kf r hr hx lsC _ H locs hca.2 hl hs hW hS
theorem qz_icmp_ne {x y : Int} {off : Int} (ht : (pc : Int) + off = (T : Int)) (hT : qz_ca Y.2.1 T isT) (kt : qz_J Y G isT T ls st h cs sl t1) (kf : qz_J Y G is (pc + 3) ls st h cs sl t2) : qz_J Y G ((.if_icmp .ne off, 3) :: is) pc ls (qz_i y :: qz_i x :: st) h cs sl (if ¬ x = y then t1 else t2) := by
  obtain ⟨p, l, e, s, m, args, below, meth, c, D, dA, B0, hc, h0⟩ := G
  intro r hr hx lsC stC H locs hca hl hs hW hS
  obtain ⟨h1, h2, h3, h4, h5, h6, h7, h8, h9⟩ := id hx
  obtain ⟨r1, rfl, hy2, r2, rfl, hx2, hs⟩ := hs
  have e : _ ↔ x = y := qz_e32 hx2 hy2
  refine lv_icmp_ne h1 h2 hca.1 ht (fun q => ?_) (fun q => ?_)
  · rw [if_pos (fun z => q (e.mpr z))] at hr
    exact kt r hr hx lsC _ H locs hT hl hs hW hS
  · rw [if_neg (fun z => z (e.mp q))] at hr
    exact kf r hr hx lsC _ H locs hca.2 hl hs hW hS
theorem qz_if_lt {x : Int} {off : Int} (ht : (pc : Int) + off = (T : Int)) (hT : qz_ca Y.2.1 T isT) (kt : qz_J Y G isT T ls st h cs sl t1) (kf : qz_J Y G is (pc + 3) ls st h cs sl t2) : qz_J Y G ((.ifCond .lt off, 3) :: is) pc ls (qz_i x :: st) h cs sl (if x < 0 then t1 else t2) := by
  obtain ⟨p, l, e, s, m, args, below, meth, c, D, dA, B0, hc, h0⟩ := G
  intro r hr hx lsC stC H locs hca hl hs hW hS
  obtain ⟨h1, h2, h3, h4, h5, h6, h7, h8, h9⟩ := id hx
  obtain ⟨r2, rfl, hx2, hs⟩ := hs
  have e : _ ↔ x < 0 := qz_l0 hx2
  refine lv_if_lt h1 h2 hca.1 ht (fun q => ?_) (fun q => ?_)
  · rw [if_pos (e.mp q)] at hr
    exact kt r hr hx lsC _ H locs hT hl hs hW hS
  · rw [if_neg (fun z => q (e.mpr z))] at hr
    exact kf r hr hx lsC _ H locs hca.2 hl hs hW hS
theorem qz_icmp_lt {x y : Int} {off : Int} (ht : (pc : Int) + off = (T : Int)) (hT : qz_ca Y.2.1 T isT) (kt : qz_J Y G isT T ls st h cs sl t1) (kf : qz_J Y G is (pc + 3) ls st h cs sl t2) : qz_J Y G ((.if_icmp .lt off, 3) :: is) pc ls (qz_i y :: qz_i x :: st) h cs sl (if x < y then t1 else t2) := by
  obtain ⟨p, l, e, s, m, args, below, meth, c, D, dA, B0, hc, h0⟩ := G
  intro r hr hx lsC stC H locs hca hl hs hW hS
  obtain ⟨h1, h2, h3, h4, h5, h6, h7, h8, h9⟩ := id hx
  obtain ⟨r1, rfl, hy2, r2, rfl, hx2, hs⟩ := hs
  have e : _ ↔ x < y := qz_l32 hx2 hy2
  refine lv_icmp_lt h1 h2 hca.1 ht (fun q => ?_) (fun q => ?_)
  · rw [if_pos (e.mp q)] at hr
    exact kt r hr hx lsC _ H locs hT hl hs hW hS
  · rw [if_neg (fun z => q (e.mpr z))] at hr
    exact kf r hr hx lsC _ H locs hca.2 hl hs hW hS
theorem qz_if_ge {x : Int} {off : Int} (ht : (pc : Int) + off = (T : Int)) (hT : qz_ca Y.2.1 T isT) (kt : qz_J Y G isT T ls st h cs sl t1) (kf : qz_J Y G is (pc + 3) ls st h cs sl t2) : qz_J Y G ((.ifCond .ge off, 3) :: is) pc ls (qz_i x :: st) h cs sl (if 0 ≤ x then t1 else t2) := by
  obtain ⟨p, l, e, s, m, args, below, meth, c, D, dA, B0, hc, h0⟩ := G
  intro r hr hx lsC stC H locs hca hl hs hW hS
  obtain ⟨h1, h2, h3, h4, h5, h6, h7, h8, h9⟩ := id hx
  obtain ⟨r2, rfl, hx2, hs⟩ := hs
  have e : _ ↔ 0 ≤ x := qz_ge0 hx2
  refine lv_if_ge h1 h2 hca.1 ht (fun q => ?_) (fun q => ?_)
  · rw [if_pos (e.mp q)] at hr
    exact kt r hr hx lsC _ H locs hT hl hs hW hS
  · rw [if_neg (fun z => q (e.mpr z))] at hr
    exact kf r hr hx lsC _ H locs hca.2 hl hs hW hS
theorem qz_icmp_ge {x y : Int} {off : Int} (ht : (pc : Int) + off = (T : Int)) (hT : qz_ca Y.2.1 T isT) (kt : qz_J Y G isT T ls st h cs sl t1) (kf : qz_J Y G is (pc + 3) ls st h cs sl t2) : qz_J Y G ((.if_icmp .ge off, 3) :: is) pc ls (qz_i y :: qz_i x :: st) h cs sl (if y ≤ x then t1 else t2) := by
  obtain ⟨p, l, e, s, m, args, below, meth, c, D, dA, B0, hc, h0⟩ := G
  intro r hr hx lsC stC H locs hca hl hs hW hS
  obtain ⟨h1, h2, h3, h4, h5, h6, h7, h8, h9⟩ := id hx
  obtain ⟨r1, rfl, hy2, r2, rfl, hx2, hs⟩ := hs
  have e : _ ↔ y ≤ x := qz_m32 hy2 hx2
  refine lv_icmp_ge h1 h2 hca.1 ht (fun q => ?_) (fun q => ?_)
  · rw [if_pos (e.mp q)] at hr
    exact kt r hr hx lsC _ H locs hT hl hs hW hS
  · rw [if_neg (fun z => q (e.mpr z))] at hr
    exact kf r hr hx lsC _ H locs hca.2 hl hs hW hS
theorem qz_if_gt {x : Int} {off : Int} (ht : (pc : Int) + off = (T : Int)) (hT : qz_ca Y.2.1 T isT) (kt : qz_J Y G isT T ls st h cs sl t1) (kf : qz_J Y G is (pc + 3) ls st h cs sl t2) : qz_J Y G ((.ifCond .gt off, 3) :: is) pc ls (qz_i x :: st) h cs sl (if 0 < x then t1 else t2) := by
  obtain ⟨p, l, e, s, m, args, below, meth, c, D, dA, B0, hc, h0⟩ := G
  intro r hr hx lsC stC H locs hca hl hs hW hS
  obtain ⟨h1, h2, h3, h4, h5, h6, h7, h8, h9⟩ := id hx
  obtain ⟨r2, rfl, hx2, hs⟩ := hs
  have e : _ ↔ 0 < x := qz_g0 hx2
  refine lv_if_gt h1 h2 hca.1 ht (fun q => ?_) (fun q => ?_)
  · rw [if_pos (e.mp q)] at hr
    exact kt r hr hx lsC _ H locs hT hl hs hW hS
  · rw [if_neg (fun z => q (e.mpr z))] at hr
    exact kf r hr hx lsC _ H locs hca.2 hl hs hW hS
theorem qz_icmp_gt {x y : Int} {off : Int} (ht : (pc : Int) + off = (T : Int)) (hT : qz_ca Y.2.1 T isT) (kt : qz_J Y G isT T ls st h cs sl t1) (kf : qz_J Y G is (pc + 3) ls st h cs sl t2) : qz_J Y G ((.if_icmp .gt off, 3) :: is) pc ls (qz_i y :: qz_i x :: st) h cs sl (if y < x then t1 else t2) := by
  obtain ⟨p, l, e, s, m, args, below, meth, c, D, dA, B0, hc, h0⟩ := G
  intro r hr hx lsC stC H locs hca hl hs hW hS
  obtain ⟨h1, h2, h3, h4, h5, h6, h7, h8, h9⟩ := id hx
  obtain ⟨r1, rfl, hy2, r2, rfl, hx2, hs⟩ := hs
  have e : _ ↔ y < x := qz_l32 hy2 hx2
  refine lv_icmp_gt h1 h2 hca.1 ht (fun q => ?_) (fun q => ?_)
  · rw [if_pos (e.mp q)] at hr
    exact kt r hr hx lsC _ H locs hT hl hs hW hS
  · rw [if_neg (fun z => q (e.mpr z))] at hr
    exact kf r hr hx lsC _ H locs hca.2 hl hs hW hS
theorem qz_if_le {x : Int} {off : Int} (ht : (pc : Int) + off = (T : Int)) (hT : qz_ca Y.2.1 T isT) (kt : qz_J Y G isT T ls st h cs sl t1) (kf : qz_J Y G is (pc + 3) ls st h cs sl t2) : qz_J Y G ((.ifCond .le off, 3) :: is) pc ls (qz_i x :: st) h cs sl (if x ≤ 0 then t1 else t2) := by
  obtain ⟨p, l, e, s, m, args, below, meth, c, D, dA, B0, hc, h0⟩ := G
  intro r hr hx lsC stC H locs hca hl hs hW hS
  obtain ⟨h1, h2, h3, h4, h5, h6, h7, h8, h9⟩ := id hx
  obtain ⟨r2, rfl, hx2, hs⟩ := hs
  have e : _ ↔ x ≤ 0 := qz_le0 hx2
  refine lv_if_le h1 h2 hca.1 ht (fun q => ?_) (fun q => ?_)
  · rw [if_pos (e.mp q)] at hr
    exact kt r hr hx lsC _ H locs hT hl hs hW hS
  · rw [if_neg (fun z => q (e.mpr z))] at hr
    exact kf r hr hx lsC _ H locs hca.2 hl hs hW hS
theorem qz_icmp_le {x y : Int} {off : Int} (ht : (pc : Int) + off = (T : Int)) (hT : qz_ca Y.2.1 T isT) (kt : qz_J Y G isT T ls st h cs sl t1) (kf : qz_J Y G is (pc + 3) ls st h cs sl t2) : qz_J Y G ((.if_icmp .le off, 3) :: is) pc ls (qz_i y :: qz_i x :: st) h cs sl (if x ≤ y then t1 else t2) := by
  obtain ⟨p, l, e, s, m, args, below, meth, c, D, dA, B0, hc, h0⟩ := G
  intro r hr hx lsC stC H locs hca hl hs hW hS
  obtain ⟨h1, h2, h3, h4, h5, h6, h7, h8, h9⟩ := id hx
  obtain ⟨r1, rfl, hy2, r2, rfl, hx2, hs⟩ := hs
  have e : _ ↔ x ≤ y := qz_m32 hx2 hy2
  refine lv_icmp_le h1 h2 hca.1 ht (fun q => ?_) (fun q => ?_)
  · rw [if_pos (e.mp q)] at hr
    exact kt r hr hx lsC _ H locs hT hl hs hW hS
  · rw [if_neg (fun z => q (e.mpr z))] at hr
    exact kf r hr hx lsC _ H locs hca.2 hl hs hW hS
theorem qz_goto {off : Int} (ht : (pc : Int) + off = (T : Int)) (hT : qz_ca Y.2.1 T isT) (k : qz_J Y G isT T ls st h cs sl t) : qz_J Y G ((.goto off, 3) :: is) pc ls st h cs sl t := by
  obtain ⟨p, l, e, s, m, args, below, meth, c, D, dA, B0, hc, h0⟩ := G
  intro r hr hx lsC stC H locs hca hl hs hW hS
  obtain ⟨h1, h2, h3, h4, h5, h6, h7, h8, h9⟩ := id hx
  refine lv_goto h1 h2 hca.1 ht ?_
  exact k r hr hx lsC _ H locs hT hl hs hW hS
theorem qz_fall (ht : pc = T) (hT : qz_ca Y.2.1 T isT) (k : qz_J Y G isT T ls st h cs sl t) : qz_J Y G [] pc ls st h cs sl t := by
  obtain ⟨p, l, e, s, m, args, below, meth, c, D, dA, B0, hc, h0⟩ := G
  intro r hr hx lsC stC H locs hca hl hs hW hS
  obtain ⟨h1, h2, h3, h4, h5, h6, h7, h8, h9⟩ := id hx
  subst ht
  exact k r hr hx lsC _ H locs hT hl hs hW hS
end QZ
end
section
/-- h' is h but at places that are not kept for the machine -/
def qz_sm (h h' : qz_H) : Prop := h' 0 0 = h 0 0 ∧ h' 0 1 = h 0 1 ∧ ∀ y : Int, h' y (-1) = h y (-1) ∧ h' y (-2) = h y (-2) ∧ h' y (-3) = h y (-3)
theorem qz_sm.ok {h h' : qz_H} (e : qz_sm h h') (k : Nat) (x : Int) : qz_ok h' k x ↔ qz_ok h k x := by
  unfold qz_ok
  rw [e.1, (e.2.2 x).2.1]
theorem qz_sm.ad {h h' : qz_H} (e : qz_sm h h') (x : Int) : qz_ad h' x = qz_ad h x := by
  unfold qz_ad
  rw [(e.2.2 x).2.2]
theorem qz_sm.tv {h h' : qz_H} (e : qz_sm h h') (t : Nat) (x : Int) : qz_tv h' t x = qz_tv h t x := by
  unfold qz_tv qz_rf
  rw [e.ad]
theorem qz_sm.rg {h h' : qz_H} (e : qz_sm h h') (t : Nat) (x : Int) : qz_rg h' t x ↔ qz_rg h t x := by
  unfold qz_rg
  rw [e.ok]
theorem qz_sm.ex {h h' : qz_H} (e : qz_sm h h') : qz_ex h h' := fun k x hk => ⟨(e.ok k x).mpr hk, (e.2.2 x).2.2⟩
theorem qz_up_ne {h : qz_H} {o i v a b : Int} (hn : ¬ (a = o ∧ b = i)) : qz_up h o i v a b = h a b := by
  unfold qz_up
  rw [if_neg hn]
theorem qz_up_eq {h : qz_H} {o i v : Int} : qz_up h o i v o i = v := by
  unfold qz_up
  rw [if_pos ⟨rfl, rfl⟩]
theorem qz_up_sm {h : qz_H} {x j v : Int} (hx : 0 < x) (hj : 0 ≤ j) : qz_sm h (qz_up h x j v) :=
  ⟨qz_up_ne (by omega), qz_up_ne (by omega), fun y => ⟨qz_up_ne (by omega), qz_up_ne (by omega), qz_up_ne (by omega)⟩⟩
theorem qz_ok_ne {h : qz_H} {k : Nat} {x : Int} (hk : qz_ok h k x) : x ≠ 0 := by
  rcases hk.1 with q | q <;> omega
theorem qz_ok_pos {h : qz_H} {k : Nat} {x : Int} (hk : qz_ok h k x) (hx : 0 < x) : 1 ≤ x ∧ x ≤ h 0 0 := by
  rcases hk.1 with q | q
  · exact q
  · omega
theorem qz_ok_kind {h : qz_H} {k k' : Nat} {x : Int} (hk : qz_ok h k x) (hk' : qz_ok h k' x) : k = k' := by
  have := hk.2.symm.trans hk'.2
  omega
section QW
variable {D : va_G} {dA : Nat → ClassId} {B0 : Nat} {hc h0 h h' : qz_H} {U : State} {H H' : Heap} {x j v : Int} {k : Nat}
theorem qz_W_ne (hW : qz_W D dA B0 hc h0 U h H) (hk : qz_ok h k x) (hx : 0 < x) {y : Int} {k' : Nat} (hy : qz_ok h k' y) (hne : y ≠ x) : qz_ad h y ≠ qz_ad h x := by
  obtain ⟨-, -, w3, w4, w5, -⟩ := hW
  have hx1 := qz_ok_pos hk hx
  rcases hy.1 with q | q
  · exact fun z => hne (w4 y x q.1 q.2 hx1.1 hx1.2 z)
  · have a1 := w5 y q.1 q.2
    have a2 := (w3 x hx1.1 hx1.2).1
    omega
theorem qz_W_set (hW : qz_W D dA B0 hc h0 U h H) (hk : qz_ok h k x) (hx : 0 < x) (hj : 0 ≤ j) (hz : H'.size = H.size) (hq : ∀ q, q ≠ qz_ad h x → H'[q]? = H[q]?)
    (hn : (k < 40 → qz_ob2 D (qz_up h x j v) H' x k) ∧ (40 ≤ k → qz_ay2 dA U (qz_up h x j v) H' x k)) : qz_W D dA B0 hc h0 U (qz_up h x j v) H' := by
  have e := qz_up_sm (h := h) (v := v) hx hj
  have hW' := hW
  obtain ⟨⟨w0, w1⟩, w2, w3, w4, w5, w6, w7⟩ := hW
  refine ⟨⟨by rw [e.1]; exact w0, by rw [e.2.1, hz]; exact w1⟩, fun y k' hy => ?_, fun y h1 h2 => ?_, fun y z h1 h2 h3 h4 h5 => ?_, fun y h1 h2 => ?_, fun y h1 i => ?_, fun a b g => ⟨(e.ex a b (w7 a b g).1).1, (e.ex a b (w7 a b g).1).2.trans (w7 a b g).2⟩⟩
  · have hy0 := (e.ok k' y).mp hy
    by_cases hyx : y = x
    · subst hyx
      have := qz_ok_kind hk hy0
      subst this
      exact hn
    · have hne := qz_W_ne hW' hk hx hy0 hyx
      have hcell := hq _ hne
      have hval : ∀ i : Int, qz_up h x j v y i = h y i := fun i => qz_up_ne (fun z => hyx z.1)
      obtain ⟨a1, a2⟩ := w2 y k' hy0
      refine ⟨fun hlt => ?_, fun hge => ?_⟩
      · obtain ⟨⟨cell, b1, b2, b3, b4, b5, b6⟩, b7⟩ := a1 hlt
        refine ⟨⟨cell, by rw [e.ad, hcell]; exact b1, b2, b3, b4, b5, fun i hi => ?_⟩, fun i hi => ?_⟩
        · rw [e.tv, hval]; exact b6 i hi
        · rw [e.rg, hval]; exact b7 i hi
      · obtain ⟨⟨cell, b1, b2, b3, b4, b5, b6, b7⟩, b8, b9, b10⟩ := a2 hge
        refine ⟨⟨cell, by rw [e.ad, hcell]; exact b1, b2, b3, b4, by rw [hval]; exact b5, by rw [hval]; exact b6, fun i hi => ?_⟩, by rw [hval]; exact b8, by rw [hval]; exact b9, fun i hi => ?_⟩
        · rw [hval] at hi ⊢
          rw [e.tv]; exact b7 i hi
        · rw [hval] at hi ⊢
          rw [e.rg]; exact b10 i hi
  · rw [e.1] at h2
    rw [e.ad, (e.2.2 y).2.1]
    exact w3 y h1 h2
  · rw [e.1] at h2 h4
    rw [e.ad, e.ad] at h5
    exact w4 y z h1 h2 h3 h4 h5
  · rw [e.ad]
    exact w5 y h1 h2
  · rw [qz_up_ne (fun z => by omega)]
    exact w6 y h1 i
theorem qz_set_slot {cell : Cell} {i : Nat} {w : Value} (hi : i < cell.slots.size) : (cell.setSlot i w).slots[i]? = some w := by
  simp [Cell.setSlot, hi]
/-- a field is written -/
theorem qz_W_fld (hW : qz_W D dA B0 hc h0 U h H) (hk : qz_ok h k x) (hx : 0 < x) (hk40 : k < 40) {i : Nat} (hi : i < kz_N k) (hap : ∀ a b, a < kz_N k → b < kz_N k → a ≠ b → D.2 k a ≠ D.2 k b) {cell : Cell} (hcell : H[qz_ad h x]? = some cell) (hrg : qz_rg h (kz_ft k i) v)
    (he : H'[qz_ad h x]? = some (cell.setSlot (D.2 k i) (qz_tv h (kz_ft k i) v))) (hz : H'.size = H.size) (hq : ∀ q, q ≠ qz_ad h x → H'[q]? = H[q]?) : qz_W D dA B0 hc h0 U (qz_up h x i v) H' := by
  have e := qz_up_sm (h := h) (v := v) hx (Int.natCast_nonneg i)
  refine qz_W_set hW hk hx (Int.natCast_nonneg i) hz hq ⟨fun _ => ?_, fun q => absurd hk40 (by omega)⟩
  obtain ⟨⟨cell', b1, b2, b3, b4, b5, b6⟩, b7⟩ := (hW.2.1 x k hk).1 hk40
  cases hcell.symm.trans b1
  refine ⟨⟨cell.setSlot (D.2 k i) (qz_tv h (kz_ft k i) v), by rw [e.ad]; exact he, b2, b3, b4, b5, fun a ha => ?_⟩, fun a ha => ?_⟩
  · rw [e.tv]
    by_cases hai : a = i
    · subst hai
      rw [qz_up_eq]
      exact qz_set_slot (k2_hasslot (b6 a ha))
    · rw [qz_up_ne (fun z => hai (by have := z.2; omega)), slot_ne _ _ (hap i a hi ha (fun z => hai z.symm))]
      exact b6 a ha
  · rw [e.rg]
    by_cases hai : a = i
    · subst hai
      rw [qz_up_eq]
      exact hrg
    · rw [qz_up_ne (fun z => hai (by have := z.2; omega))]
      exact b7 a ha
/-- an element is written -/
theorem qz_W_elt (hW : qz_W D dA B0 hc h0 U h H) (hk : qz_ok h k x) (hx : 0 < x) (hk40 : 40 ≤ k) (hj : 0 ≤ j) (hjl : j < h x (-1)) {cell : Cell} (hcell : H[qz_ad h x]? = some cell) (hrg : qz_rg h (kz_ae k) v)
    (he : H'[qz_ad h x]? = some (cell.setSlot j.toNat (qz_tv h (kz_ae k) v))) (hz : H'.size = H.size) (hq : ∀ q, q ≠ qz_ad h x → H'[q]? = H[q]?) : qz_W D dA B0 hc h0 U (qz_up h x j v) H' := by
  have e := qz_up_sm (h := h) (v := v) hx hj
  refine qz_W_set hW hk hx hj hz hq ⟨fun q => absurd hk40 (by omega), fun _ => ?_⟩
  obtain ⟨⟨cell', b1, b2, b3, b4, b5, b6, b7⟩, b8, b9, b10⟩ := (hW.2.1 x k hk).2 hk40
  cases hcell.symm.trans b1
  have hlen : qz_up h x j v x (-1) = h x (-1) := (e.2.2 x).1
  refine ⟨⟨cell.setSlot j.toNat (qz_tv h (kz_ae k) v), by rw [e.ad]; exact he, b2, b3, b4, by rw [hlen, k2_slotsz]; exact b5, by rw [hlen, k2_slotsz]; exact b6, fun a ha => ?_⟩, by rw [hlen]; exact b8, by rw [hlen]; exact b9, fun a ha => ?_⟩
  · rw [hlen] at ha
    rw [e.tv]
    by_cases hai : (a : Int) = j
    · subst hai
      rw [qz_up_eq, Int.toNat_natCast]
      exact qz_set_slot (by omega)
    · rw [qz_up_ne (fun z => hai z.2), slot_ne _ _ (fun z => hai (by omega))]
      exact b7 a ha
  · rw [hlen] at ha
    rw [e.rg]
    by_cases hai : (a : Int) = j
    · rw [hai, qz_up_eq]
      exact hrg
    · rw [qz_up_ne (fun z => hai z.2)]
      exact b10 a ha
/-- a cell is new -/
theorem qz_nw_old {n : Int} {y : Int} (h1 : y ≠ 0) (h2 : y ≠ h 0 0 + 1) (b : Int) : qz_nw h x n y b = h y b := by
  unfold qz_nw
  rw [if_neg h1, if_neg h2]
theorem qz_nw_00 {n : Int} : qz_nw h x n 0 0 = h 0 0 + 1 := by simp [qz_nw]
theorem qz_nw_01 {n : Int} : qz_nw h x n 0 1 = h 0 1 + 1 := by simp [qz_nw]
theorem qz_nw_new {n : Int} (h0 : 0 ≤ h 0 0) (b : Int) : qz_nw h x n (h 0 0 + 1) b = if b = -1 then n else if b = -2 then x else if b = -3 then h 0 1 else 0 := by
  unfold qz_nw
  rw [if_neg (by omega), if_pos rfl]
theorem qz_nw_ex {n : Int} (h0 : 0 ≤ h 0 0) : qz_ex h (qz_nw h x n) := by
  intro k' y hy
  have hy0 := qz_ok_ne hy
  have hy1 : y ≠ h 0 0 + 1 := by rcases hy.1 with q | q <;> omega
  refine ⟨⟨?_, by rw [qz_nw_old hy0 hy1]; exact hy.2⟩, qz_nw_old hy0 hy1 _⟩
  rw [qz_nw_00]
  rcases hy.1 with q | q
  · exact Or.inl ⟨q.1, by omega⟩
  · exact Or.inr q
theorem qz_ex.ad {h h' : qz_H} (e : qz_ex h h') {k : Nat} {x : Int} (hk : qz_ok h k x) : qz_ad h' x = qz_ad h x := by
  unfold qz_ad
  rw [(e k x hk).2]
theorem qz_ex.rg {h h' : qz_H} (e : qz_ex h h') {t : Nat} {x : Int} (hr : qz_rg h t x) : qz_rg h' t x ∧ qz_tv h' t x = qz_tv h t x := by
  unfold qz_rg qz_tv at *
  by_cases a : t = 2
  · simp only [if_pos a] at *; exact ⟨hr, trivial⟩
  · simp only [if_neg a] at *
    by_cases b : t < 10
    · simp only [if_pos b] at *; exact ⟨hr, trivial⟩
    · have c3 : ¬ t = 3 := by omega
      have c4 : ¬ t = 4 := by omega
      have c5 : ¬ t = 5 := by omega
      simp only [if_neg b, if_neg c3, if_neg c4, if_neg c5] at *
      rcases hr with q | q
      · subst q
        exact ⟨Or.inl rfl, rfl⟩
      · refine ⟨Or.inr (e _ _ q).1, ?_⟩
        unfold qz_rf
        rw [e.ad q]
theorem qz_W_nw {n : Int} (hW : qz_W D dA B0 hc h0 U h H) (hk99 : k < 99) (hB : B0 ≤ H.size) (hz : H'.size = H.size + 1) (hq : ∀ q, q < H.size → H'[q]? = H[q]?)
    (hn : (k < 40 → qz_ob2 D (qz_nw h k n) H' (h 0 0 + 1) k) ∧ (40 ≤ k → qz_ay2 dA U (qz_nw h k n) H' (h 0 0 + 1) k)) : qz_W D dA B0 hc h0 U (qz_nw h k n) H' := by
  have hW' := hW
  obtain ⟨⟨w0, w1⟩, w2, w3, w4, w5, w6, w7⟩ := hW
  have e := qz_nw_ex (h := h) (x := (k : Int)) (n := n) w0
  have old : ∀ y : Int, 1 ≤ y → y ≤ h 0 0 → ∀ b, qz_nw h k n y b = h y b := fun y h1 h2 b => qz_nw_old (by omega) (by omega) b
  have adn : qz_ad (qz_nw h k n) (h 0 0 + 1) = H.size := by
    unfold qz_ad
    rw [qz_nw_new w0, if_neg (by decide), if_neg (by decide), if_pos rfl, w1]
    simp
  have lt : ∀ y k', qz_ok h k' y → qz_ad h y < H.size := by
    intro y k' hy
    obtain ⟨a1, a2⟩ := w2 y k' hy
    by_cases c : k' < 40
    · obtain ⟨⟨cell, b1, -⟩, -⟩ := a1 c
      exact (Array.getElem?_eq_some_iff.mp b1).1
    · obtain ⟨⟨cell, b1, -⟩, -⟩ := a2 (by omega)
      exact (Array.getElem?_eq_some_iff.mp b1).1
  have lt2 : ∀ y, 1 ≤ y → y ≤ h 0 0 → qz_ad h y < H.size := by
    intro y h1 h2
    obtain ⟨-, g1, g2⟩ := w3 y h1 h2
    exact lt y (h y (-2)).toNat ⟨Or.inl ⟨h1, h2⟩, by omega⟩
  refine ⟨⟨by rw [qz_nw_00]; omega, by rw [qz_nw_01, hz, w1]; omega⟩, fun y k' hy => ?_, fun y h1 h2 => ?_, fun y z h1 h2 h3 h4 h5 => ?_, fun y h1 h2 => ?_, fun y h1 i => ?_, fun a b g => ⟨(e a b (w7 a b g).1).1, (e a b (w7 a b g).1).2.trans (w7 a b g).2⟩⟩
  · by_cases hyn : y = h 0 0 + 1
    · subst hyn
      have h9 := hy.2
      rw [qz_nw_new w0, if_neg (by decide), if_pos rfl] at h9
      have : k = k' := by omega
      subst this
      exact hn
    · have hy0 : qz_ok h k' y := by
        have q0 := qz_ok_ne hy
        refine ⟨?_, by rw [← qz_nw_old (h := h) (x := (k : Int)) (n := n) q0 hyn]; exact hy.2⟩
        rcases hy.1 with q | q
        · rw [qz_nw_00] at q
          exact Or.inl ⟨q.1, by omega⟩
        · exact Or.inr q
      have hval : ∀ i : Int, qz_nw h k n y i = h y i := fun i => qz_nw_old (qz_ok_ne hy0) hyn i
      have hcell := hq _ (lt y k' hy0)
      obtain ⟨a1, a2⟩ := w2 y k' hy0
      refine ⟨fun hlt => ?_, fun hge => ?_⟩
      · obtain ⟨⟨cell, b1, b2, b3, b4, b5, b6⟩, b7⟩ := a1 hlt
        refine ⟨⟨cell, by rw [e.ad hy0, hcell]; exact b1, b2, b3, b4, b5, fun i hi => ?_⟩, fun i hi => ?_⟩
        · rw [hval, (e.rg (b7 i hi)).2]; exact b6 i hi
        · rw [hval]; exact (e.rg (b7 i hi)).1
      · obtain ⟨⟨cell, b1, b2, b3, b4, b5, b6, b7⟩, b8, b9, b10⟩ := a2 hge
        refine ⟨⟨cell, by rw [e.ad hy0, hcell]; exact b1, b2, b3, b4, by rw [hval]; exact b5, by rw [hval]; exact b6, fun i hi => ?_⟩, by rw [hval]; exact b8, by rw [hval]; exact b9, fun i hi => ?_⟩
        · rw [hval] at hi ⊢
          rw [(e.rg (b10 i (by omega))).2]; exact b7 i hi
        · rw [hval] at hi ⊢
          exact (e.rg (b10 i hi)).1
  · rw [qz_nw_00] at h2
    by_cases hyn : y = h 0 0 + 1
    · subst hyn
      refine ⟨by rw [adn]; exact hB, ?_⟩
      rw [qz_nw_new w0, if_neg (by decide), if_pos rfl]
      omega
    · have h2' : y ≤ h 0 0 := by omega
      have g := w3 y h1 h2'
      unfold qz_ad at g ⊢
      rw [old y h1 h2', old y h1 h2']
      exact g
  · rw [qz_nw_00] at h2 h4
    have adold : ∀ y, 1 ≤ y → y ≤ h 0 0 → qz_ad (qz_nw h k n) y = qz_ad h y := fun y a b => by unfold qz_ad; rw [old y a b]
    by_cases hyn : y = h 0 0 + 1
    · by_cases hzn : z = h 0 0 + 1
      · rw [hyn, hzn]
      · rw [hyn, adn, adold z h3 (by omega)] at h5
        have := lt2 z h3 (by omega)
        omega
    · by_cases hzn : z = h 0 0 + 1
      · rw [hzn, adn, adold y h1 (by omega)] at h5
        have := lt2 y h1 (by omega)
        omega
      · rw [adold y h1 (by omega), adold z h3 (by omega)] at h5
        exact w4 y z h1 (by omega) h3 (by omega) h5
  · have g := w5 y h1 h2
    unfold qz_ad at g ⊢
    rw [qz_nw_old (by omega) (by omega)]
    exact g
  · rw [qz_nw_old (by omega) (by omega)]
    exact w6 y h1 i
end QW
def qz_tc (ty : FieldType) (t : Nat) : Bool := match ty with
  | .int => t == 1
  | .long => t == 2
  | .boolean => t == 3
  | .byte => t == 5
  | .object _ => decide (10 ≤ t)
  | .array _ => decide (10 ≤ t)
  | _ => false
/-- what a class's rows say: its fields are laid, of the types that my tables name -/
def qz_cw (k : Nat) : Prop := ∃ q : vw_C, kz_cl[k]? = some q ∧ q.2.2 = kz_N k ∧ k < 40 ∧ (∀ w ∈ u_ws q.1 q.2.1 q.2.2, w ∈ kz_TT) ∧ (∀ j, j < q.2.2 → parseFieldDescriptor (q.2.1 j).2.2.1 = some (kz_fT k j)) ∧ (∀ a, a < q.2.2 → ∀ b, b < q.2.2 → a ≠ b → (q.2.1 a).2.1 ≠ (q.2.1 b).2.1) ∧ ∀ j, j < q.2.2 → qz_tc (kz_fT k j) (kz_ft k j) = true
def qz_cg (k : Nat) : Prop := qz_cw k ∨ (k ∈ kz_kK ∧ k < 40 ∧ ∃ q : vw_C, kz_cl[k]? = some q ∧ q.2.2 = kz_N k)
theorem qz_cg_at {k : Nat} (hw : qz_cg k) {D : va_G} {dA : Nat → ClassId} {B0 : Nat} {hc : qz_H} {s : State} {args : Array Value} (h9 : qz_E D dA B0 hc s) (hts : ∀ w ∈ kz_TT, w.before args s = true) {q : vw_C} (hq : kz_cl[k]? = some q) {j : Nat} (hj : j < q.2.2) : k < 40 ∧ q.2.2 = kz_N k ∧ qz_SN s (q.2.1 j).1 (q.2.1 j).2.1 (q.2.1 j).2.2.1 (D.2 k j) := by
  rcases hw with ⟨q', c1, c2, c3, c4, -⟩ | ⟨c1, c2, q', c3, c4⟩
  · cases c1.symm.trans hq
    obtain ⟨hSl, hfc, kC, hkC, hkind⟩ := h9.2.1.1 k q c1
    obtain ⟨cf, kf, fi, f, hi, hsl⟩ := hSl j hj
    exact ⟨c3, c2, cf, kf, fi, f, hi, hsl, (u_facts hfc hkC (u_lays hts c4 hj) hi).1⟩
  · cases c3.symm.trans hq
    exact ⟨c2, c4, h9.2.2.1.2.2 k c1 q c3 j hj⟩
def qz_fl (own : String) (idx k j : Nat) : Prop := ∃ q : vw_C, kz_cl[k]? = some q ∧ j < q.2.2 ∧ (Cond.fieldLink own idx (q.2.1 j).1 (q.2.1 j).2.1 (q.2.1 j).2.2.1 ∈ kz_TT ∨ ∃ host, Cond.fieldLinkNest own idx (q.2.1 j).1 (q.2.1 j).2.1 (q.2.1 j).2.2.1 host ∈ kz_NT)
def qz_fp (Y : qz_Y) (idx k j : Nat) : Prop := ∃ q : vw_C, kz_cl[k]? = some q ∧ j < q.2.2 ∧ (((q.2.1 j).2.2.2 = false ∧ (Cond.fieldLink Y.1.cls idx (q.2.1 j).1 (q.2.1 j).2.1 (q.2.1 j).2.2.1 ∈ kz_TT ∨ ∃ host, Cond.fieldLinkNest Y.1.cls idx (q.2.1 j).1 (q.2.1 j).2.1 (q.2.1 j).2.2.1 host ∈ kz_NT)) ∨ ((q.2.1 j).2.2.2 = true ∧ Y.1.name = "<init>" ∧ (q.2.1 j).1 = Y.1.cls ∧ Cond.fieldLink Y.1.cls idx (q.2.1 j).1 (q.2.1 j).2.1 (q.2.1 j).2.2.1 ∈ kz_TT))
theorem qz_nf {h : qz_H} {ty : FieldType} {t : Nat} {v : Int} (hc : qz_tc ty t = true) (hr : qz_rg h t v) : narrow ty (qz_tv h t v) = qz_tv h t v ∧ fits ty (qz_tv h t v) = true := by
  cases ty with
  | int =>
    have : t = 1 := by simpa [qz_tc] using hc
    subst this
    exact ⟨rfl, rfl⟩
  | long =>
    have : t = 2 := by simpa [qz_tc] using hc
    subst this
    exact ⟨rfl, rfl⟩
  | boolean =>
    have : t = 3 := by simpa [qz_tc] using hc
    subst this
    have hr : v = 0 ∨ v = 1 := hr
    rcases hr with rfl | rfl
    · exact ⟨rfl, rfl⟩
    · exact ⟨rfl, rfl⟩
  | byte =>
    have : t = 5 := by simpa [qz_tc] using hc
    subst this
    have hr : -128 ≤ v ∧ v ≤ 127 := hr
    have h8 := qz_8 (n := v) (by simp only [Bool.and_eq_true, decide_eq_true_eq]; exact hr)
    refine ⟨?_, ?_⟩
    · show Value.int (Int32.ofInt v).toInt8.toInt32 = Value.int (Int32.ofInt v)
      rw [Int32.toInt8_ofInt, h8.1]
    · show (decide ((-128 : Int32) ≤ Int32.ofInt v) && decide (Int32.ofInt v ≤ (127 : Int32))) = true
      have e1 : (-128 : Int32).toInt = -128 := by decide
      have e2 : (127 : Int32).toInt = 127 := by decide
      rw [Bool.and_eq_true, decide_eq_true_eq, decide_eq_true_eq, Int32.le_iff_toInt_le, Int32.le_iff_toInt_le, e1, e2, qz_t32 h8.2]
      exact hr
  | object n =>
    have ht : 10 ≤ t := by simpa [qz_tc] using hc
    have e : qz_tv h t v = va_rf (qz_rf h v) := by unfold qz_tv; rw [if_neg (by omega), if_neg (by omega)]
    rw [e]
    cases qz_rf h v <;> exact ⟨rfl, rfl⟩
  | array n =>
    have ht : 10 ≤ t := by simpa [qz_tc] using hc
    have e : qz_tv h t v = va_rf (qz_rf h v) := by unfold qz_tv; rw [if_neg (by omega), if_neg (by omega)]
    rw [e]
    cases qz_rf h v <;> exact ⟨rfl, rfl⟩
  | _ => cases hc
theorem qz_cvr {h : qz_H} {b : Bool} {k : Nat} {x : Int} (hx : x ≠ 0) : qz_cv h (qz_r b k x) = .ref (qz_ad h x) := by
  show va_rf (qz_rf h x) = _
  unfold qz_rf
  rw [if_neg hx]
  rfl
theorem qz_vot {h : qz_H} {k : Nat} {x : Int} (hv : qz_vo h (qz_r true k x)) : qz_ok h k x := by
  rcases hv with ⟨q, -⟩ | q
  · cases q
  · exact q
theorem qz_rgI {h : qz_H} {t : Nat} {x : Int} (h1 : t < 10) (h2 : ¬ t = 2) (hr : qz_rg h t x) : qz_32 x := by
  unfold qz_rg at hr
  rw [if_neg h2] at hr
  split at hr
  · exact ⟨by omega, by omega⟩
  · split at hr
    · exact ⟨by omega, by omega⟩
    · split at hr
      · exact ⟨by omega, by omega⟩
      · first | exact hr | (rw [if_pos h1] at hr; exact hr)
theorem qz_rgR {h : qz_H} {k : Nat} {x : Int} (hr : qz_rg h (10 + k) x) : qz_vo h (qz_r false k x) := by
  unfold qz_rg at hr
  rw [if_neg (by omega), if_neg (by omega), if_neg (by omega), if_neg (by omega), if_neg (by omega), Nat.add_sub_cancel_left] at hr
  rcases hr with q | q
  · exact Or.inl ⟨rfl, q⟩
  · exact Or.inr q
theorem qz_rgR' {h : qz_H} {k : Nat} {b : Bool} {x : Int} (hr : qz_vo h (qz_r b k x)) : qz_rg h (10 + k) x := by
  unfold qz_rg
  rw [if_neg (by omega), if_neg (by omega), if_neg (by omega), if_neg (by omega), if_neg (by omega), Nat.add_sub_cancel_left]
  rcases hr with q | q
  · exact Or.inl q.2
  · exact Or.inr q
section QR
variable {Y : qz_Y} {G : qz_G} {is isT : List (Instr × Nat)} {pc T : Nat} {ls st : List qz_V} {h : qz_H} {cs sl : Nat} {t t1 t2 : Option qz_R}
theorem qz_learn {h : qz_H} {b : Bool} {k0 : Nat} {x : Int} (hx : x ≠ 0) (hv : qz_vo h (qz_r b k0 x)) : qz_vo h (qz_r true k0 x) := by
  rcases hv with ⟨-, q⟩ | q
  · exact absurd q hx
  · exact Or.inr q
theorem qz_nn {b : Bool} {k0 : Nat} {x : Int} (k : qz_J Y G is pc ls (qz_r true k0 x :: st) h cs sl t) : qz_J Y G is pc ls (qz_r b k0 x :: st) h cs sl (qz_ck (x ≠ 0) t) := by
  obtain ⟨p, l, e, s, m, args, below, meth, c, D, dA, B0, hc, h0⟩ := G
  intro r hr hx lsC stC H locs hca hl hs hW hS
  obtain ⟨h1, h2, h3, h4, h5, h6, h7, h8, h9⟩ := id hx
  obtain ⟨r1, q1, v1, hs⟩ := hs
  obtain ⟨g1, g2⟩ := qz_ck_some hr
  exact k r g2 hx lsC stC H locs hca hl ⟨r1, q1, qz_learn g1 v1, hs⟩ hW hS
theorem qz_nn1 {b : Bool} {k0 : Nat} {x : Int} {v : qz_V} (k : qz_J Y G is pc ls (v :: qz_r true k0 x :: st) h cs sl t) : qz_J Y G is pc ls (v :: qz_r b k0 x :: st) h cs sl (qz_ck (x ≠ 0) t) := by
  obtain ⟨p, l, e, s, m, args, below, meth, c, D, dA, B0, hc, h0⟩ := G
  intro r hr hx lsC stC H locs hca hl hs hW hS
  obtain ⟨h1, h2, h3, h4, h5, h6, h7, h8, h9⟩ := id hx
  obtain ⟨r1, q1, v1, r2, q2, v2, hs⟩ := hs
  obtain ⟨g1, g2⟩ := qz_ck_some hr
  exact k r g2 hx lsC stC H locs hca hl ⟨r1, q1, v1, r2, q2, qz_learn g1 v2, hs⟩ hW hS
theorem qz_nn2 {b : Bool} {k0 : Nat} {x : Int} {v w : qz_V} (k : qz_J Y G is pc ls (v :: w :: qz_r true k0 x :: st) h cs sl t) : qz_J Y G is pc ls (v :: w :: qz_r b k0 x :: st) h cs sl (qz_ck (x ≠ 0) t) := by
  obtain ⟨p, l, e, s, m, args, below, meth, c, D, dA, B0, hc, h0⟩ := G
  intro r hr hx lsC stC H locs hca hl hs hW hS
  obtain ⟨h1, h2, h3, h4, h5, h6, h7, h8, h9⟩ := id hx
  obtain ⟨r1, q1, v1, r2, q2, v2, r3, q3, v3, hs⟩ := hs
  obtain ⟨g1, g2⟩ := qz_ck_some hr
  exact k r g2 hx lsC stC H locs hca hl ⟨r1, q1, v1, r2, q2, v2, r3, q3, qz_learn g1 v3, hs⟩ hW hS
theorem qz_getI {idx k0 j : Nat} {x jI : Int} (hw : qz_cg k0) (hf : qz_fl Y.1.cls idx k0 j) (hj : (j : Int) = jI) (ht : (decide (kz_ft k0 j < 10) && !(kz_ft k0 j == 2)) = true) (k : qz_J Y G is (pc + 3) ls (qz_i (h x jI) :: st) h cs sl t) : qz_J Y G ((.getfield idx, 3) :: is) pc ls (qz_r true k0 x :: st) h cs sl t := by
  obtain ⟨p, l, e, s, m, args, below, meth, c, D, dA, B0, hc, h0⟩ := G
  intro r hr hx lsC stC H locs hca hl hs hW hS
  obtain ⟨h1, h2, h3, h4, h5, h6, h7, h8, h9⟩ := id hx
  obtain ⟨r1, q1, v1, hs⟩ := hs
  have hok := qz_vot v1
  rw [qz_cvr (qz_ok_ne hok)] at q1
  subst q1
  subst hj
  obtain ⟨q, f1, f2, f3⟩ := hf
  have hts : ∀ w ∈ kz_TT, w.before args s = true := fun w hw => h8 w (List.mem_cons_of_mem _ hw)
  obtain ⟨c3, c2, cf, kf, fi, f, hi, hsl, hst⟩ := qz_cg_at hw h9 hts f1 f2
  obtain ⟨⟨cell, b1, b2, b3, b4, b5, b6⟩, b7⟩ := (hW.2.1 x k0 hok).1 c3
  have hj2 : j < kz_N k0 := by rw [← c2]; exact f2
  have hslot : cell.slots[f.slot]? = some (qz_tv h (kz_ft k0 j) (h x j)) := by rw [hsl]; exact b6 j hj2
  have hrg := b7 j hj2
  have e1 : qz_tv h (kz_ft k0 j) (h x j) = qz_cv h (qz_i (h x j)) := by
    simp only [Bool.and_eq_true, decide_eq_true_eq, Bool.not_eq_true', beq_eq_false_iff_ne, ne_eq] at ht
    unfold qz_tv; rw [if_neg ht.2, if_pos ht.1]; rfl
  have e2 : qz_vo h (qz_i (h x j)) := by
    simp only [Bool.and_eq_true, decide_eq_true_eq, Bool.not_eq_true', beq_eq_false_iff_ne, ne_eq] at ht
    exact qz_rgI ht.1 ht.2 hrg
  rcases f3 with f3 | ⟨host, f3⟩
  · refine W.getf h1 h2 h7 (hts _ f3) hi hst b1 b3 hslot rfl rfl hca.1 ?_
    exact k r hr hx lsC _ H locs hca.2 hl ⟨r1, by rw [e1], e2, hs⟩ hW hS
  · refine va_Wgetf h1 h2 h7 (va_Nw.use rfl (h9.2.2.1.1 _ f3)) hi hst b1 b3 hslot rfl rfl hca.1 ?_
    exact k r hr hx lsC _ H locs hca.2 hl ⟨r1, by rw [e1], e2, hs⟩ hW hS
theorem qz_getJ {idx k0 j : Nat} {x jI : Int} (hw : qz_cg k0) (hf : qz_fl Y.1.cls idx k0 j) (hj : (j : Int) = jI) (ht : (kz_ft k0 j == 2) = true) (k : qz_J Y G is (pc + 3) ls (qz_j (h x jI) :: st) h cs sl t) : qz_J Y G ((.getfield idx, 3) :: is) pc ls (qz_r true k0 x :: st) h cs sl t := by
  obtain ⟨p, l, e, s, m, args, below, meth, c, D, dA, B0, hc, h0⟩ := G
  intro r hr hx lsC stC H locs hca hl hs hW hS
  obtain ⟨h1, h2, h3, h4, h5, h6, h7, h8, h9⟩ := id hx
  obtain ⟨r1, q1, v1, hs⟩ := hs
  have hok := qz_vot v1
  rw [qz_cvr (qz_ok_ne hok)] at q1
  subst q1
  subst hj
  obtain ⟨q, f1, f2, f3⟩ := hf
  have hts : ∀ w ∈ kz_TT, w.before args s = true := fun w hw => h8 w (List.mem_cons_of_mem _ hw)
  obtain ⟨c3, c2, cf, kf, fi, f, hi, hsl, hst⟩ := qz_cg_at hw h9 hts f1 f2
  obtain ⟨⟨cell, b1, b2, b3, b4, b5, b6⟩, b7⟩ := (hW.2.1 x k0 hok).1 c3
  have hj2 : j < kz_N k0 := by rw [← c2]; exact f2
  have hslot : cell.slots[f.slot]? = some (qz_tv h (kz_ft k0 j) (h x j)) := by rw [hsl]; exact b6 j hj2
  have hrg := b7 j hj2
  have ht : kz_ft k0 j = 2 := by simpa using ht
  have e1 : qz_tv h (kz_ft k0 j) (h x j) = qz_cv h (qz_j (h x j)) := by rw [ht]; rfl
  have e2 : qz_vo h (qz_j (h x j)) := by rw [ht] at hrg; exact hrg
  rcases f3 with f3 | ⟨host, f3⟩
  · refine W.getf h1 h2 h7 (hts _ f3) hi hst b1 b3 hslot rfl rfl hca.1 ?_
    exact k r hr hx lsC _ H locs hca.2 hl ⟨r1, by rw [e1], e2, hs⟩ hW hS
  · refine va_Wgetf h1 h2 h7 (va_Nw.use rfl (h9.2.2.1.1 _ f3)) hi hst b1 b3 hslot rfl rfl hca.1 ?_
    exact k r hr hx lsC _ H locs hca.2 hl ⟨r1, by rw [e1], e2, hs⟩ hW hS
theorem qz_getR {idx k0 j k1 : Nat} {x jI : Int} (hw : qz_cg k0) (hf : qz_fl Y.1.cls idx k0 j) (hj : (j : Int) = jI) (ht : (kz_ft k0 j == 10 + k1) = true) (k : qz_J Y G is (pc + 3) ls (qz_r false k1 (h x jI) :: st) h cs sl t) : qz_J Y G ((.getfield idx, 3) :: is) pc ls (qz_r true k0 x :: st) h cs sl t := by
  obtain ⟨p, l, e, s, m, args, below, meth, c, D, dA, B0, hc, h0⟩ := G
  intro r hr hx lsC stC H locs hca hl hs hW hS
  obtain ⟨h1, h2, h3, h4, h5, h6, h7, h8, h9⟩ := id hx
  obtain ⟨r1, q1, v1, hs⟩ := hs
  have hok := qz_vot v1
  rw [qz_cvr (qz_ok_ne hok)] at q1
  subst q1
  subst hj
  obtain ⟨q, f1, f2, f3⟩ := hf
  have hts : ∀ w ∈ kz_TT, w.before args s = true := fun w hw => h8 w (List.mem_cons_of_mem _ hw)
  obtain ⟨c3, c2, cf, kf, fi, f, hi, hsl, hst⟩ := qz_cg_at hw h9 hts f1 f2
  obtain ⟨⟨cell, b1, b2, b3, b4, b5, b6⟩, b7⟩ := (hW.2.1 x k0 hok).1 c3
  have hj2 : j < kz_N k0 := by rw [← c2]; exact f2
  have hslot : cell.slots[f.slot]? = some (qz_tv h (kz_ft k0 j) (h x j)) := by rw [hsl]; exact b6 j hj2
  have hrg := b7 j hj2
  have ht : kz_ft k0 j = 10 + k1 := by simpa using ht
  have e1 : qz_tv h (kz_ft k0 j) (h x j) = qz_cv h (qz_r false k1 (h x j)) := by
    rw [ht]; unfold qz_tv; rw [if_neg (by omega), if_neg (by omega)]; rfl
  have e2 : qz_vo h (qz_r false k1 (h x j)) := by rw [ht] at hrg; exact qz_rgR hrg
  rcases f3 with f3 | ⟨host, f3⟩
  · refine W.getf h1 h2 h7 (hts _ f3) hi hst b1 b3 hslot rfl rfl hca.1 ?_
    exact k r hr hx lsC _ H locs hca.2 hl ⟨r1, by rw [e1], e2, hs⟩ hW hS
  · refine va_Wgetf h1 h2 h7 (va_Nw.use rfl (h9.2.2.1.1 _ f3)) hi hst b1 b3 hslot rfl rfl hca.1 ?_
    exact k r hr hx lsC _ H locs hca.2 hl ⟨r1, by rw [e1], e2, hs⟩ hW hS
theorem qz_put0 {idx k0 j : Nat} {x v jI : Int} {V : qz_V} {f : qz_H → Option qz_R} (hw : qz_cw k0) (hf : qz_fp Y idx k0 j) (hj : (j : Int) = jI) (hV : qz_vo h V → qz_rg h (kz_ft k0 j) v ∧ qz_cv h V = qz_tv h (kz_ft k0 j) v) (k : ∀ h', qz_J Y G is (pc + 3) ls st h' cs sl (f h')) : qz_J Y G ((.putfield idx, 3) :: is) pc ls (V :: qz_r true k0 x :: st) h cs sl (qz_ck (0 < x) (qz_bn (qz_up h x jI v) f)) := by
  obtain ⟨p, l, e, s, m, args, below, meth, c, D, dA, B0, hc, h0⟩ := G
  intro r hr hx lsC stC H locs hca hl hs hW hS
  obtain ⟨h1, h2, h3, h4, h5, h6, h7, h8, h9⟩ := id hx
  obtain ⟨r0, q0, v0, r1, q1, v1, hs⟩ := hs
  obtain ⟨hpos, hr⟩ := qz_ck_some hr
  have hok := qz_vot v1
  rw [qz_cvr (qz_ok_ne hok)] at q1
  obtain ⟨hrg, hcv⟩ := hV v0
  rw [hcv] at q0
  subst q1
  subst q0
  subst hj
  obtain ⟨q, c1, c2, c3, c4, c5, c6, c7⟩ := hw
  obtain ⟨q', f1, f2, f3⟩ := hf
  cases c1.symm.trans f1
  obtain ⟨⟨cell, b1, b2, b3, b4, b5, b6⟩, b7⟩ := (hW.2.1 x k0 hok).1 c3
  have hK := h9.2.1
  obtain ⟨hSl, hfc, kC, hkC, hkind⟩ := hK.1 k0 q c1
  obtain ⟨cf, kf, fi, f', hi, hsl⟩ := hSl j f2
  have hts : ∀ w ∈ kz_TT, w.before args s = true := fun w hw => h8 w (List.mem_cons_of_mem _ hw)
  have hst := (u_facts hfc hkC (u_lays hts c4 f2) hi).1
  have hj2 : j < kz_N k0 := by rw [← c2]; exact f2
  have hap := va_apart (D := D) (cl := kz_cl) (tys := qz_tys dA) (own := Y.1.cls) (C := q.1) (T := q.2.1) (N := q.2.2) hts c4 (kz_fT k0) c5 c6 hK c1
  rw [c2] at hap
  have hslt : f'.slot < cell.slots.size := by rw [hsl]; exact k2_hasslot (b6 j hj2)
  obtain ⟨n1, n2⟩ := qz_nf (c7 j f2) hrg
  have fin : ∀ H' : Heap, H'[qz_ad h x]? = some (cell.setSlot f'.slot (qz_tv h (kz_ft k0 j) v)) → H'.size = H.size → (∀ q, q ≠ qz_ad h x → H'[q]? = H[q]?) → W p l e Y.2.2.2.2.2 s m args below meth c H' (locs ++ [⟨qz_ad h x, f'.slot⟩]) cs sl (MQ below (qz_Q Y D dA B0 hc h0 r) args s Y.2.2.2.2.2.cells Y.2.2.2.2.2.slots (qz_A B0)) (F0 m (pc + 3) lsC r1) := by
    intro H' e1 e2 e3
    have ex := (qz_up_sm (h := h) (v := v) hpos (Int.natCast_nonneg j)).ex
    refine k (qz_up h x j v) r hr hx lsC _ H' _ hca.2 (ex.lr hl) (ex.sr _ _ hs) ?_ (hS.put e2 e3 (hW.2.2.1 x (qz_ok_pos hok hpos).1 (qz_ok_pos hok hpos).2).1)
    rw [hsl] at e1
    exact qz_W_fld hW hok hpos c3 hj2 hap b1 hrg e1 e2 e3
  rcases f3 with ⟨g1, g2⟩ | ⟨g1, g2, g3, g4⟩
  · have hlay := hts _ (c4 _ (u_in_lay f2))
    unfold u_lay at hlay
    rw [if_neg (by rw [g1]; decide)] at hlay
    have h6' := u_store hfc hkC hkind hlay hi (c5 j f2) n1 n2
    rcases g2 with g2 | ⟨host, g2⟩
    · exact W.putK h1 h2 (f := f') ⟨h7, hts _ g2, ⟨_, _, _, hi⟩, hst⟩ (by rw [b2]; exact h6') b1 (b5 hpos) hslt rfl rfl hca.1 fin
    · exact va_WputK h1 h2 (f := f') h7 (va_Nw.use rfl (h9.2.2.1.1 _ g2)) hi hst (by rw [b2]; exact h6') b1 (b5 hpos) hslt rfl rfl hca.1 fin
  · have hlay := hts _ (c4 _ (u_in_lay f2))
    unfold u_lay at hlay
    rw [if_pos g1] at hlay
    have hcf : m.cls = cf := by
      obtain ⟨_, _, c', _, _, _, -, -, hf', -, -, -, hown2, -⟩ := Cond.laysFinal_spec hlay
      have e1 : c' = cf := by have := hi.symm.trans hf'; simp at this; exact this.1.symm
      rw [g3] at hown2
      rw [← e1]; exact Option.some.inj (h7.symm.trans hown2)
    have h6' := u_fits hfc hkC hkind (Or.inr hlay) hi (c5 j f2) n1 n2
    exact W.putFinK h1 h2 h7 (hts _ g4) hi hst hcf (h6.trans g2) (by rw [b2]; exact h6') b1 (b5 hpos) hslt rfl rfl hca.1 fin
theorem qz_putI {idx k0 j : Nat} {x v jI : Int} {f : qz_H → Option qz_R} (hw : qz_cw k0) (hf : qz_fp Y idx k0 j) (hj : (j : Int) = jI) (ht : (kz_ft k0 j == 1) = true) (k : ∀ h', qz_J Y G is (pc + 3) ls st h' cs sl (f h')) : qz_J Y G ((.putfield idx, 3) :: is) pc ls (qz_i v :: qz_r true k0 x :: st) h cs sl (qz_ck (0 < x) (qz_bn (qz_up h x jI v) f)) :=
  qz_put0 hw hf hj (fun hv => by have ht : kz_ft k0 j = 1 := by simpa using ht
                                 rw [ht]; exact ⟨hv, rfl⟩) k
theorem qz_putJ {idx k0 j : Nat} {x v jI : Int} {f : qz_H → Option qz_R} (hw : qz_cw k0) (hf : qz_fp Y idx k0 j) (hj : (j : Int) = jI) (ht : (kz_ft k0 j == 2) = true) (k : ∀ h', qz_J Y G is (pc + 3) ls st h' cs sl (f h')) : qz_J Y G ((.putfield idx, 3) :: is) pc ls (qz_j v :: qz_r true k0 x :: st) h cs sl (qz_ck (0 < x) (qz_bn (qz_up h x jI v) f)) :=
  qz_put0 hw hf hj (fun hv => by have ht : kz_ft k0 j = 2 := by simpa using ht
                                 rw [ht]; exact ⟨hv, rfl⟩) k
theorem qz_putR {k1 : Nat} {b : Bool} {idx k0 j : Nat} {x v jI : Int} {f : qz_H → Option qz_R} (hw : qz_cw k0) (hf : qz_fp Y idx k0 j) (hj : (j : Int) = jI) (ht : (kz_ft k0 j == 10 + k1) = true) (k : ∀ h', qz_J Y G is (pc + 3) ls st h' cs sl (f h')) : qz_J Y G ((.putfield idx, 3) :: is) pc ls (qz_r b k1 v :: qz_r true k0 x :: st) h cs sl (qz_ck (0 < x) (qz_bn (qz_up h x jI v) f)) :=
  qz_put0 hw hf hj (fun hv => by have ht : kz_ft k0 j = 10 + k1 := by simpa using ht
                                 rw [ht]
                                 refine ⟨qz_rgR' hv, ?_⟩
                                 unfold qz_tv; rw [if_neg (by omega), if_neg (by omega)]; rfl) k
theorem qz_putZ {idx k0 j : Nat} {x v jI : Int} {f : qz_H → Option qz_R} (hw : qz_cw k0) (hf : qz_fp Y idx k0 j) (hj : (j : Int) = jI) (ht : (kz_ft k0 j == 3) = true) (k : ∀ h', qz_J Y G is (pc + 3) ls st h' cs sl (f h')) : qz_J Y G ((.putfield idx, 3) :: is) pc ls (qz_i v :: qz_r true k0 x :: st) h cs sl (qz_ck (v = 0 ∨ v = 1) (qz_ck (0 < x) (qz_bn (qz_up h x jI v) f))) := by
  have hz : ∀ (hb : v = 0 ∨ v = 1), qz_J Y G ((.putfield idx, 3) :: is) pc ls (qz_i v :: qz_r true k0 x :: st) h cs sl (qz_ck (0 < x) (qz_bn (qz_up h x jI v) f)) := fun hb => qz_put0 hw hf hj (fun hv => by
    have ht : kz_ft k0 j = 3 := by simpa using ht
    rw [ht]; exact ⟨hb, rfl⟩) k
  obtain ⟨p, l, e, s, m, args, below, meth, c, D, dA, B0, hc, h0⟩ := G
  intro r hr hx lsC stC H locs hca hl hs hW hS
  obtain ⟨h1, h2, h3, h4, h5, h6, h7, h8, h9⟩ := id hx
  obtain ⟨hb, hr⟩ := qz_ck_some hr
  exact hz hb r hr hx lsC stC H locs hca hl hs hW hS
def qz_in (h : qz_H) (a i : Int) : Prop := 0 ≤ i ∧ i < h a (-1)
theorem qz_idx {i n : Int} {z : Nat} (h1 : 0 ≤ i) (h2 : i < n) (h3 : n ≤ 2147483647) (hz : n.toNat ≤ z) : ¬ (Int32.ofInt i < 0 ∨ z ≤ (Int32.ofInt i).toNatClampNeg) ∧ (Int32.ofInt i).toNatClampNeg = i.toNat := by
  have h32 : qz_32 i := ⟨by omega, by omega⟩
  have e : (Int32.ofInt i).toNatClampNeg = i.toNat := by
    show (Int32.ofInt i).toInt.toNat = _
    rw [qz_t32 h32]
  refine ⟨?_, e⟩
  rw [e, qz_l0 h32]
  omega
theorem qz_iald {k0 : Nat} {a i : Int} (h40 : decide (40 ≤ k0) = true) (hT : kz_aT k0 = .int) (he : (kz_ae k0 == 1) = true) (k : qz_J Y G is (pc + 1) ls (qz_i (h a i) :: st) h cs sl t) : qz_J Y G ((.iaload, 1) :: is) pc ls (qz_i i :: qz_r true k0 a :: st) h cs sl (qz_ck (0 ≤ i ∧ i < h a (-1)) t) := by
  obtain ⟨p, l, e, s, m, args, below, meth, c, D, dA, B0, hc, h0⟩ := G
  intro r hr hx lsC stC H locs hca hl hs hW hS
  obtain ⟨h1, h2, h3, h4, h5, h6, h7, h8, h9⟩ := id hx
  obtain ⟨r0, q0, v0, r1, q1, v1, hs⟩ := hs
  obtain ⟨⟨g1, g2⟩, hr⟩ := qz_ck_some hr
  have hok := qz_vot v1
  rw [qz_cvr (qz_ok_ne hok)] at q1
  subst q1
  subst q0
  have h40 : 40 ≤ k0 := by simpa using h40
  have he : kz_ae k0 = 1 := by simpa using he
  obtain ⟨⟨cell, b1, b2, b3, b4, b5, b6, b7⟩, b8, b9, b10⟩ := (hW.2.1 a k0 hok).2 h40
  obtain ⟨x1, x2⟩ := qz_idx g1 g2 b9 b5
  have hv := b7 i.toNat (by omega)
  have hg := b10 i.toNat (by omega)
  rw [he, Int.toNat_of_nonneg g1] at hv hg
  rw [hT] at b2
  refine W.iald h1 h2 b1 b2 b3 x1 (by rw [x2]; exact hv) rfl rfl hca.1 ?_
  exact k r hr hx lsC _ H locs hca.2 hl ⟨r1, rfl, qz_rgI (t := 1) (by decide) (by decide) hg, hs⟩ hW hS
theorem qz_lald {k0 : Nat} {a i : Int} (h40 : decide (40 ≤ k0) = true) (hT : kz_aT k0 = .long) (he : (kz_ae k0 == 2) = true) (k : qz_J Y G is (pc + 1) ls (qz_j (h a i) :: st) h cs sl t) : qz_J Y G ((.laload, 1) :: is) pc ls (qz_i i :: qz_r true k0 a :: st) h cs sl (qz_ck (0 ≤ i ∧ i < h a (-1)) t) := by
  obtain ⟨p, l, e, s, m, args, below, meth, c, D, dA, B0, hc, h0⟩ := G
  intro r hr hx lsC stC H locs hca hl hs hW hS
  obtain ⟨h1, h2, h3, h4, h5, h6, h7, h8, h9⟩ := id hx
  obtain ⟨r0, q0, v0, r1, q1, v1, hs⟩ := hs
  obtain ⟨⟨g1, g2⟩, hr⟩ := qz_ck_some hr
  have hok := qz_vot v1
  rw [qz_cvr (qz_ok_ne hok)] at q1
  subst q1
  subst q0
  have h40 : 40 ≤ k0 := by simpa using h40
  have he : kz_ae k0 = 2 := by simpa using he
  obtain ⟨⟨cell, b1, b2, b3, b4, b5, b6, b7⟩, b8, b9, b10⟩ := (hW.2.1 a k0 hok).2 h40
  obtain ⟨x1, x2⟩ := qz_idx g1 g2 b9 b5
  have hv := b7 i.toNat (by omega)
  have hg := b10 i.toNat (by omega)
  rw [he, Int.toNat_of_nonneg g1] at hv hg
  rw [hT] at b2
  refine W.lald h1 h2 b1 b2 b3 x1 (by rw [x2]; exact hv) rfl rfl hca.1 ?_
  exact k r hr hx lsC _ H locs hca.2 hl ⟨r1, rfl, hg, hs⟩ hW hS
theorem qz_cald {k0 : Nat} {a i : Int} (h40 : decide (40 ≤ k0) = true) (hT : kz_aT k0 = .char) (he : (kz_ae k0 == 4) = true) (k : qz_J Y G is (pc + 1) ls (qz_i (h a i) :: st) h cs sl t) : qz_J Y G ((.caload, 1) :: is) pc ls (qz_i i :: qz_r true k0 a :: st) h cs sl (qz_ck (0 ≤ i ∧ i < h a (-1)) t) := by
  obtain ⟨p, l, e, s, m, args, below, meth, c, D, dA, B0, hc, h0⟩ := G
  intro r hr hx lsC stC H locs hca hl hs hW hS
  obtain ⟨h1, h2, h3, h4, h5, h6, h7, h8, h9⟩ := id hx
  obtain ⟨r0, q0, v0, r1, q1, v1, hs⟩ := hs
  obtain ⟨⟨g1, g2⟩, hr⟩ := qz_ck_some hr
  have hok := qz_vot v1
  rw [qz_cvr (qz_ok_ne hok)] at q1
  subst q1
  subst q0
  have h40 : 40 ≤ k0 := by simpa using h40
  have he : kz_ae k0 = 4 := by simpa using he
  obtain ⟨⟨cell, b1, b2, b3, b4, b5, b6, b7⟩, b8, b9, b10⟩ := (hW.2.1 a k0 hok).2 h40
  obtain ⟨x1, x2⟩ := qz_idx g1 g2 b9 b5
  have hv := b7 i.toNat (by omega)
  have hg := b10 i.toNat (by omega)
  rw [he, Int.toNat_of_nonneg g1] at hv hg
  rw [hT] at b2
  refine W.cald h1 h2 b1 b2 b3 x1 (by rw [x2]; exact hv) rfl rfl hca.1 ?_
  exact k r hr hx lsC _ H locs hca.2 hl ⟨r1, rfl, qz_rgI (t := 4) (by decide) (by decide) hg, hs⟩ hW hS
theorem qz_bald {k0 : Nat} {a i : Int} (h40 : decide (40 ≤ k0) = true) (hT : kz_aT k0 = .byte) (he : (kz_ae k0 == 5) = true) (k : qz_J Y G is (pc + 1) ls (qz_i (h a i) :: st) h cs sl t) : qz_J Y G ((.baload, 1) :: is) pc ls (qz_i i :: qz_r true k0 a :: st) h cs sl (qz_ck (0 ≤ i ∧ i < h a (-1)) t) := by
  obtain ⟨p, l, e, s, m, args, below, meth, c, D, dA, B0, hc, h0⟩ := G
  intro r hr hx lsC stC H locs hca hl hs hW hS
  obtain ⟨h1, h2, h3, h4, h5, h6, h7, h8, h9⟩ := id hx
  obtain ⟨r0, q0, v0, r1, q1, v1, hs⟩ := hs
  obtain ⟨⟨g1, g2⟩, hr⟩ := qz_ck_some hr
  have hok := qz_vot v1
  rw [qz_cvr (qz_ok_ne hok)] at q1
  subst q1
  subst q0
  have h40 : 40 ≤ k0 := by simpa using h40
  have he : kz_ae k0 = 5 := by simpa using he
  obtain ⟨⟨cell, b1, b2, b3, b4, b5, b6, b7⟩, b8, b9, b10⟩ := (hW.2.1 a k0 hok).2 h40
  obtain ⟨x1, x2⟩ := qz_idx g1 g2 b9 b5
  have hv := b7 i.toNat (by omega)
  have hg := b10 i.toNat (by omega)
  rw [he, Int.toNat_of_nonneg g1] at hv hg
  rw [hT] at b2
  refine W.bald h1 h2 b1 b2 b3 x1 (by rw [x2]; exact hv) rfl rfl hca.1 ?_
  exact k r hr hx lsC _ H locs hca.2 hl ⟨r1, rfl, qz_rgI (t := 5) (by decide) (by decide) hg, hs⟩ hW hS
theorem qz_zald {k0 : Nat} {a i : Int} (h40 : decide (40 ≤ k0) = true) (hT : kz_aT k0 = .boolean) (he : (kz_ae k0 == 3) = true) (k : qz_J Y G is (pc + 1) ls (qz_i (h a i) :: st) h cs sl t) : qz_J Y G ((.baload, 1) :: is) pc ls (qz_i i :: qz_r true k0 a :: st) h cs sl (qz_ck (0 ≤ i ∧ i < h a (-1)) t) := by
  obtain ⟨p, l, e, s, m, args, below, meth, c, D, dA, B0, hc, h0⟩ := G
  intro r hr hx lsC stC H locs hca hl hs hW hS
  obtain ⟨h1, h2, h3, h4, h5, h6, h7, h8, h9⟩ := id hx
  obtain ⟨r0, q0, v0, r1, q1, v1, hs⟩ := hs
  obtain ⟨⟨g1, g2⟩, hr⟩ := qz_ck_some hr
  have hok := qz_vot v1
  rw [qz_cvr (qz_ok_ne hok)] at q1
  subst q1
  subst q0
  have h40 : 40 ≤ k0 := by simpa using h40
  have he : kz_ae k0 = 3 := by simpa using he
  obtain ⟨⟨cell, b1, b2, b3, b4, b5, b6, b7⟩, b8, b9, b10⟩ := (hW.2.1 a k0 hok).2 h40
  obtain ⟨x1, x2⟩ := qz_idx g1 g2 b9 b5
  have hv := b7 i.toNat (by omega)
  have hg := b10 i.toNat (by omega)
  rw [he, Int.toNat_of_nonneg g1] at hv hg
  rw [hT] at b2
  refine W.zald h1 h2 b1 b2 b3 x1 (by rw [x2]; exact hv) rfl rfl hca.1 ?_
  exact k r hr hx lsC _ H locs hca.2 hl ⟨r1, rfl, qz_rgI (t := 3) (by decide) (by decide) hg, hs⟩ hW hS
theorem qz_aald {k0 k1 : Nat} {C : String} {a i : Int} (h40 : decide (40 ≤ k0) = true) (hT : kz_aT k0 = .object C) (he : (kz_ae k0 == 10 + k1) = true) (k : qz_J Y G is (pc + 1) ls (qz_r false k1 (h a i) :: st) h cs sl t) : qz_J Y G ((.aaload, 1) :: is) pc ls (qz_i i :: qz_r true k0 a :: st) h cs sl (qz_ck (0 ≤ i ∧ i < h a (-1)) t) := by
  obtain ⟨p, l, e, s, m, args, below, meth, c, D, dA, B0, hc, h0⟩ := G
  intro r hr hx lsC stC H locs hca hl hs hW hS
  obtain ⟨h1, h2, h3, h4, h5, h6, h7, h8, h9⟩ := id hx
  obtain ⟨r0, q0, v0, r1, q1, v1, hs⟩ := hs
  obtain ⟨⟨g1, g2⟩, hr⟩ := qz_ck_some hr
  have hok := qz_vot v1
  rw [qz_cvr (qz_ok_ne hok)] at q1
  subst q1
  subst q0
  have h40 : 40 ≤ k0 := by simpa using h40
  have he : kz_ae k0 = 10 + k1 := by simpa using he
  obtain ⟨⟨cell, b1, b2, b3, b4, b5, b6, b7⟩, b8, b9, b10⟩ := (hW.2.1 a k0 hok).2 h40
  obtain ⟨x1, x2⟩ := qz_idx g1 g2 b9 b5
  have hv := b7 i.toNat (by omega)
  have hg := b10 i.toNat (by omega)
  rw [he, Int.toNat_of_nonneg g1] at hv hg
  have e1 : qz_tv h (10 + k1) (h a i) = qz_cv h (qz_r false k1 (h a i)) := by
    unfold qz_tv; rw [if_neg (by omega), if_neg (by omega)]; rfl
  rw [hT] at b2
  refine W.aald h1 h2 b1 b2 rfl b3 x1 (by rw [x2]; exact hv) rfl rfl hca.1 ?_
  exact k r hr hx lsC _ H locs hca.2 hl ⟨r1, by rw [e1], qz_rgR hg, hs⟩ hW hS
def qz_nc (v : Int) : Int := (Int32.ofInt v).toUInt32.toUInt16.toUInt32.toInt32.toInt
def qz_nb (v : Int) : Int := (Int32.ofInt v).toInt8.toInt32.toInt
def qz_nz (v : Int) : Int := (Int32.ofInt v &&& 1).toInt
theorem qz_nb_rg (v : Int) : -128 ≤ qz_nb v ∧ qz_nb v ≤ 127 := by
  unfold qz_nb
  rw [Int8.toInt_toInt32]
  have h1 := (Int32.ofInt v).toInt8.le_toInt
  have h2 := (Int32.ofInt v).toInt8.toInt_lt
  omega
theorem qz_nc_eq (v : Int) : qz_nc v = v % 65536 := by
  unfold qz_nc
  have h1 : (Int32.ofInt v).toUInt32.toUInt16.toUInt32.toInt32.toBitVec.toNat = (v % 4294967296).toNat % 65536 := by
    rw [UInt32.toBitVec_toInt32, UInt16.toBitVec_toUInt32, UInt32.toBitVec_toUInt16, Int32.toBitVec_toUInt32, Int32.toBitVec_ofInt, BitVec.toNat_setWidth, BitVec.toNat_setWidth, BitVec.toNat_ofInt]
    have e : ∀ n : Nat, n % 2 ^ 16 % 2 ^ 32 = n % 65536 := fun n => by omega
    exact e _
  rw [← Int32.toInt_toBitVec, BitVec.toInt_eq_toNat_of_lt (by rw [h1]; omega), h1]
  omega
theorem qz_nc_rg (v : Int) : 0 ≤ qz_nc v ∧ qz_nc v ≤ 65535 := by
  rw [qz_nc_eq]
  omega
theorem qz_nz_rg (v : Int) : qz_nz v = 0 ∨ qz_nz v = 1 := by
  unfold qz_nz
  generalize Int32.ofInt v = a
  have h2 : (a &&& 1).toBitVec.toNat = a.toBitVec.toNat % 2 := by
    rw [Int32.toBitVec_and, BitVec.toNat_and]
    exact Nat.and_one_is_mod _
  have h3 : (a &&& 1).toInt = ((a &&& 1).toBitVec.toNat : Int) := by
    rw [← Int32.toInt_toBitVec]
    exact BitVec.toInt_eq_toNat_of_lt (by rw [h2]; omega)
  rw [h3, h2]
  omega
theorem qz_iast {k0 : Nat} {a i v : Int} {f : qz_H → Option qz_R} (h40 : decide (40 ≤ k0) = true) (hT : kz_aT k0 = .int) (he : (kz_ae k0 == 1) = true) (k : ∀ h', qz_J Y G is (pc + 1) ls st h' cs sl (f h')) : qz_J Y G ((.iastore, 1) :: is) pc ls (qz_i v :: qz_i i :: qz_r true k0 a :: st) h cs sl (qz_ck (0 < a ∧ 0 ≤ i ∧ i < h a (-1)) (qz_bn (qz_up h a i v) f)) := by
  obtain ⟨p, l, e, s, m, args, below, meth, c, D, dA, B0, hc, h0⟩ := G
  intro r hr hx lsC stC H locs hca hl hs hW hS
  obtain ⟨h1, h2, h3, h4, h5, h6, h7, h8, h9⟩ := id hx
  obtain ⟨rv, qv, v0, r0, q0, vi, r1, q1, v1, hs⟩ := hs
  obtain ⟨⟨hpos, g1, g2⟩, hr⟩ := qz_ck_some hr
  have hok := qz_vot v1
  rw [qz_cvr (qz_ok_ne hok)] at q1
  subst q1
  subst q0
  subst qv
  have h40 : 40 ≤ k0 := by simpa using h40
  have he : kz_ae k0 = 1 := by simpa using he
  obtain ⟨⟨cell, b1, b2, b3, b4, b5, b6, b7⟩, b8, b9, b10⟩ := (hW.2.1 a k0 hok).2 h40
  obtain ⟨x1, x2⟩ := qz_idx g1 g2 b9 b5
  rw [hT] at b2
  refine W.iast h1 h2 b1 b2 b3 x1 rfl rfl hca.1 fun H' e1 e2 e3 => ?_
  have ex := (qz_up_sm (h := h) (v := v) hpos g1).ex
  rw [x2] at e1 ⊢
  refine k _ r hr hx lsC _ H' _ hca.2 (ex.lr hl) (ex.sr _ _ hs) ?_ (hS.put e2 e3 (hW.2.2.1 a (qz_ok_pos hok hpos).1 (qz_ok_pos hok hpos).2).1)
  refine qz_W_elt hW hok hpos h40 g1 g2 b1 (by rw [he]; exact v0) ?_ e2 e3
  rw [he, e1]
  show some (cell.setSlot i.toNat _) = some (cell.setSlot i.toNat _)
  rw [show qz_tv h 1 (v) = Value.int (Int32.ofInt v) from ?_]
  rfl
theorem qz_last {k0 : Nat} {a i v : Int} {f : qz_H → Option qz_R} (h40 : decide (40 ≤ k0) = true) (hT : kz_aT k0 = .long) (he : (kz_ae k0 == 2) = true) (k : ∀ h', qz_J Y G is (pc + 1) ls st h' cs sl (f h')) : qz_J Y G ((.lastore, 1) :: is) pc ls (qz_j v :: qz_i i :: qz_r true k0 a :: st) h cs sl (qz_ck (0 < a ∧ 0 ≤ i ∧ i < h a (-1)) (qz_bn (qz_up h a i v) f)) := by
  obtain ⟨p, l, e, s, m, args, below, meth, c, D, dA, B0, hc, h0⟩ := G
  intro r hr hx lsC stC H locs hca hl hs hW hS
  obtain ⟨h1, h2, h3, h4, h5, h6, h7, h8, h9⟩ := id hx
  obtain ⟨rv, qv, v0, r0, q0, vi, r1, q1, v1, hs⟩ := hs
  obtain ⟨⟨hpos, g1, g2⟩, hr⟩ := qz_ck_some hr
  have hok := qz_vot v1
  rw [qz_cvr (qz_ok_ne hok)] at q1
  subst q1
  subst q0
  subst qv
  have h40 : 40 ≤ k0 := by simpa using h40
  have he : kz_ae k0 = 2 := by simpa using he
  obtain ⟨⟨cell, b1, b2, b3, b4, b5, b6, b7⟩, b8, b9, b10⟩ := (hW.2.1 a k0 hok).2 h40
  obtain ⟨x1, x2⟩ := qz_idx g1 g2 b9 b5
  rw [hT] at b2
  refine W.last h1 h2 b1 b2 b3 x1 rfl rfl hca.1 fun H' e1 e2 e3 => ?_
  have ex := (qz_up_sm (h := h) (v := v) hpos g1).ex
  rw [x2] at e1 ⊢
  refine k _ r hr hx lsC _ H' _ hca.2 (ex.lr hl) (ex.sr _ _ hs) ?_ (hS.put e2 e3 (hW.2.2.1 a (qz_ok_pos hok hpos).1 (qz_ok_pos hok hpos).2).1)
  refine qz_W_elt hW hok hpos h40 g1 g2 b1 (by rw [he]; exact v0) ?_ e2 e3
  rw [he, e1]
  show some (cell.setSlot i.toNat _) = some (cell.setSlot i.toNat _)
  rw [show qz_tv h 2 (v) = Value.long (Int64.ofInt v) from ?_]
  rfl
theorem qz_cast {k0 : Nat} {a i v : Int} {f : qz_H → Option qz_R} (h40 : decide (40 ≤ k0) = true) (hT : kz_aT k0 = .char) (he : (kz_ae k0 == 4) = true) (k : ∀ h', qz_J Y G is (pc + 1) ls st h' cs sl (f h')) : qz_J Y G ((.castore, 1) :: is) pc ls (qz_i v :: qz_i i :: qz_r true k0 a :: st) h cs sl (qz_ck (0 < a ∧ 0 ≤ i ∧ i < h a (-1)) (qz_bn (qz_up h a i (qz_nc v)) f)) := by
  obtain ⟨p, l, e, s, m, args, below, meth, c, D, dA, B0, hc, h0⟩ := G
  intro r hr hx lsC stC H locs hca hl hs hW hS
  obtain ⟨h1, h2, h3, h4, h5, h6, h7, h8, h9⟩ := id hx
  obtain ⟨rv, qv, v0, r0, q0, vi, r1, q1, v1, hs⟩ := hs
  obtain ⟨⟨hpos, g1, g2⟩, hr⟩ := qz_ck_some hr
  have hok := qz_vot v1
  rw [qz_cvr (qz_ok_ne hok)] at q1
  subst q1
  subst q0
  subst qv
  have h40 : 40 ≤ k0 := by simpa using h40
  have he : kz_ae k0 = 4 := by simpa using he
  obtain ⟨⟨cell, b1, b2, b3, b4, b5, b6, b7⟩, b8, b9, b10⟩ := (hW.2.1 a k0 hok).2 h40
  obtain ⟨x1, x2⟩ := qz_idx g1 g2 b9 b5
  rw [hT] at b2
  refine W.cast h1 h2 b1 b2 b3 x1 rfl rfl hca.1 fun H' e1 e2 e3 => ?_
  have ex := (qz_up_sm (h := h) (v := qz_nc v) hpos g1).ex
  rw [x2] at e1 ⊢
  refine k _ r hr hx lsC _ H' _ hca.2 (ex.lr hl) (ex.sr _ _ hs) ?_ (hS.put e2 e3 (hW.2.2.1 a (qz_ok_pos hok hpos).1 (qz_ok_pos hok hpos).2).1)
  refine qz_W_elt hW hok hpos h40 g1 g2 b1 (by rw [he]; exact qz_nc_rg v) ?_ e2 e3
  rw [he, e1]
  show some (cell.setSlot i.toNat _) = some (cell.setSlot i.toNat _)
  rw [show qz_tv h 4 (qz_nc v) = narrow .char (.int (Int32.ofInt v)) from ?_]
  show Value.int (Int32.ofInt (qz_nc v)) = _
  unfold qz_nc
  rw [Int32.ofInt_toInt]
  rfl
theorem qz_bast {k0 : Nat} {a i v : Int} {f : qz_H → Option qz_R} (h40 : decide (40 ≤ k0) = true) (hT : kz_aT k0 = .byte) (he : (kz_ae k0 == 5) = true) (k : ∀ h', qz_J Y G is (pc + 1) ls st h' cs sl (f h')) : qz_J Y G ((.bastore, 1) :: is) pc ls (qz_i v :: qz_i i :: qz_r true k0 a :: st) h cs sl (qz_ck (0 < a ∧ 0 ≤ i ∧ i < h a (-1)) (qz_bn (qz_up h a i (qz_nb v)) f)) := by
  obtain ⟨p, l, e, s, m, args, below, meth, c, D, dA, B0, hc, h0⟩ := G
  intro r hr hx lsC stC H locs hca hl hs hW hS
  obtain ⟨h1, h2, h3, h4, h5, h6, h7, h8, h9⟩ := id hx
  obtain ⟨rv, qv, v0, r0, q0, vi, r1, q1, v1, hs⟩ := hs
  obtain ⟨⟨hpos, g1, g2⟩, hr⟩ := qz_ck_some hr
  have hok := qz_vot v1
  rw [qz_cvr (qz_ok_ne hok)] at q1
  subst q1
  subst q0
  subst qv
  have h40 : 40 ≤ k0 := by simpa using h40
  have he : kz_ae k0 = 5 := by simpa using he
  obtain ⟨⟨cell, b1, b2, b3, b4, b5, b6, b7⟩, b8, b9, b10⟩ := (hW.2.1 a k0 hok).2 h40
  obtain ⟨x1, x2⟩ := qz_idx g1 g2 b9 b5
  rw [hT] at b2
  refine W.bast h1 h2 b1 b2 b3 x1 rfl rfl hca.1 fun H' e1 e2 e3 => ?_
  have ex := (qz_up_sm (h := h) (v := qz_nb v) hpos g1).ex
  rw [x2] at e1 ⊢
  refine k _ r hr hx lsC _ H' _ hca.2 (ex.lr hl) (ex.sr _ _ hs) ?_ (hS.put e2 e3 (hW.2.2.1 a (qz_ok_pos hok hpos).1 (qz_ok_pos hok hpos).2).1)
  refine qz_W_elt hW hok hpos h40 g1 g2 b1 (by rw [he]; exact qz_nb_rg v) ?_ e2 e3
  rw [he, e1]
  show some (cell.setSlot i.toNat _) = some (cell.setSlot i.toNat _)
  rw [show qz_tv h 5 (qz_nb v) = narrow .byte (.int (Int32.ofInt v)) from ?_]
  show Value.int (Int32.ofInt (qz_nb v)) = _
  unfold qz_nb
  rw [Int32.ofInt_toInt]
  rfl
theorem qz_zast {k0 : Nat} {a i v : Int} {f : qz_H → Option qz_R} (h40 : decide (40 ≤ k0) = true) (hT : kz_aT k0 = .boolean) (he : (kz_ae k0 == 3) = true) (k : ∀ h', qz_J Y G is (pc + 1) ls st h' cs sl (f h')) : qz_J Y G ((.bastore, 1) :: is) pc ls (qz_i v :: qz_i i :: qz_r true k0 a :: st) h cs sl (qz_ck (0 < a ∧ 0 ≤ i ∧ i < h a (-1)) (qz_bn (qz_up h a i (qz_nz v)) f)) := by
  obtain ⟨p, l, e, s, m, args, below, meth, c, D, dA, B0, hc, h0⟩ := G
  intro r hr hx lsC stC H locs hca hl hs hW hS
  obtain ⟨h1, h2, h3, h4, h5, h6, h7, h8, h9⟩ := id hx
  obtain ⟨rv, qv, v0, r0, q0, vi, r1, q1, v1, hs⟩ := hs
  obtain ⟨⟨hpos, g1, g2⟩, hr⟩ := qz_ck_some hr
  have hok := qz_vot v1
  rw [qz_cvr (qz_ok_ne hok)] at q1
  subst q1
  subst q0
  subst qv
  have h40 : 40 ≤ k0 := by simpa using h40
  have he : kz_ae k0 = 3 := by simpa using he
  obtain ⟨⟨cell, b1, b2, b3, b4, b5, b6, b7⟩, b8, b9, b10⟩ := (hW.2.1 a k0 hok).2 h40
  obtain ⟨x1, x2⟩ := qz_idx g1 g2 b9 b5
  rw [hT] at b2
  refine W.zast h1 h2 b1 b2 b3 x1 rfl rfl hca.1 fun H' e1 e2 e3 => ?_
  have ex := (qz_up_sm (h := h) (v := qz_nz v) hpos g1).ex
  rw [x2] at e1 ⊢
  refine k _ r hr hx lsC _ H' _ hca.2 (ex.lr hl) (ex.sr _ _ hs) ?_ (hS.put e2 e3 (hW.2.2.1 a (qz_ok_pos hok hpos).1 (qz_ok_pos hok hpos).2).1)
  refine qz_W_elt hW hok hpos h40 g1 g2 b1 (by rw [he]; exact qz_nz_rg v) ?_ e2 e3
  rw [he, e1]
  show some (cell.setSlot i.toNat _) = some (cell.setSlot i.toNat _)
  rw [show qz_tv h 3 (qz_nz v) = narrow .boolean (.int (Int32.ofInt v)) from ?_]
  show Value.int (Int32.ofInt (qz_nz v)) = _
  unfold qz_nz
  rw [Int32.ofInt_toInt]
  rfl
end QR
end
section
theorem qz_W.moved {D : va_G} {dA : Nat → ClassId} {B0 : Nat} {hc h0 h : qz_H} {u U : State} {H : Heap} (hvm : u.vm.Alike U.vm) (hW : qz_W D dA B0 hc h0 u h H) : qz_W D dA B0 hc h0 U h H := by
  obtain ⟨w1, w2, w3⟩ := hW
  refine ⟨w1, fun x k hk => ⟨(w2 x k hk).1, fun hk40 => ?_⟩, w3⟩
  obtain ⟨⟨cell, b1, b2, b3⟩, b4⟩ := (w2 x k hk).2 hk40
  exact ⟨⟨cell, b1, State.isArrayOf_alike hvm b2, b3⟩, b4⟩
theorem qz_ex.rf (h : qz_H) : qz_ex h h := fun _ _ hk => ⟨hk, rfl⟩
theorem qz_ex.tr {h h' h'' : qz_H} (a : qz_ex h h') (b : qz_ex h' h'') : qz_ex h h'' := fun k x hk => ⟨(b k x (a k x hk).1).1, (b k x (a k x hk).1).2.trans (a k x hk).2⟩
theorem qz_W.re {D : va_G} {dA : Nat → ClassId} {B0 : Nat} {hc h0 h1 h : qz_H} {U : State} {H : Heap} (hW : qz_W D dA B0 hc h0 U h H) (he : qz_ex h1 h) : qz_W D dA B0 hc h1 U h H := by
  obtain ⟨w1, w2, w3, w4, w5, w6, w7⟩ := hW
  exact ⟨w1, w2, w3, w4, w5, w6, he⟩
def qz_nst (w : Cond) : Bool := kz_isn w
theorem qz_nst_warm {w : Cond} (hw : qz_nst w = true) {s U : State} (hW : s.WarmedH U.vm) (h : va_Nw w s) : va_Nw w U := by
  cases w with
  | fieldLinkNest => exact va_Nw.warmF hW h
  | methodLinkNest => exact va_Nw.warmM hW h
  | _ => cases hw
theorem kz_NTok : ∀ w ∈ kz_NT, qz_nst w = true := fun w hw => (List.mem_filter.mp hw).2
theorem qz_nst_tab {w : Cond} (hw : qz_nst w = true) : w.onTables = true := by
  cases w with
  | fieldLinkNest => rfl
  | methodLinkNest => rfl
  | _ => cases hw
theorem qz_E_at {D : va_G} {dA : Nat → ClassId} {B0 : Nat} {hc : qz_H} {s U : State} {H : Heap} {locs : List Loc} (h9 : qz_E D dA B0 hc s) (hS : va_S (qz_A B0) s.heap H locs) (hU : U.heap = H) (hW : s.WarmedH U.vm) : qz_E D dA B0 hc U := by
  obtain ⟨e1, e2, e3, e4, e5, e6⟩ := h9
  refine ⟨by rw [hU]; exact Nat.le_trans e1 hS.1, va_K.moved hW.alike e2, ⟨fun w hw => qz_nst_warm (kz_NTok w hw) hW (e3.1 w hw), fun C hC => va_AO.moved hW.alike (e3.2.1 C hC), fun k hk q hq j hj => (e3.2.2 k hk q hq j hj).moved hW.alike⟩, ⟨fun q hq => ?_, fun q hq => ?_⟩, fun q hq => vk_R.warm hW (e5 q hq), e6⟩
  · rw [hU]
    exact (va_Z.moved hW.alike (e4.1 q hq)).kept fun a h1 h2 => hS.2.1 a h1 h2
  · obtain ⟨o, ho⟩ := e4.2 q hq
    refine ⟨o, ?_⟩
    rw [hU]
    exact (va_Z.moved hW.alike ho).kept fun a h1 h2 => hS.2.1 a h1 h2
theorem qz_sr_app {h : qz_H} : ∀ (a b : List qz_V) (s : List Value), qz_sr h (a ++ b) s → ∃ r, s = a.map (qz_cv h) ++ r ∧ (∀ v ∈ a, qz_vo h v) ∧ qz_sr h b r
  | [], _, s, hs => ⟨s, rfl, (fun _ q => by cases q), hs⟩
  | v :: a, b, s, hs => by
    obtain ⟨r, h1, h2, h3⟩ := hs
    obtain ⟨r2, g1, g2, g3⟩ := qz_sr_app a b r h3
    refine ⟨r2, by rw [h1, g1]; rfl, fun w hw => ?_, g3⟩
    rcases List.mem_cons.mp hw with q | q
    · rw [q]; exact h2
    · exact g2 w q
def qz_sz : List qz_V → Nat
  | [] => 0
  | v :: r => (if qz_lg v = true then 2 else 1) + qz_sz r
theorem qz_sz_ok {h : qz_H} : ∀ (st : List qz_V) (s : List Value), qz_sr h st s → (s.map fun v => v.category).sum ≤ qz_sz st
  | [], _, hs => by rw [show _ = [] from hs]; exact Nat.le_refl _
  | v :: st, _, ⟨r, h1, h2, h3⟩ => by
    have ih := qz_sz_ok st r h3
    rw [h1, List.map_cons, List.sum_cons]
    show (qz_cv h v).category + _ ≤ (if qz_lg v = true then 2 else 1) + qz_sz st
    by_cases hv : qz_lg v = true
    · rw [if_pos hv]
      rcases lv_cat (qz_cv h v) with q | q <;> omega
    · rw [if_neg hv]
      have := qz_catL h (v := v) (by simpa using hv)
      rcases lv_cat (qz_cv h v) with q | q <;> omega
/-- what a method's rows say; what a place of call says -/
def qz_mw (Y2 : qz_Y) (n : Nat) : Prop := Cond.code Y2.1 Y2.2.1 Y2.2.2.1 Y2.2.2.2.1 ∈ kz_TT ∧ Cond.initialized Y2.1.cls ∈ kz_TT ∧ (Y2.1.cls ≠ "java/lang/invoke/MethodHandle" ∧ Y2.1.cls ≠ "java/lang/invoke/VarHandle" ∧ (parseMethodDescriptor Y2.1.desc).map (fun d => d.parameters.length) = some n) ∧ plainName Y2.1.cls = true
def qz_vw (Y2 : qz_Y) : Prop := Cond.instanceMethod Y2.1 ∈ kz_TT ∧ Cond.selects Y2.1.cls Y2.1 Y2.1 ∈ kz_TT
def qz_ln (own : String) (idx : Nat) (Y2 : qz_Y) : Prop := Cond.methodLink own idx Y2.1 ∈ kz_TT ∨ ∃ host, Cond.methodLinkNest own idx Y2.1 host ∈ kz_NT
def qz_rm (Y Y2 : qz_Y) (cs sl : Nat) : Bool := decide (Y2.2.2.2.2.2.frames + 1 ≤ Y.2.2.2.2.2.frames) && decide (8 + (Y2.2.2.1 + 11) + Y2.2.2.2.2.2.locals ≤ Y.2.2.2.2.2.locals) && decide (cs + Y2.2.2.2.2.2.cells ≤ Y.2.2.2.2.2.cells) && decide (sl + Y2.2.2.2.2.2.slots ≤ Y.2.2.2.2.2.slots)
theorem qz_rm_ok {Y Y2 : qz_Y} {cs sl : Nat} (h : qz_rm Y Y2 cs sl = true) : (Y2.2.2.2.2.2.frames + 1 ≤ Y.2.2.2.2.2.frames ∧ 8 + (Y2.2.2.1 + 11) + Y2.2.2.2.2.2.locals ≤ Y.2.2.2.2.2.locals) ∧ cs + Y2.2.2.2.2.2.cells ≤ Y.2.2.2.2.2.cells ∧ sl + Y2.2.2.2.2.2.slots ≤ Y.2.2.2.2.2.slots := by
  simp only [qz_rm, Bool.and_eq_true, decide_eq_true_eq] at h
  exact ⟨⟨h.1.1.1, h.1.1.2⟩, h.1.2, h.2⟩
theorem qz_good {Y Y2 : qz_Y} (hc : Cond.code Y2.1 Y2.2.1 Y2.2.2.1 Y2.2.2.2.1 ∈ kz_TT) : GoodIn (qz_ws Y) (qz_ws Y2) := by
  intro w hw
  rcases List.mem_cons.mp hw with q | q
  · rw [q]; exact ⟨List.mem_cons_of_mem _ hc, kz_TTok _ hc⟩
  · exact ⟨List.mem_cons_of_mem _ q, kz_TTok _ q⟩
theorem qz_blind {D : va_G} {dA : Nat → ClassId} {B0 : Nat} {hc : qz_H} {vs : List qz_V} {h : qz_H} : FrameBlind (qz_P D dA B0 hc vs h) := by
  intro a U g mk ⟨q1, q2, q3, q4⟩
  refine ⟨q1, q2, qz_W.moved (u := U) (U := U.calling g mk a) (Vm.Alike.refl U.vm) q3, ?_⟩
  obtain ⟨e1, e2, e3, e4, e5, e6⟩ := q4
  exact ⟨e1, va_K.moved (u := U) (U := U.calling g mk a) (Vm.Alike.refl U.vm) e2, ⟨fun w hw => va_Nw.same (u := U) (U := U.calling g mk a) (qz_nst_tab (kz_NTok w hw)) rfl (e3.1 w hw), fun C hC => va_AO.moved (u := U) (U := U.calling g mk a) (Vm.Alike.refl U.vm) (e3.2.1 C hC), fun k hk q hq j hj => (e3.2.2 k hk q hq j hj).moved (Vm.Alike.refl U.vm)⟩, ⟨fun q hq => va_Z.moved (u := U) (U := U.calling g mk a) (Vm.Alike.refl U.vm) (e4.1 q hq), fun q hq => (e4.2 q hq).elim fun o ho => ⟨o, va_Z.moved (u := U) (U := U.calling g mk a) (Vm.Alike.refl U.vm) ho⟩⟩, fun q hq => vk_R.same (u := U) (U := U.calling g mk a) rfl (e5 q hq), e6⟩
section QC
variable {p : Program} {l : Launch} {e : Env} {R : Room} {s : State} {m : MethodId} {args : Array Value} {below : List Frame} {meth : Method} {c : Code} {H : Heap} {locs : List Loc} {cs sl mc ms : Nat} {Q : State → Prop}
theorem qz_after {Y2 : qz_Y} {D : va_G} {dA : Nat → ClassId} {B0 : Nat} {hc h0 h : qz_H} {r2 : qz_R} {a : Array Value} {pc : Nat} {lsC : Array Slot} {stk rest : List Value} (hrun : va_Run p l e R s m args below meth c H locs cs sl mc ms (F0 m pc lsC stk) rest (qz_Q Y2 D dA B0 hc h r2 a) (qz_A B0)) (hW : qz_W D dA B0 hc h0 s h H) (hS : va_S (qz_A B0) s.heap H locs)
    (kk : ∀ (H1 : Heap) (locs1 : List Loc), qz_W D dA B0 hc h0 s r2.2 H1 → qz_ex h r2.2 → (Y2.2.2.2.2.1 ≠ 0 → qz_rg r2.2 Y2.2.2.2.2.1 r2.1) → va_S (qz_A B0) s.heap H1 locs1 → W p l e R s m args below meth c H1 locs1 (cs + mc) (sl + ms) Q (F0 m (pc + 3) lsC ((qz_rv Y2 r2).toList ++ rest))) : W p l e R s m args below meth c H locs cs sl Q (F0 m pc lsC stk) := by
  intro T hT X
  obtain ⟨v, st₀, t, T', L, g0, X', hL, e1, e2, ⟨⟨hv, hw, hg⟩, hz, hk⟩, stp⟩ := hrun T hT X
  cases hv
  rw [g0] at hz hk
  have hwx := hw.2.2.2.2.2.2
  have hal : s.vm.Alike t.vm := by rw [← e2]; exact X'.warmed.alike
  obtain ⟨t2, a1, b1⟩ := kk T'.heap (locs ++ L) (by rw [e1]; exact (hw.moved hal.symm).re (hW.2.2.2.2.2.2.tr hwx)) hwx hg
    ⟨Nat.le_trans hS.1 (by rw [e1]; exact hz), fun q h1 h2 => by rw [e1, hk q (Nat.lt_of_lt_of_le h1 hS.1) h2]; exact hS.2.1 q h1 h2, fun q hq => by
      rcases List.mem_append.mp hq with h | h
      · exact hS.2.2 q h
      · exact hL q h⟩ T' rfl X'
  exact ⟨t2, stp t2 a1, b1⟩
end QC
section QD
variable {Y Y2 : qz_Y} {G : qz_G} {is isT : List (Instr × Nat)} {pc T : Nat} {ls st : List qz_V} {h : qz_H} {cs sl : Nat} {t t1 t2 : Option qz_R}
theorem qz_bc_some {o : Option qz_R} {f : Int → qz_H → Option qz_R} {r : qz_R} (h : qz_bc o f = some r) : ∃ q, o = some q ∧ f q.1 q.2 = some r := by
  cases o with
  | none => cases h
  | some q => exact ⟨q, rfl, h⟩

theorem qz_invvV {idx n : Nat} {k0 : Nat} {x : Int} (as : List qz_V) {stk : List qz_V} {f : Int → qz_H → Option qz_R} (hst : stk = as.reverse ++ qz_r true k0 x :: st) (hm : qz_C Y2 (qz_r true k0 x :: as) h t) (hw : qz_mw Y2 n) (hv : qz_vw Y2) (hk0 : ∃ q : vw_C, kz_cl[k0]? = some q ∧ Y2.1.cls = q.1 ∧ k0 < 40) (hn : ((as.length == n) && (qz_sz st).ble 8) = true) (hrm : qz_rm Y Y2 cs sl = true) (hln : qz_ln Y.1.cls idx Y2) (hR : (Y2.2.2.2.2.1 == 0) = true) (k : ∀ r h', qz_J Y G is (pc + 3) ls st h' (cs + Y2.2.2.2.2.2.cells) (sl + Y2.2.2.2.2.2.slots) (f r h')) : qz_J Y G ((.invokevirtual idx, 3) :: is) pc ls stk h cs sl (qz_bc t f) := by
  obtain ⟨p, l, e, s, m, args, below, meth, c, D, dA, B0, hc, h0⟩ := G
  intro r hr hx lsC stC H locs hca hl hs hW hS
  obtain ⟨h1, h2, h3, h4, h5, h6, h7, h8, h9⟩ := id hx
  subst hst
  obtain ⟨r1, q1, v1, hs2⟩ := qz_sr_app _ _ _ hs
  clear hs
  obtain ⟨r2, q2, v2, hs⟩ := hs2
  have hok := qz_vot v2
  rw [qz_cvr (qz_ok_ne hok)] at q2
  subst q2
  subst q1
  obtain ⟨q, qe, q2⟩ := qz_bc_some hr
  obtain ⟨m1, m2, m3, m4⟩ := hw
  obtain ⟨⟨rm1, rm2⟩, rm3, rm4⟩ := qz_rm_ok hrm
  simp only [Bool.and_eq_true, beq_iff_eq] at hn
  have hroom : 2 * (F0 m pc lsC ([] : List Value)).monitorRoom + (r2.map fun v => v.category).sum ≤ 8 := lv_room (Nat.le_trans (qz_sz_ok _ _ hs) (Nat.le_of_ble_eq_true hn.2))
  have hsize : lsC.size = Y.2.2.1 := by obtain ⟨lv, g1, -⟩ := hl; exact g1.1
  have hvo : ∀ v ∈ as, qz_vo h v := fun v hv => v1 v (List.mem_reverse.mpr hv)
  have hPc : ∀ U : State, U.heap = H → s.WarmedH U.vm → qz_P D dA B0 hc (qz_r true k0 x :: as) h (.ref (qz_ad h x) :: as.map (qz_cv h)).toArray U := by
    intro U hU hWm
    refine ⟨by rw [List.map_cons, qz_cvr (qz_ok_ne hok)], ?_, ?_, qz_E_at h9 hS hU hWm⟩
    · intro v hv
      rcases List.mem_cons.mp hv with z | z
      · rw [z]; exact v2
      · exact hvo v z
    · rw [hU]
      exact (hW.moved hWm.alike).re (qz_ex.rf h)
  have hM := hm q qe l D dA B0 hc
  have hfix : CallFix p m c Y.2.1 Y.2.2.1 s args (qz_ws Y) Y.1.cls := ⟨h1, h2, h3, h7, h8⟩
  have htt : ∀ w ∈ kz_TT, w.before args s = true := fun w hw => h8 w (List.mem_cons_of_mem _ hw)
  have hlen : (as.map (qz_cv h)).length = n := by rw [List.length_map]; exact hn.1
  obtain ⟨qc, k1', k2', k3'⟩ := hk0
  obtain ⟨⟨cell, b1, b2, b3, b4, -⟩, -⟩ := (hW.2.1 x k0 hok).1 k3'
  have hcls := (h9.2.1.1 k0 qc k1').2.1
  have hpre : PreV s H Y2.1.cls (qz_ad h x) (qz_P D dA B0 hc (qz_r true k0 x :: as) h) (as.map (qz_cv h)) := ⟨qz_blind, ⟨cell, b1, b4, by rw [b2, k2']; exact hcls⟩, hPc⟩
  have hstk : as.reverse.map (qz_cv h) = (as.map (qz_cv h)).reverse := List.map_reverse
  rw [hstk]
  have fin : ∀ (H1 : Heap) (locs1 : List Loc), qz_W D dA B0 hc h0 s q.2 H1 → qz_ex h q.2 → (Y2.2.2.2.2.1 ≠ 0 → qz_rg q.2 Y2.2.2.2.2.1 q.1) → va_S (qz_A B0) s.heap H1 locs1 → W p l e Y.2.2.2.2.2 s m args below meth c H1 locs1 (cs + Y2.2.2.2.2.2.cells) (sl + Y2.2.2.2.2.2.slots) (MQ below (qz_Q Y D dA B0 hc h0 r) args s Y.2.2.2.2.2.cells Y.2.2.2.2.2.slots (qz_A B0)) (F0 m (pc + 3) lsC ((qz_rv Y2 q).toList ++ r2)) := by
    intro H1 locs1 w wx wr wS
    have e0 : Y2.2.2.2.2.1 = 0 := by simpa using hR
    have e1 : qz_rv Y2 q = none := by unfold qz_rv; rw [if_pos e0]
    rw [e1]
    exact k q.1 q.2 r q2 hx lsC _ H1 locs1 hca.2 (wx.lr hl) (wx.sr _ _ hs) w wS
  rcases hln with g | ⟨host, g⟩
  · exact qz_after (va_runV (bytes := Y2.2.1) (maxL := Y2.2.2.1) (ret := Y2.2.2.2.1) (C := Y2.1.cls) (b := qz_ad h x) (As := as.map (qz_cv h)) (rest := r2) hfix hM ⟨callB_of n h8 (qz_good m1) rfl rfl rfl (htt _ m2) (htt _ g) ⟨m3.1, m3.2.1, m3.2.2⟩ ⟨rm1, rm2⟩, htt _ hv.1, htt _ hv.2⟩ hpre rfl hlen hsize rfl hroom hca.1 ⟨rm3, rm4⟩) hW hS fin
  · exact qz_after (va_runVN (bytes := Y2.2.1) (maxL := Y2.2.2.1) (ret := Y2.2.2.2.1) (host := host) (C := Y2.1.cls) (b := qz_ad h x) (As := as.map (qz_cv h)) (rest := r2) hfix hM ⟨va_cnB n h8 (qz_good m1) rfl rfl rfl (h9.2.2.1.1 _ g) (htt _ m2) ⟨m3.1, m3.2.1, m3.2.2⟩ ⟨rm1, rm2⟩, htt _ hv.1, htt _ hv.2⟩ hpre rfl hlen hsize rfl hroom hca.1 ⟨rm3, rm4⟩) hW hS fin
theorem qz_invvI {idx n : Nat} {k0 : Nat} {x : Int} (as : List qz_V) {stk : List qz_V} {f : Int → qz_H → Option qz_R} (hst : stk = as.reverse ++ qz_r true k0 x :: st) (hm : qz_C Y2 (qz_r true k0 x :: as) h t) (hw : qz_mw Y2 n) (hv : qz_vw Y2) (hk0 : ∃ q : vw_C, kz_cl[k0]? = some q ∧ Y2.1.cls = q.1 ∧ k0 < 40) (hn : ((as.length == n) && (qz_sz st).ble 8) = true) (hrm : qz_rm Y Y2 cs sl = true) (hln : qz_ln Y.1.cls idx Y2) (hR : (decide (Y2.2.2.2.2.1 < 10) && !(Y2.2.2.2.2.1 == 2) && !(Y2.2.2.2.2.1 == 0)) = true) (k : ∀ r h', qz_J Y G is (pc + 3) ls (qz_i r :: st) h' (cs + Y2.2.2.2.2.2.cells) (sl + Y2.2.2.2.2.2.slots) (f r h')) : qz_J Y G ((.invokevirtual idx, 3) :: is) pc ls stk h cs sl (qz_bc t f) := by
  obtain ⟨p, l, e, s, m, args, below, meth, c, D, dA, B0, hc, h0⟩ := G
  intro r hr hx lsC stC H locs hca hl hs hW hS
  obtain ⟨h1, h2, h3, h4, h5, h6, h7, h8, h9⟩ := id hx
  subst hst
  obtain ⟨r1, q1, v1, hs2⟩ := qz_sr_app _ _ _ hs
  clear hs
  obtain ⟨r2, q2, v2, hs⟩ := hs2
  have hok := qz_vot v2
  rw [qz_cvr (qz_ok_ne hok)] at q2
  subst q2
  subst q1
  obtain ⟨q, qe, q2⟩ := qz_bc_some hr
  obtain ⟨m1, m2, m3, m4⟩ := hw
  obtain ⟨⟨rm1, rm2⟩, rm3, rm4⟩ := qz_rm_ok hrm
  simp only [Bool.and_eq_true, beq_iff_eq] at hn
  have hroom : 2 * (F0 m pc lsC ([] : List Value)).monitorRoom + (r2.map fun v => v.category).sum ≤ 8 := lv_room (Nat.le_trans (qz_sz_ok _ _ hs) (Nat.le_of_ble_eq_true hn.2))
  have hsize : lsC.size = Y.2.2.1 := by obtain ⟨lv, g1, -⟩ := hl; exact g1.1
  have hvo : ∀ v ∈ as, qz_vo h v := fun v hv => v1 v (List.mem_reverse.mpr hv)
  have hPc : ∀ U : State, U.heap = H → s.WarmedH U.vm → qz_P D dA B0 hc (qz_r true k0 x :: as) h (.ref (qz_ad h x) :: as.map (qz_cv h)).toArray U := by
    intro U hU hWm
    refine ⟨by rw [List.map_cons, qz_cvr (qz_ok_ne hok)], ?_, ?_, qz_E_at h9 hS hU hWm⟩
    · intro v hv
      rcases List.mem_cons.mp hv with z | z
      · rw [z]; exact v2
      · exact hvo v z
    · rw [hU]
      exact (hW.moved hWm.alike).re (qz_ex.rf h)
  have hM := hm q qe l D dA B0 hc
  have hfix : CallFix p m c Y.2.1 Y.2.2.1 s args (qz_ws Y) Y.1.cls := ⟨h1, h2, h3, h7, h8⟩
  have htt : ∀ w ∈ kz_TT, w.before args s = true := fun w hw => h8 w (List.mem_cons_of_mem _ hw)
  have hlen : (as.map (qz_cv h)).length = n := by rw [List.length_map]; exact hn.1
  obtain ⟨qc, k1', k2', k3'⟩ := hk0
  obtain ⟨⟨cell, b1, b2, b3, b4, -⟩, -⟩ := (hW.2.1 x k0 hok).1 k3'
  have hcls := (h9.2.1.1 k0 qc k1').2.1
  have hpre : PreV s H Y2.1.cls (qz_ad h x) (qz_P D dA B0 hc (qz_r true k0 x :: as) h) (as.map (qz_cv h)) := ⟨qz_blind, ⟨cell, b1, b4, by rw [b2, k2']; exact hcls⟩, hPc⟩
  have hstk : as.reverse.map (qz_cv h) = (as.map (qz_cv h)).reverse := List.map_reverse
  rw [hstk]
  have fin : ∀ (H1 : Heap) (locs1 : List Loc), qz_W D dA B0 hc h0 s q.2 H1 → qz_ex h q.2 → (Y2.2.2.2.2.1 ≠ 0 → qz_rg q.2 Y2.2.2.2.2.1 q.1) → va_S (qz_A B0) s.heap H1 locs1 → W p l e Y.2.2.2.2.2 s m args below meth c H1 locs1 (cs + Y2.2.2.2.2.2.cells) (sl + Y2.2.2.2.2.2.slots) (MQ below (qz_Q Y D dA B0 hc h0 r) args s Y.2.2.2.2.2.cells Y.2.2.2.2.2.slots (qz_A B0)) (F0 m (pc + 3) lsC ((qz_rv Y2 q).toList ++ r2)) := by
    intro H1 locs1 w wx wr wS
    simp only [Bool.and_eq_true, decide_eq_true_eq, Bool.not_eq_true', beq_eq_false_iff_ne, ne_eq] at hR
    have e1 : qz_rv Y2 q = some (qz_cv q.2 (qz_i q.1)) := by unfold qz_rv; rw [if_neg hR.2]; unfold qz_tv; rw [if_neg hR.1.2, if_pos hR.1.1]; rfl
    rw [e1]
    exact k q.1 q.2 r q2 hx lsC _ H1 locs1 hca.2 (wx.lr hl) ⟨_, rfl, qz_rgI hR.1.1 hR.1.2 (wr hR.2), wx.sr _ _ hs⟩ w wS
  rcases hln with g | ⟨host, g⟩
  · exact qz_after (va_runV (bytes := Y2.2.1) (maxL := Y2.2.2.1) (ret := Y2.2.2.2.1) (C := Y2.1.cls) (b := qz_ad h x) (As := as.map (qz_cv h)) (rest := r2) hfix hM ⟨callB_of n h8 (qz_good m1) rfl rfl rfl (htt _ m2) (htt _ g) ⟨m3.1, m3.2.1, m3.2.2⟩ ⟨rm1, rm2⟩, htt _ hv.1, htt _ hv.2⟩ hpre rfl hlen hsize rfl hroom hca.1 ⟨rm3, rm4⟩) hW hS fin
  · exact qz_after (va_runVN (bytes := Y2.2.1) (maxL := Y2.2.2.1) (ret := Y2.2.2.2.1) (host := host) (C := Y2.1.cls) (b := qz_ad h x) (As := as.map (qz_cv h)) (rest := r2) hfix hM ⟨va_cnB n h8 (qz_good m1) rfl rfl rfl (h9.2.2.1.1 _ g) (htt _ m2) ⟨m3.1, m3.2.1, m3.2.2⟩ ⟨rm1, rm2⟩, htt _ hv.1, htt _ hv.2⟩ hpre rfl hlen hsize rfl hroom hca.1 ⟨rm3, rm4⟩) hW hS fin
theorem qz_invvJ {idx n : Nat} {k0 : Nat} {x : Int} (as : List qz_V) {stk : List qz_V} {f : Int → qz_H → Option qz_R} (hst : stk = as.reverse ++ qz_r true k0 x :: st) (hm : qz_C Y2 (qz_r true k0 x :: as) h t) (hw : qz_mw Y2 n) (hv : qz_vw Y2) (hk0 : ∃ q : vw_C, kz_cl[k0]? = some q ∧ Y2.1.cls = q.1 ∧ k0 < 40) (hn : ((as.length == n) && (qz_sz st).ble 8) = true) (hrm : qz_rm Y Y2 cs sl = true) (hln : qz_ln Y.1.cls idx Y2) (hR : (Y2.2.2.2.2.1 == 2) = true) (k : ∀ r h', qz_J Y G is (pc + 3) ls (qz_j r :: st) h' (cs + Y2.2.2.2.2.2.cells) (sl + Y2.2.2.2.2.2.slots) (f r h')) : qz_J Y G ((.invokevirtual idx, 3) :: is) pc ls stk h cs sl (qz_bc t f) := by
  obtain ⟨p, l, e, s, m, args, below, meth, c, D, dA, B0, hc, h0⟩ := G
  intro r hr hx lsC stC H locs hca hl hs hW hS
  obtain ⟨h1, h2, h3, h4, h5, h6, h7, h8, h9⟩ := id hx
  subst hst
  obtain ⟨r1, q1, v1, hs2⟩ := qz_sr_app _ _ _ hs
  clear hs
  obtain ⟨r2, q2, v2, hs⟩ := hs2
  have hok := qz_vot v2
  rw [qz_cvr (qz_ok_ne hok)] at q2
  subst q2
  subst q1
  obtain ⟨q, qe, q2⟩ := qz_bc_some hr
  obtain ⟨m1, m2, m3, m4⟩ := hw
  obtain ⟨⟨rm1, rm2⟩, rm3, rm4⟩ := qz_rm_ok hrm
  simp only [Bool.and_eq_true, beq_iff_eq] at hn
  have hroom : 2 * (F0 m pc lsC ([] : List Value)).monitorRoom + (r2.map fun v => v.category).sum ≤ 8 := lv_room (Nat.le_trans (qz_sz_ok _ _ hs) (Nat.le_of_ble_eq_true hn.2))
  have hsize : lsC.size = Y.2.2.1 := by obtain ⟨lv, g1, -⟩ := hl; exact g1.1
  have hvo : ∀ v ∈ as, qz_vo h v := fun v hv => v1 v (List.mem_reverse.mpr hv)
  have hPc : ∀ U : State, U.heap = H → s.WarmedH U.vm → qz_P D dA B0 hc (qz_r true k0 x :: as) h (.ref (qz_ad h x) :: as.map (qz_cv h)).toArray U := by
    intro U hU hWm
    refine ⟨by rw [List.map_cons, qz_cvr (qz_ok_ne hok)], ?_, ?_, qz_E_at h9 hS hU hWm⟩
    · intro v hv
      rcases List.mem_cons.mp hv with z | z
      · rw [z]; exact v2
      · exact hvo v z
    · rw [hU]
      exact (hW.moved hWm.alike).re (qz_ex.rf h)
  have hM := hm q qe l D dA B0 hc
  have hfix : CallFix p m c Y.2.1 Y.2.2.1 s args (qz_ws Y) Y.1.cls := ⟨h1, h2, h3, h7, h8⟩
  have htt : ∀ w ∈ kz_TT, w.before args s = true := fun w hw => h8 w (List.mem_cons_of_mem _ hw)
  have hlen : (as.map (qz_cv h)).length = n := by rw [List.length_map]; exact hn.1
  obtain ⟨qc, k1', k2', k3'⟩ := hk0
  obtain ⟨⟨cell, b1, b2, b3, b4, -⟩, -⟩ := (hW.2.1 x k0 hok).1 k3'
  have hcls := (h9.2.1.1 k0 qc k1').2.1
  have hpre : PreV s H Y2.1.cls (qz_ad h x) (qz_P D dA B0 hc (qz_r true k0 x :: as) h) (as.map (qz_cv h)) := ⟨qz_blind, ⟨cell, b1, b4, by rw [b2, k2']; exact hcls⟩, hPc⟩
  have hstk : as.reverse.map (qz_cv h) = (as.map (qz_cv h)).reverse := List.map_reverse
  rw [hstk]
  have fin : ∀ (H1 : Heap) (locs1 : List Loc), qz_W D dA B0 hc h0 s q.2 H1 → qz_ex h q.2 → (Y2.2.2.2.2.1 ≠ 0 → qz_rg q.2 Y2.2.2.2.2.1 q.1) → va_S (qz_A B0) s.heap H1 locs1 → W p l e Y.2.2.2.2.2 s m args below meth c H1 locs1 (cs + Y2.2.2.2.2.2.cells) (sl + Y2.2.2.2.2.2.slots) (MQ below (qz_Q Y D dA B0 hc h0 r) args s Y.2.2.2.2.2.cells Y.2.2.2.2.2.slots (qz_A B0)) (F0 m (pc + 3) lsC ((qz_rv Y2 q).toList ++ r2)) := by
    intro H1 locs1 w wx wr wS
    have e0 : Y2.2.2.2.2.1 = 2 := by simpa using hR
    have e1 : qz_rv Y2 q = some (qz_cv q.2 (qz_j q.1)) := by unfold qz_rv; rw [e0]; rfl
    rw [e1]
    have wr2 := wr (by rw [e0]; decide)
    rw [e0] at wr2
    exact k q.1 q.2 r q2 hx lsC _ H1 locs1 hca.2 (wx.lr hl) ⟨_, rfl, wr2, wx.sr _ _ hs⟩ w wS
  rcases hln with g | ⟨host, g⟩
  · exact qz_after (va_runV (bytes := Y2.2.1) (maxL := Y2.2.2.1) (ret := Y2.2.2.2.1) (C := Y2.1.cls) (b := qz_ad h x) (As := as.map (qz_cv h)) (rest := r2) hfix hM ⟨callB_of n h8 (qz_good m1) rfl rfl rfl (htt _ m2) (htt _ g) ⟨m3.1, m3.2.1, m3.2.2⟩ ⟨rm1, rm2⟩, htt _ hv.1, htt _ hv.2⟩ hpre rfl hlen hsize rfl hroom hca.1 ⟨rm3, rm4⟩) hW hS fin
  · exact qz_after (va_runVN (bytes := Y2.2.1) (maxL := Y2.2.2.1) (ret := Y2.2.2.2.1) (host := host) (C := Y2.1.cls) (b := qz_ad h x) (As := as.map (qz_cv h)) (rest := r2) hfix hM ⟨va_cnB n h8 (qz_good m1) rfl rfl rfl (h9.2.2.1.1 _ g) (htt _ m2) ⟨m3.1, m3.2.1, m3.2.2⟩ ⟨rm1, rm2⟩, htt _ hv.1, htt _ hv.2⟩ hpre rfl hlen hsize rfl hroom hca.1 ⟨rm3, rm4⟩) hW hS fin
theorem qz_invvR {k1 : Nat} {idx n : Nat} {k0 : Nat} {x : Int} (as : List qz_V) {stk : List qz_V} {f : Int → qz_H → Option qz_R} (hst : stk = as.reverse ++ qz_r true k0 x :: st) (hm : qz_C Y2 (qz_r true k0 x :: as) h t) (hw : qz_mw Y2 n) (hv : qz_vw Y2) (hk0 : ∃ q : vw_C, kz_cl[k0]? = some q ∧ Y2.1.cls = q.1 ∧ k0 < 40) (hn : ((as.length == n) && (qz_sz st).ble 8) = true) (hrm : qz_rm Y Y2 cs sl = true) (hln : qz_ln Y.1.cls idx Y2) (hR : (Y2.2.2.2.2.1 == 10 + k1) = true) (k : ∀ r h', qz_J Y G is (pc + 3) ls (qz_r false k1 r :: st) h' (cs + Y2.2.2.2.2.2.cells) (sl + Y2.2.2.2.2.2.slots) (f r h')) : qz_J Y G ((.invokevirtual idx, 3) :: is) pc ls stk h cs sl (qz_bc t f) := by
  obtain ⟨p, l, e, s, m, args, below, meth, c, D, dA, B0, hc, h0⟩ := G
  intro r hr hx lsC stC H locs hca hl hs hW hS
  obtain ⟨h1, h2, h3, h4, h5, h6, h7, h8, h9⟩ := id hx
  subst hst
  obtain ⟨r1, q1, v1, hs2⟩ := qz_sr_app _ _ _ hs
  clear hs
  obtain ⟨r2, q2, v2, hs⟩ := hs2
  have hok := qz_vot v2
  rw [qz_cvr (qz_ok_ne hok)] at q2
  subst q2
  subst q1
  obtain ⟨q, qe, q2⟩ := qz_bc_some hr
  obtain ⟨m1, m2, m3, m4⟩ := hw
  obtain ⟨⟨rm1, rm2⟩, rm3, rm4⟩ := qz_rm_ok hrm
  simp only [Bool.and_eq_true, beq_iff_eq] at hn
  have hroom : 2 * (F0 m pc lsC ([] : List Value)).monitorRoom + (r2.map fun v => v.category).sum ≤ 8 := lv_room (Nat.le_trans (qz_sz_ok _ _ hs) (Nat.le_of_ble_eq_true hn.2))
  have hsize : lsC.size = Y.2.2.1 := by obtain ⟨lv, g1, -⟩ := hl; exact g1.1
  have hvo : ∀ v ∈ as, qz_vo h v := fun v hv => v1 v (List.mem_reverse.mpr hv)
  have hPc : ∀ U : State, U.heap = H → s.WarmedH U.vm → qz_P D dA B0 hc (qz_r true k0 x :: as) h (.ref (qz_ad h x) :: as.map (qz_cv h)).toArray U := by
    intro U hU hWm
    refine ⟨by rw [List.map_cons, qz_cvr (qz_ok_ne hok)], ?_, ?_, qz_E_at h9 hS hU hWm⟩
    · intro v hv
      rcases List.mem_cons.mp hv with z | z
      · rw [z]; exact v2
      · exact hvo v z
    · rw [hU]
      exact (hW.moved hWm.alike).re (qz_ex.rf h)
  have hM := hm q qe l D dA B0 hc
  have hfix : CallFix p m c Y.2.1 Y.2.2.1 s args (qz_ws Y) Y.1.cls := ⟨h1, h2, h3, h7, h8⟩
  have htt : ∀ w ∈ kz_TT, w.before args s = true := fun w hw => h8 w (List.mem_cons_of_mem _ hw)
  have hlen : (as.map (qz_cv h)).length = n := by rw [List.length_map]; exact hn.1
  obtain ⟨qc, k1', k2', k3'⟩ := hk0
  obtain ⟨⟨cell, b1, b2, b3, b4, -⟩, -⟩ := (hW.2.1 x k0 hok).1 k3'
  have hcls := (h9.2.1.1 k0 qc k1').2.1
  have hpre : PreV s H Y2.1.cls (qz_ad h x) (qz_P D dA B0 hc (qz_r true k0 x :: as) h) (as.map (qz_cv h)) := ⟨qz_blind, ⟨cell, b1, b4, by rw [b2, k2']; exact hcls⟩, hPc⟩
  have hstk : as.reverse.map (qz_cv h) = (as.map (qz_cv h)).reverse := List.map_reverse
  rw [hstk]
  have fin : ∀ (H1 : Heap) (locs1 : List Loc), qz_W D dA B0 hc h0 s q.2 H1 → qz_ex h q.2 → (Y2.2.2.2.2.1 ≠ 0 → qz_rg q.2 Y2.2.2.2.2.1 q.1) → va_S (qz_A B0) s.heap H1 locs1 → W p l e Y.2.2.2.2.2 s m args below meth c H1 locs1 (cs + Y2.2.2.2.2.2.cells) (sl + Y2.2.2.2.2.2.slots) (MQ below (qz_Q Y D dA B0 hc h0 r) args s Y.2.2.2.2.2.cells Y.2.2.2.2.2.slots (qz_A B0)) (F0 m (pc + 3) lsC ((qz_rv Y2 q).toList ++ r2)) := by
    intro H1 locs1 w wx wr wS
    have e0 : Y2.2.2.2.2.1 = 10 + k1 := by simpa using hR
    have e1 : qz_rv Y2 q = some (qz_cv q.2 (qz_r false k1 q.1)) := by unfold qz_rv; rw [if_neg (by omega), e0]; unfold qz_tv; rw [if_neg (by omega), if_neg (by omega)]; rfl
    rw [e1]
    have wr2 := wr (by omega)
    rw [e0] at wr2
    exact k q.1 q.2 r q2 hx lsC _ H1 locs1 hca.2 (wx.lr hl) ⟨_, rfl, qz_rgR wr2, wx.sr _ _ hs⟩ w wS
  rcases hln with g | ⟨host, g⟩
  · exact qz_after (va_runV (bytes := Y2.2.1) (maxL := Y2.2.2.1) (ret := Y2.2.2.2.1) (C := Y2.1.cls) (b := qz_ad h x) (As := as.map (qz_cv h)) (rest := r2) hfix hM ⟨callB_of n h8 (qz_good m1) rfl rfl rfl (htt _ m2) (htt _ g) ⟨m3.1, m3.2.1, m3.2.2⟩ ⟨rm1, rm2⟩, htt _ hv.1, htt _ hv.2⟩ hpre rfl hlen hsize rfl hroom hca.1 ⟨rm3, rm4⟩) hW hS fin
  · exact qz_after (va_runVN (bytes := Y2.2.1) (maxL := Y2.2.2.1) (ret := Y2.2.2.2.1) (host := host) (C := Y2.1.cls) (b := qz_ad h x) (As := as.map (qz_cv h)) (rest := r2) hfix hM ⟨va_cnB n h8 (qz_good m1) rfl rfl rfl (h9.2.2.1.1 _ g) (htt _ m2) ⟨m3.1, m3.2.1, m3.2.2⟩ ⟨rm1, rm2⟩, htt _ hv.1, htt _ hv.2⟩ hpre rfl hlen hsize rfl hroom hca.1 ⟨rm3, rm4⟩) hW hS fin
theorem qz_invsV {idx n : Nat} (as : List qz_V) {stk : List qz_V} {f : Int → qz_H → Option qz_R} (hst : stk = as.reverse ++ st) (hm : qz_C Y2 (as) h t) (hw : qz_mw Y2 n) (hv : Cond.static Y2.1 ∈ kz_TT) (hn : ((as.length == n) && (qz_sz st).ble 8) = true) (hrm : qz_rm Y Y2 cs sl = true) (hln : qz_ln Y.1.cls idx Y2) (hR : (Y2.2.2.2.2.1 == 0) = true) (k : ∀ r h', qz_J Y G is (pc + 3) ls st h' (cs + Y2.2.2.2.2.2.cells) (sl + Y2.2.2.2.2.2.slots) (f r h')) : qz_J Y G ((.invokestatic idx, 3) :: is) pc ls stk h cs sl (qz_bc t f) := by
  obtain ⟨p, l, e, s, m, args, below, meth, c, D, dA, B0, hc, h0⟩ := G
  intro r hr hx lsC stC H locs hca hl hs hW hS
  obtain ⟨h1, h2, h3, h4, h5, h6, h7, h8, h9⟩ := id hx
  subst hst
  obtain ⟨r1, q1, v1, hs2⟩ := qz_sr_app _ _ _ hs
  clear hs
  have hs := hs2
  subst q1
  obtain ⟨q, qe, q2⟩ := qz_bc_some hr
  obtain ⟨m1, m2, m3, m4⟩ := hw
  obtain ⟨⟨rm1, rm2⟩, rm3, rm4⟩ := qz_rm_ok hrm
  simp only [Bool.and_eq_true, beq_iff_eq] at hn
  have hroom : 2 * (F0 m pc lsC ([] : List Value)).monitorRoom + (r1.map fun v => v.category).sum ≤ 8 := lv_room (Nat.le_trans (qz_sz_ok _ _ hs) (Nat.le_of_ble_eq_true hn.2))
  have hsize : lsC.size = Y.2.2.1 := by obtain ⟨lv, g1, -⟩ := hl; exact g1.1
  have hvo : ∀ v ∈ as, qz_vo h v := fun v hv => v1 v (List.mem_reverse.mpr hv)
  have hPc : ∀ U : State, U.heap = H → s.WarmedH U.vm → qz_P D dA B0 hc (as) h (as.map (qz_cv h)).toArray U := by
    intro U hU hWm
    refine ⟨rfl, ?_, ?_, qz_E_at h9 hS hU hWm⟩
    · exact hvo
    · rw [hU]
      exact (hW.moved hWm.alike).re (qz_ex.rf h)
  have hM := hm q qe l D dA B0 hc
  have hfix : CallFix p m c Y.2.1 Y.2.2.1 s args (qz_ws Y) Y.1.cls := ⟨h1, h2, h3, h7, h8⟩
  have htt : ∀ w ∈ kz_TT, w.before args s = true := fun w hw => h8 w (List.mem_cons_of_mem _ hw)
  have hlen : (as.map (qz_cv h)).length = n := by rw [List.length_map]; exact hn.1
  have hpre : PreS s H (qz_P D dA B0 hc as h) (as.map (qz_cv h)) := ⟨qz_blind, hPc⟩
  have hstk : as.reverse.map (qz_cv h) = (as.map (qz_cv h)).reverse := List.map_reverse
  rw [hstk]
  have fin : ∀ (H1 : Heap) (locs1 : List Loc), qz_W D dA B0 hc h0 s q.2 H1 → qz_ex h q.2 → (Y2.2.2.2.2.1 ≠ 0 → qz_rg q.2 Y2.2.2.2.2.1 q.1) → va_S (qz_A B0) s.heap H1 locs1 → W p l e Y.2.2.2.2.2 s m args below meth c H1 locs1 (cs + Y2.2.2.2.2.2.cells) (sl + Y2.2.2.2.2.2.slots) (MQ below (qz_Q Y D dA B0 hc h0 r) args s Y.2.2.2.2.2.cells Y.2.2.2.2.2.slots (qz_A B0)) (F0 m (pc + 3) lsC ((qz_rv Y2 q).toList ++ r1)) := by
    intro H1 locs1 w wx wr wS
    have e0 : Y2.2.2.2.2.1 = 0 := by simpa using hR
    have e1 : qz_rv Y2 q = none := by unfold qz_rv; rw [if_pos e0]
    rw [e1]
    exact k q.1 q.2 r q2 hx lsC _ H1 locs1 hca.2 (wx.lr hl) (wx.sr _ _ hs) w wS
  rcases hln with g | ⟨host, g⟩
  · exact qz_after (va_runS (bytes := Y2.2.1) (maxL := Y2.2.2.1) (ret := Y2.2.2.2.1) (As := as.map (qz_cv h)) (rest := r1) hfix hM ⟨callB_of n h8 (qz_good m1) rfl rfl rfl (htt _ m2) (htt _ g) ⟨m3.1, m3.2.1, m3.2.2⟩ ⟨rm1, rm2⟩, htt _ hv⟩ hpre rfl hlen hsize rfl hroom hca.1 ⟨rm3, rm4⟩) hW hS fin
  · exact qz_after (va_runSN (bytes := Y2.2.1) (maxL := Y2.2.2.1) (ret := Y2.2.2.2.1) (host := host) (As := as.map (qz_cv h)) (rest := r1) hfix hM ⟨va_cnB n h8 (qz_good m1) rfl rfl rfl (h9.2.2.1.1 _ g) (htt _ m2) ⟨m3.1, m3.2.1, m3.2.2⟩ ⟨rm1, rm2⟩, htt _ hv, trivial⟩ hpre rfl hlen hsize rfl hroom hca.1 ⟨rm3, rm4⟩) hW hS fin
theorem qz_invsI {idx n : Nat} (as : List qz_V) {stk : List qz_V} {f : Int → qz_H → Option qz_R} (hst : stk = as.reverse ++ st) (hm : qz_C Y2 (as) h t) (hw : qz_mw Y2 n) (hv : Cond.static Y2.1 ∈ kz_TT) (hn : ((as.length == n) && (qz_sz st).ble 8) = true) (hrm : qz_rm Y Y2 cs sl = true) (hln : qz_ln Y.1.cls idx Y2) (hR : (decide (Y2.2.2.2.2.1 < 10) && !(Y2.2.2.2.2.1 == 2) && !(Y2.2.2.2.2.1 == 0)) = true) (k : ∀ r h', qz_J Y G is (pc + 3) ls (qz_i r :: st) h' (cs + Y2.2.2.2.2.2.cells) (sl + Y2.2.2.2.2.2.slots) (f r h')) : qz_J Y G ((.invokestatic idx, 3) :: is) pc ls stk h cs sl (qz_bc t f) := by
  obtain ⟨p, l, e, s, m, args, below, meth, c, D, dA, B0, hc, h0⟩ := G
  intro r hr hx lsC stC H locs hca hl hs hW hS
  obtain ⟨h1, h2, h3, h4, h5, h6, h7, h8, h9⟩ := id hx
  subst hst
  obtain ⟨r1, q1, v1, hs2⟩ := qz_sr_app _ _ _ hs
  clear hs
  have hs := hs2
  subst q1
  obtain ⟨q, qe, q2⟩ := qz_bc_some hr
  obtain ⟨m1, m2, m3, m4⟩ := hw
  obtain ⟨⟨rm1, rm2⟩, rm3, rm4⟩ := qz_rm_ok hrm
  simp only [Bool.and_eq_true, beq_iff_eq] at hn
  have hroom : 2 * (F0 m pc lsC ([] : List Value)).monitorRoom + (r1.map fun v => v.category).sum ≤ 8 := lv_room (Nat.le_trans (qz_sz_ok _ _ hs) (Nat.le_of_ble_eq_true hn.2))
  have hsize : lsC.size = Y.2.2.1 := by obtain ⟨lv, g1, -⟩ := hl; exact g1.1
  have hvo : ∀ v ∈ as, qz_vo h v := fun v hv => v1 v (List.mem_reverse.mpr hv)
  have hPc : ∀ U : State, U.heap = H → s.WarmedH U.vm → qz_P D dA B0 hc (as) h (as.map (qz_cv h)).toArray U := by
    intro U hU hWm
    refine ⟨rfl, ?_, ?_, qz_E_at h9 hS hU hWm⟩
    · exact hvo
    · rw [hU]
      exact (hW.moved hWm.alike).re (qz_ex.rf h)
  have hM := hm q qe l D dA B0 hc
  have hfix : CallFix p m c Y.2.1 Y.2.2.1 s args (qz_ws Y) Y.1.cls := ⟨h1, h2, h3, h7, h8⟩
  have htt : ∀ w ∈ kz_TT, w.before args s = true := fun w hw => h8 w (List.mem_cons_of_mem _ hw)
  have hlen : (as.map (qz_cv h)).length = n := by rw [List.length_map]; exact hn.1
  have hpre : PreS s H (qz_P D dA B0 hc as h) (as.map (qz_cv h)) := ⟨qz_blind, hPc⟩
  have hstk : as.reverse.map (qz_cv h) = (as.map (qz_cv h)).reverse := List.map_reverse
  rw [hstk]
  have fin : ∀ (H1 : Heap) (locs1 : List Loc), qz_W D dA B0 hc h0 s q.2 H1 → qz_ex h q.2 → (Y2.2.2.2.2.1 ≠ 0 → qz_rg q.2 Y2.2.2.2.2.1 q.1) → va_S (qz_A B0) s.heap H1 locs1 → W p l e Y.2.2.2.2.2 s m args below meth c H1 locs1 (cs + Y2.2.2.2.2.2.cells) (sl + Y2.2.2.2.2.2.slots) (MQ below (qz_Q Y D dA B0 hc h0 r) args s Y.2.2.2.2.2.cells Y.2.2.2.2.2.slots (qz_A B0)) (F0 m (pc + 3) lsC ((qz_rv Y2 q).toList ++ r1)) := by
    intro H1 locs1 w wx wr wS
    simp only [Bool.and_eq_true, decide_eq_true_eq, Bool.not_eq_true', beq_eq_false_iff_ne, ne_eq] at hR
    have e1 : qz_rv Y2 q = some (qz_cv q.2 (qz_i q.1)) := by unfold qz_rv; rw [if_neg hR.2]; unfold qz_tv; rw [if_neg hR.1.2, if_pos hR.1.1]; rfl
    rw [e1]
    exact k q.1 q.2 r q2 hx lsC _ H1 locs1 hca.2 (wx.lr hl) ⟨_, rfl, qz_rgI hR.1.1 hR.1.2 (wr hR.2), wx.sr _ _ hs⟩ w wS
  rcases hln with g | ⟨host, g⟩
  · exact qz_after (va_runS (bytes := Y2.2.1) (maxL := Y2.2.2.1) (ret := Y2.2.2.2.1) (As := as.map (qz_cv h)) (rest := r1) hfix hM ⟨callB_of n h8 (qz_good m1) rfl rfl rfl (htt _ m2) (htt _ g) ⟨m3.1, m3.2.1, m3.2.2⟩ ⟨rm1, rm2⟩, htt _ hv⟩ hpre rfl hlen hsize rfl hroom hca.1 ⟨rm3, rm4⟩) hW hS fin
  · exact qz_after (va_runSN (bytes := Y2.2.1) (maxL := Y2.2.2.1) (ret := Y2.2.2.2.1) (host := host) (As := as.map (qz_cv h)) (rest := r1) hfix hM ⟨va_cnB n h8 (qz_good m1) rfl rfl rfl (h9.2.2.1.1 _ g) (htt _ m2) ⟨m3.1, m3.2.1, m3.2.2⟩ ⟨rm1, rm2⟩, htt _ hv, trivial⟩ hpre rfl hlen hsize rfl hroom hca.1 ⟨rm3, rm4⟩) hW hS fin
theorem qz_invsJ {idx n : Nat} (as : List qz_V) {stk : List qz_V} {f : Int → qz_H → Option qz_R} (hst : stk = as.reverse ++ st) (hm : qz_C Y2 (as) h t) (hw : qz_mw Y2 n) (hv : Cond.static Y2.1 ∈ kz_TT) (hn : ((as.length == n) && (qz_sz st).ble 8) = true) (hrm : qz_rm Y Y2 cs sl = true) (hln : qz_ln Y.1.cls idx Y2) (hR : (Y2.2.2.2.2.1 == 2) = true) (k : ∀ r h', qz_J Y G is (pc + 3) ls (qz_j r :: st) h' (cs + Y2.2.2.2.2.2.cells) (sl + Y2.2.2.2.2.2.slots) (f r h')) : qz_J Y G ((.invokestatic idx, 3) :: is) pc ls stk h cs sl (qz_bc t f) := by
  obtain ⟨p, l, e, s, m, args, below, meth, c, D, dA, B0, hc, h0⟩ := G
  intro r hr hx lsC stC H locs hca hl hs hW hS
  obtain ⟨h1, h2, h3, h4, h5, h6, h7, h8, h9⟩ := id hx
  subst hst
  obtain ⟨r1, q1, v1, hs2⟩ := qz_sr_app _ _ _ hs
  clear hs
  have hs := hs2
  subst q1
  obtain ⟨q, qe, q2⟩ := qz_bc_some hr
  obtain ⟨m1, m2, m3, m4⟩ := hw
  obtain ⟨⟨rm1, rm2⟩, rm3, rm4⟩ := qz_rm_ok hrm
  simp only [Bool.and_eq_true, beq_iff_eq] at hn
  have hroom : 2 * (F0 m pc lsC ([] : List Value)).monitorRoom + (r1.map fun v => v.category).sum ≤ 8 := lv_room (Nat.le_trans (qz_sz_ok _ _ hs) (Nat.le_of_ble_eq_true hn.2))
  have hsize : lsC.size = Y.2.2.1 := by obtain ⟨lv, g1, -⟩ := hl; exact g1.1
  have hvo : ∀ v ∈ as, qz_vo h v := fun v hv => v1 v (List.mem_reverse.mpr hv)
  have hPc : ∀ U : State, U.heap = H → s.WarmedH U.vm → qz_P D dA B0 hc (as) h (as.map (qz_cv h)).toArray U := by
    intro U hU hWm
    refine ⟨rfl, ?_, ?_, qz_E_at h9 hS hU hWm⟩
    · exact hvo
    · rw [hU]
      exact (hW.moved hWm.alike).re (qz_ex.rf h)
  have hM := hm q qe l D dA B0 hc
  have hfix : CallFix p m c Y.2.1 Y.2.2.1 s args (qz_ws Y) Y.1.cls := ⟨h1, h2, h3, h7, h8⟩
  have htt : ∀ w ∈ kz_TT, w.before args s = true := fun w hw => h8 w (List.mem_cons_of_mem _ hw)
  have hlen : (as.map (qz_cv h)).length = n := by rw [List.length_map]; exact hn.1
  have hpre : PreS s H (qz_P D dA B0 hc as h) (as.map (qz_cv h)) := ⟨qz_blind, hPc⟩
  have hstk : as.reverse.map (qz_cv h) = (as.map (qz_cv h)).reverse := List.map_reverse
  rw [hstk]
  have fin : ∀ (H1 : Heap) (locs1 : List Loc), qz_W D dA B0 hc h0 s q.2 H1 → qz_ex h q.2 → (Y2.2.2.2.2.1 ≠ 0 → qz_rg q.2 Y2.2.2.2.2.1 q.1) → va_S (qz_A B0) s.heap H1 locs1 → W p l e Y.2.2.2.2.2 s m args below meth c H1 locs1 (cs + Y2.2.2.2.2.2.cells) (sl + Y2.2.2.2.2.2.slots) (MQ below (qz_Q Y D dA B0 hc h0 r) args s Y.2.2.2.2.2.cells Y.2.2.2.2.2.slots (qz_A B0)) (F0 m (pc + 3) lsC ((qz_rv Y2 q).toList ++ r1)) := by
    intro H1 locs1 w wx wr wS
    have e0 : Y2.2.2.2.2.1 = 2 := by simpa using hR
    have e1 : qz_rv Y2 q = some (qz_cv q.2 (qz_j q.1)) := by unfold qz_rv; rw [e0]; rfl
    rw [e1]
    have wr2 := wr (by rw [e0]; decide)
    rw [e0] at wr2
    exact k q.1 q.2 r q2 hx lsC _ H1 locs1 hca.2 (wx.lr hl) ⟨_, rfl, wr2, wx.sr _ _ hs⟩ w wS
  rcases hln with g | ⟨host, g⟩
  · exact qz_after (va_runS (bytes := Y2.2.1) (maxL := Y2.2.2.1) (ret := Y2.2.2.2.1) (As := as.map (qz_cv h)) (rest := r1) hfix hM ⟨callB_of n h8 (qz_good m1) rfl rfl rfl (htt _ m2) (htt _ g) ⟨m3.1, m3.2.1, m3.2.2⟩ ⟨rm1, rm2⟩, htt _ hv⟩ hpre rfl hlen hsize rfl hroom hca.1 ⟨rm3, rm4⟩) hW hS fin
  · exact qz_after (va_runSN (bytes := Y2.2.1) (maxL := Y2.2.2.1) (ret := Y2.2.2.2.1) (host := host) (As := as.map (qz_cv h)) (rest := r1) hfix hM ⟨va_cnB n h8 (qz_good m1) rfl rfl rfl (h9.2.2.1.1 _ g) (htt _ m2) ⟨m3.1, m3.2.1, m3.2.2⟩ ⟨rm1, rm2⟩, htt _ hv, trivial⟩ hpre rfl hlen hsize rfl hroom hca.1 ⟨rm3, rm4⟩) hW hS fin
theorem qz_invsR {k1 : Nat} {idx n : Nat} (as : List qz_V) {stk : List qz_V} {f : Int → qz_H → Option qz_R} (hst : stk = as.reverse ++ st) (hm : qz_C Y2 (as) h t) (hw : qz_mw Y2 n) (hv : Cond.static Y2.1 ∈ kz_TT) (hn : ((as.length == n) && (qz_sz st).ble 8) = true) (hrm : qz_rm Y Y2 cs sl = true) (hln : qz_ln Y.1.cls idx Y2) (hR : (Y2.2.2.2.2.1 == 10 + k1) = true) (k : ∀ r h', qz_J Y G is (pc + 3) ls (qz_r false k1 r :: st) h' (cs + Y2.2.2.2.2.2.cells) (sl + Y2.2.2.2.2.2.slots) (f r h')) : qz_J Y G ((.invokestatic idx, 3) :: is) pc ls stk h cs sl (qz_bc t f) := by
  obtain ⟨p, l, e, s, m, args, below, meth, c, D, dA, B0, hc, h0⟩ := G
  intro r hr hx lsC stC H locs hca hl hs hW hS
  obtain ⟨h1, h2, h3, h4, h5, h6, h7, h8, h9⟩ := id hx
  subst hst
  obtain ⟨r1, q1, v1, hs2⟩ := qz_sr_app _ _ _ hs
  clear hs
  have hs := hs2
  subst q1
  obtain ⟨q, qe, q2⟩ := qz_bc_some hr
  obtain ⟨m1, m2, m3, m4⟩ := hw
  obtain ⟨⟨rm1, rm2⟩, rm3, rm4⟩ := qz_rm_ok hrm
  simp only [Bool.and_eq_true, beq_iff_eq] at hn
  have hroom : 2 * (F0 m pc lsC ([] : List Value)).monitorRoom + (r1.map fun v => v.category).sum ≤ 8 := lv_room (Nat.le_trans (qz_sz_ok _ _ hs) (Nat.le_of_ble_eq_true hn.2))
  have hsize : lsC.size = Y.2.2.1 := by obtain ⟨lv, g1, -⟩ := hl; exact g1.1
  have hvo : ∀ v ∈ as, qz_vo h v := fun v hv => v1 v (List.mem_reverse.mpr hv)
  have hPc : ∀ U : State, U.heap = H → s.WarmedH U.vm → qz_P D dA B0 hc (as) h (as.map (qz_cv h)).toArray U := by
    intro U hU hWm
    refine ⟨rfl, ?_, ?_, qz_E_at h9 hS hU hWm⟩
    · exact hvo
    · rw [hU]
      exact (hW.moved hWm.alike).re (qz_ex.rf h)
  have hM := hm q qe l D dA B0 hc
  have hfix : CallFix p m c Y.2.1 Y.2.2.1 s args (qz_ws Y) Y.1.cls := ⟨h1, h2, h3, h7, h8⟩
  have htt : ∀ w ∈ kz_TT, w.before args s = true := fun w hw => h8 w (List.mem_cons_of_mem _ hw)
  have hlen : (as.map (qz_cv h)).length = n := by rw [List.length_map]; exact hn.1
  have hpre : PreS s H (qz_P D dA B0 hc as h) (as.map (qz_cv h)) := ⟨qz_blind, hPc⟩
  have hstk : as.reverse.map (qz_cv h) = (as.map (qz_cv h)).reverse := List.map_reverse
  rw [hstk]
  have fin : ∀ (H1 : Heap) (locs1 : List Loc), qz_W D dA B0 hc h0 s q.2 H1 → qz_ex h q.2 → (Y2.2.2.2.2.1 ≠ 0 → qz_rg q.2 Y2.2.2.2.2.1 q.1) → va_S (qz_A B0) s.heap H1 locs1 → W p l e Y.2.2.2.2.2 s m args below meth c H1 locs1 (cs + Y2.2.2.2.2.2.cells) (sl + Y2.2.2.2.2.2.slots) (MQ below (qz_Q Y D dA B0 hc h0 r) args s Y.2.2.2.2.2.cells Y.2.2.2.2.2.slots (qz_A B0)) (F0 m (pc + 3) lsC ((qz_rv Y2 q).toList ++ r1)) := by
    intro H1 locs1 w wx wr wS
    have e0 : Y2.2.2.2.2.1 = 10 + k1 := by simpa using hR
    have e1 : qz_rv Y2 q = some (qz_cv q.2 (qz_r false k1 q.1)) := by unfold qz_rv; rw [if_neg (by omega), e0]; unfold qz_tv; rw [if_neg (by omega), if_neg (by omega)]; rfl
    rw [e1]
    have wr2 := wr (by omega)
    rw [e0] at wr2
    exact k q.1 q.2 r q2 hx lsC _ H1 locs1 hca.2 (wx.lr hl) ⟨_, rfl, qz_rgR wr2, wx.sr _ _ hs⟩ w wS
  rcases hln with g | ⟨host, g⟩
  · exact qz_after (va_runS (bytes := Y2.2.1) (maxL := Y2.2.2.1) (ret := Y2.2.2.2.1) (As := as.map (qz_cv h)) (rest := r1) hfix hM ⟨callB_of n h8 (qz_good m1) rfl rfl rfl (htt _ m2) (htt _ g) ⟨m3.1, m3.2.1, m3.2.2⟩ ⟨rm1, rm2⟩, htt _ hv⟩ hpre rfl hlen hsize rfl hroom hca.1 ⟨rm3, rm4⟩) hW hS fin
  · exact qz_after (va_runSN (bytes := Y2.2.1) (maxL := Y2.2.2.1) (ret := Y2.2.2.2.1) (host := host) (As := as.map (qz_cv h)) (rest := r1) hfix hM ⟨va_cnB n h8 (qz_good m1) rfl rfl rfl (h9.2.2.1.1 _ g) (htt _ m2) ⟨m3.1, m3.2.1, m3.2.2⟩ ⟨rm1, rm2⟩, htt _ hv, trivial⟩ hpre rfl hlen hsize rfl hroom hca.1 ⟨rm3, rm4⟩) hW hS fin
theorem qz_inviV {idx n : Nat} {k0 : Nat} {x : Int} (as : List qz_V) {stk : List qz_V} {f : Int → qz_H → Option qz_R} (hst : stk = as.reverse ++ qz_r true k0 x :: st) (hm : qz_C Y2 (qz_r true k0 x :: as) h t) (hw : qz_mw Y2 n) (hv : Cond.instanceMethod Y2.1 ∈ kz_TT ∧ Y2.1.name = "<init>" ∧ Y2.2.2.2.1 = none) (hn : ((as.length == n) && (qz_sz st).ble 8) = true) (hrm : qz_rm Y Y2 cs sl = true) (hln : qz_ln Y.1.cls idx Y2) (hR : (Y2.2.2.2.2.1 == 0) = true) (k : ∀ r h', qz_J Y G is (pc + 3) ls st h' (cs + Y2.2.2.2.2.2.cells) (sl + Y2.2.2.2.2.2.slots) (f r h')) : qz_J Y G ((.invokespecial idx, 3) :: is) pc ls stk h cs sl (qz_bc t f) := by
  obtain ⟨p, l, e, s, m, args, below, meth, c, D, dA, B0, hc, h0⟩ := G
  intro r hr hx lsC stC H locs hca hl hs hW hS
  obtain ⟨h1, h2, h3, h4, h5, h6, h7, h8, h9⟩ := id hx
  subst hst
  obtain ⟨r1, q1, v1, hs2⟩ := qz_sr_app _ _ _ hs
  clear hs
  obtain ⟨r2, q2, v2, hs⟩ := hs2
  have hok := qz_vot v2
  rw [qz_cvr (qz_ok_ne hok)] at q2
  subst q2
  subst q1
  obtain ⟨q, qe, q2⟩ := qz_bc_some hr
  obtain ⟨m1, m2, m3, m4⟩ := hw
  obtain ⟨⟨rm1, rm2⟩, rm3, rm4⟩ := qz_rm_ok hrm
  simp only [Bool.and_eq_true, beq_iff_eq] at hn
  have hroom : 2 * (F0 m pc lsC ([] : List Value)).monitorRoom + (r2.map fun v => v.category).sum ≤ 8 := lv_room (Nat.le_trans (qz_sz_ok _ _ hs) (Nat.le_of_ble_eq_true hn.2))
  have hsize : lsC.size = Y.2.2.1 := by obtain ⟨lv, g1, -⟩ := hl; exact g1.1
  have hvo : ∀ v ∈ as, qz_vo h v := fun v hv => v1 v (List.mem_reverse.mpr hv)
  have hPc : ∀ U : State, U.heap = H → s.WarmedH U.vm → qz_P D dA B0 hc (qz_r true k0 x :: as) h (.ref (qz_ad h x) :: as.map (qz_cv h)).toArray U := by
    intro U hU hWm
    refine ⟨by rw [List.map_cons, qz_cvr (qz_ok_ne hok)], ?_, ?_, qz_E_at h9 hS hU hWm⟩
    · intro v hv
      rcases List.mem_cons.mp hv with z | z
      · rw [z]; exact v2
      · exact hvo v z
    · rw [hU]
      exact (hW.moved hWm.alike).re (qz_ex.rf h)
  have hM := hm q qe l D dA B0 hc
  have hnone := hv.2.2
  have hfix : CallFix p m c Y.2.1 Y.2.2.1 s args (qz_ws Y) Y.1.cls := ⟨h1, h2, h3, h7, h8⟩
  have htt : ∀ w ∈ kz_TT, w.before args s = true := fun w hw => h8 w (List.mem_cons_of_mem _ hw)
  have hlen : (as.map (qz_cv h)).length = n := by rw [List.length_map]; exact hn.1
  have hpre : PreS s H (qz_P D dA B0 hc (qz_r true k0 x :: as) h) (.ref (qz_ad h x) :: as.map (qz_cv h)) := ⟨qz_blind, hPc⟩
  have hstk : as.reverse.map (qz_cv h) = (as.map (qz_cv h)).reverse := List.map_reverse
  rw [hstk]
  have fin : ∀ (H1 : Heap) (locs1 : List Loc), qz_W D dA B0 hc h0 s q.2 H1 → qz_ex h q.2 → (Y2.2.2.2.2.1 ≠ 0 → qz_rg q.2 Y2.2.2.2.2.1 q.1) → va_S (qz_A B0) s.heap H1 locs1 → W p l e Y.2.2.2.2.2 s m args below meth c H1 locs1 (cs + Y2.2.2.2.2.2.cells) (sl + Y2.2.2.2.2.2.slots) (MQ below (qz_Q Y D dA B0 hc h0 r) args s Y.2.2.2.2.2.cells Y.2.2.2.2.2.slots (qz_A B0)) (F0 m (pc + 3) lsC ((qz_rv Y2 q).toList ++ r2)) := by
    intro H1 locs1 w wx wr wS
    have e0 : Y2.2.2.2.2.1 = 0 := by simpa using hR
    have e1 : qz_rv Y2 q = none := by unfold qz_rv; rw [if_pos e0]
    rw [e1]
    exact k q.1 q.2 r q2 hx lsC _ H1 locs1 hca.2 (wx.lr hl) (wx.sr _ _ hs) w wS
  rcases hln with g | ⟨host, g⟩
  · refine qz_after (va_runI (bytes := Y2.2.1) (maxL := Y2.2.2.1) (b := qz_ad h x) (As := as.map (qz_cv h)) (rest := r2) hfix hM ?_ hpre rfl hlen hsize rfl hroom hca.1 ⟨rm3, rm4⟩) hW hS fin
    rw [← hnone]
    exact ⟨callB_of n h8 (qz_good m1) rfl rfl rfl (htt _ m2) (htt _ g) ⟨m3.1, m3.2.1, m3.2.2⟩ ⟨rm1, rm2⟩, hv.2.1, htt _ hv.1⟩
  · refine qz_after (va_runIN (bytes := Y2.2.1) (maxL := Y2.2.2.1) (host := host) (b := qz_ad h x) (As := as.map (qz_cv h)) (rest := r2) hfix hM ?_ hpre rfl hlen hsize rfl hroom hca.1 ⟨rm3, rm4⟩) hW hS fin
    rw [← hnone]
    exact ⟨va_cnB n h8 (qz_good m1) rfl rfl rfl (h9.2.2.1.1 _ g) (htt _ m2) ⟨m3.1, m3.2.1, m3.2.2⟩ ⟨rm1, rm2⟩, hv.2.1, htt _ hv.1⟩
theorem qz_invuI {xm : MethodName} {idx n : Nat} {k0 : Nat} {x : Int} (as : List qz_V) {stk : List qz_V} {f : Int → qz_H → Option qz_R} (hst : stk = as.reverse ++ qz_r true k0 x :: st) (hm : qz_C Y2 (qz_r true k0 x :: as) h t) (hw : qz_mw Y2 n) (hv : Cond.methodLink Y.1.cls idx xm ∈ kz_TT ∧ Cond.sameMethod xm.cls Y2.1.cls xm.name xm.desc ∈ kz_TT ∧ Cond.selects xm.cls xm Y2.1 ∈ kz_TT ∧ Cond.instanceMethod Y2.1 ∈ kz_TT) (hxm : (⟨Y2.1.cls, xm.name, xm.desc⟩ : MethodName) = Y2.1) (hk0 : ∃ q : vw_C, kz_cl[k0]? = some q ∧ xm.cls = q.1 ∧ k0 < 40) (hn : ((as.length == n) && (qz_sz st).ble 8) = true) (hrm : qz_rm Y Y2 cs sl = true) (hR : (decide (Y2.2.2.2.2.1 < 10) && !(Y2.2.2.2.2.1 == 2) && !(Y2.2.2.2.2.1 == 0)) = true) (k : ∀ r h', qz_J Y G is (pc + 3) ls (qz_i r :: st) h' (cs + Y2.2.2.2.2.2.cells) (sl + Y2.2.2.2.2.2.slots) (f r h')) : qz_J Y G ((.invokevirtual idx, 3) :: is) pc ls stk h cs sl (qz_bc t f) := by
  obtain ⟨p, l, e, s, m, args, below, meth, c, D, dA, B0, hc, h0⟩ := G
  intro r hr hx lsC stC H locs hca hl hs hW hS
  obtain ⟨h1, h2, h3, h4, h5, h6, h7, h8, h9⟩ := id hx
  subst hst
  obtain ⟨r1, q1, v1, hs2⟩ := qz_sr_app _ _ _ hs
  clear hs
  obtain ⟨r2, q2, v2, hs⟩ := hs2
  have hok := qz_vot v2
  rw [qz_cvr (qz_ok_ne hok)] at q2
  subst q2
  subst q1
  obtain ⟨q, qe, q2⟩ := qz_bc_some hr
  obtain ⟨m1, m2, m3, m4⟩ := hw
  obtain ⟨⟨rm1, rm2⟩, rm3, rm4⟩ := qz_rm_ok hrm
  simp only [Bool.and_eq_true, beq_iff_eq] at hn
  have hroom : 2 * (F0 m pc lsC ([] : List Value)).monitorRoom + (r2.map fun v => v.category).sum ≤ 8 := lv_room (Nat.le_trans (qz_sz_ok _ _ hs) (Nat.le_of_ble_eq_true hn.2))
  have hsize : lsC.size = Y.2.2.1 := by obtain ⟨lv, g1, -⟩ := hl; exact g1.1
  have hvo : ∀ v ∈ as, qz_vo h v := fun v hv => v1 v (List.mem_reverse.mpr hv)
  have hPc : ∀ U : State, U.heap = H → s.WarmedH U.vm → qz_P D dA B0 hc (qz_r true k0 x :: as) h (.ref (qz_ad h x) :: as.map (qz_cv h)).toArray U := by
    intro U hU hWm
    refine ⟨by rw [List.map_cons, qz_cvr (qz_ok_ne hok)], ?_, ?_, qz_E_at h9 hS hU hWm⟩
    · intro v hv
      rcases List.mem_cons.mp hv with z | z
      · rw [z]; exact v2
      · exact hvo v z
    · rw [hU]
      exact (hW.moved hWm.alike).re (qz_ex.rf h)
  have hM := hm q qe l D dA B0 hc
  have hfix : CallFix p m c Y.2.1 Y.2.2.1 s args (qz_ws Y) Y.1.cls := ⟨h1, h2, h3, h7, h8⟩
  have htt : ∀ w ∈ kz_TT, w.before args s = true := fun w hw => h8 w (List.mem_cons_of_mem _ hw)
  have hlen : (as.map (qz_cv h)).length = n := by rw [List.length_map]; exact hn.1
  obtain ⟨qc, k1', k2', k3'⟩ := hk0
  obtain ⟨⟨cell, b1, b2, b3, b4, -⟩, -⟩ := (hW.2.1 x k0 hok).1 k3'
  have hcls := (h9.2.1.1 k0 qc k1').2.1
  have hpre : PreV s H xm.cls (qz_ad h x) (qz_P D dA B0 hc (qz_r true k0 x :: as) h) (as.map (qz_cv h)) := ⟨qz_blind, ⟨cell, b1, b4, by rw [b2, k2']; exact hcls⟩, hPc⟩
  have hstk : as.reverse.map (qz_cv h) = (as.map (qz_cv h)).reverse := List.map_reverse
  rw [hstk]
  have fin : ∀ (H1 : Heap) (locs1 : List Loc), qz_W D dA B0 hc h0 s q.2 H1 → qz_ex h q.2 → (Y2.2.2.2.2.1 ≠ 0 → qz_rg q.2 Y2.2.2.2.2.1 q.1) → va_S (qz_A B0) s.heap H1 locs1 → W p l e Y.2.2.2.2.2 s m args below meth c H1 locs1 (cs + Y2.2.2.2.2.2.cells) (sl + Y2.2.2.2.2.2.slots) (MQ below (qz_Q Y D dA B0 hc h0 r) args s Y.2.2.2.2.2.cells Y.2.2.2.2.2.slots (qz_A B0)) (F0 m (pc + 3) lsC ((qz_rv Y2 q).toList ++ r2)) := by
    intro H1 locs1 w wx wr wS
    simp only [Bool.and_eq_true, decide_eq_true_eq, Bool.not_eq_true', beq_eq_false_iff_ne, ne_eq] at hR
    have e1 : qz_rv Y2 q = some (qz_cv q.2 (qz_i q.1)) := by unfold qz_rv; rw [if_neg hR.2]; unfold qz_tv; rw [if_neg hR.1.2, if_pos hR.1.1]; rfl
    rw [e1]
    exact k q.1 q.2 r q2 hx lsC _ H1 locs1 hca.2 (wx.lr hl) ⟨_, rfl, qz_rgI hR.1.1 hR.1.2 (wr hR.2), wx.sr _ _ hs⟩ w wS
  have hT : GoodIn (qz_ws Y) (va_wsU Y.1.cls idx xm.cls Y2.1.cls xm Y2.1 (qz_ws Y2)) := by
    intro w hw
    have gd : ∀ w, w ∈ kz_TT → w ∈ qz_ws Y ∧ ((w.onTables && w.keeps) = true ∨ ∃ ty, w = .arrayClass ty) := fun w hw => ⟨List.mem_cons_of_mem _ hw, kz_TTok _ hw⟩
    rcases List.mem_append.mp hw with z | z
    · simp only [List.mem_cons, List.not_mem_nil, or_false] at z
      rcases z with z | z | z | z | z
      · rw [z]; exact gd _ hv.1
      · rw [z]; exact gd _ hv.2.1
      · rw [z]; exact gd _ hv.2.2.1
      · rw [z]; exact gd _ hv.2.2.2
      · rw [z]; exact gd _ m2
    · exact qz_good m1 w z

  have hds : (parseMethodDescriptor xm.desc).map (fun d => d.parameters.length) = some n := by
    have := congrArg MethodName.desc hxm
    rw [show xm.desc = Y2.1.desc from this]; exact m3.2.2
  exact qz_after (va_runU (x := xm) (C := xm.cls) (owner := Y2.1.cls) (bytes := Y2.2.1) (maxL := Y2.2.2.1) (ret := Y2.2.2.2.1) (b := qz_ad h x) (As := as.map (qz_cv h)) (rest := r2) hfix hM (va_cwU n h8 hT rfl rfl rfl hxm.symm ⟨m3.1, m3.2.1, hds⟩ ⟨rm1, rm2⟩) hpre rfl hlen hsize rfl hroom hca.1 ⟨rm3, rm4⟩) hW hS fin
end QD
end
section
section QE
variable {Y : qz_Y} {G : qz_G} {is isT : List (Instr × Nat)} {pc T : Nat} {ls st : List qz_V} {h : qz_H} {cs sl : Nat} {t t1 t2 : Option qz_R}
def qz_le (Y : qz_Y) (cs sl : Nat) : Bool := decide (cs ≤ Y.2.2.2.2.2.cells) && decide (sl ≤ Y.2.2.2.2.2.slots)
theorem qz_le_ok {Y : qz_Y} {cs sl : Nat} (h : qz_le Y cs sl = true) : cs ≤ Y.2.2.2.2.2.cells ∧ sl ≤ Y.2.2.2.2.2.slots := by
  simp only [qz_le, Bool.and_eq_true, decide_eq_true_eq] at h
  exact h

theorem qz_ireturn {x : Int} (hR : Y.2.2.2.1 = some .int ∧ Y.2.2.2.2.1 = 1) (hle : qz_le Y cs sl = true) : qz_J Y G ((.ireturn, 1) :: is) pc ls [qz_i x] h cs sl (some (x, h)) := by
  obtain ⟨p, l, e, s, m, args, below, meth, c, D, dA, B0, hc, h0⟩ := G
  intro r hr hx lsC stC H locs hca hl hs hW hS
  obtain ⟨h1, h2, h3, h4, h5, h6, h7, h8, h9⟩ := id hx
  obtain ⟨r1, rfl, v1, rfl⟩ := hs
  cases hr
  obtain ⟨l1, l2⟩ := qz_le_ok hle
  refine W.widen l1 l2 ?_
  exact W.iret h1 h2 (h4.trans hR.1) (fun t ht hWm => ⟨⟨by unfold qz_rv; rw [if_neg (by rw [hR.2]; decide), hR.2]; rfl, by rw [ht]; exact hW.moved hWm.alike, fun hne => by rw [hR.2]; exact v1⟩, hS.F ht⟩) hS.2.2 hca.1 h5
theorem qz_zreturn {x : Int} (hR : Y.2.2.2.1 = some .boolean ∧ Y.2.2.2.2.1 = 3) (hle : qz_le Y cs sl = true) : qz_J Y G ((.ireturn, 1) :: is) pc ls [qz_i x] h cs sl (qz_ck (x = 0 ∨ x = 1) (some (x, h))) := by
  obtain ⟨p, l, e, s, m, args, below, meth, c, D, dA, B0, hc, h0⟩ := G
  intro r hr hx lsC stC H locs hca hl hs hW hS
  obtain ⟨h1, h2, h3, h4, h5, h6, h7, h8, h9⟩ := id hx
  obtain ⟨r1, rfl, v1, rfl⟩ := hs
  obtain ⟨hb, hr⟩ := qz_ck_some hr
  cases hr
  obtain ⟨l1, l2⟩ := qz_le_ok hle
  refine W.widen l1 l2 ?_
  have hn : narrow .boolean (.int (Int32.ofInt x)) = .int (Int32.ofInt x) := (qz_nf (h := h) (ty := .boolean) (t := 3) rfl hb).1
  exact W.zret h1 h2 (h4.trans hR.1) hn (fun t ht hWm => ⟨⟨by unfold qz_rv; rw [if_neg (by rw [hR.2]; decide), hR.2]; rfl, by rw [ht]; exact hW.moved hWm.alike, fun hne => by rw [hR.2]; exact hb⟩, hS.F ht⟩) hS.2.2 hca.1 h5
theorem qz_breturn {x : Int} (hR : Y.2.2.2.1 = some .byte ∧ Y.2.2.2.2.1 = 5) (hle : qz_le Y cs sl = true) : qz_J Y G ((.ireturn, 1) :: is) pc ls [qz_i x] h cs sl (qz_ck (-128 ≤ x ∧ x ≤ 127) (some (x, h))) := by
  obtain ⟨p, l, e, s, m, args, below, meth, c, D, dA, B0, hc, h0⟩ := G
  intro r hr hx lsC stC H locs hca hl hs hW hS
  obtain ⟨h1, h2, h3, h4, h5, h6, h7, h8, h9⟩ := id hx
  obtain ⟨r1, rfl, v1, rfl⟩ := hs
  obtain ⟨hb, hr⟩ := qz_ck_some hr
  cases hr
  obtain ⟨l1, l2⟩ := qz_le_ok hle
  refine W.widen l1 l2 ?_
  have hn : narrow .byte (.int (Int32.ofInt x)) = .int (Int32.ofInt x) := (qz_nf (h := h) (ty := .byte) (t := 5) rfl hb).1
  exact W.zret h1 h2 (h4.trans hR.1) hn (fun t ht hWm => ⟨⟨by unfold qz_rv; rw [if_neg (by rw [hR.2]; decide), hR.2]; rfl, by rw [ht]; exact hW.moved hWm.alike, fun hne => by rw [hR.2]; exact hb⟩, hS.F ht⟩) hS.2.2 hca.1 h5
theorem qz_creturn {x : Int} (hR : Y.2.2.2.1 = some .char ∧ Y.2.2.2.2.1 = 4) (hle : qz_le Y cs sl = true) : qz_J Y G ((.ireturn, 1) :: is) pc ls [qz_i x] h cs sl (qz_ck (0 ≤ x ∧ x ≤ 65535) (some (x, h))) := by
  obtain ⟨p, l, e, s, m, args, below, meth, c, D, dA, B0, hc, h0⟩ := G
  intro r hr hx lsC stC H locs hca hl hs hW hS
  obtain ⟨h1, h2, h3, h4, h5, h6, h7, h8, h9⟩ := id hx
  obtain ⟨r1, rfl, v1, rfl⟩ := hs
  obtain ⟨hb, hr⟩ := qz_ck_some hr
  cases hr
  obtain ⟨l1, l2⟩ := qz_le_ok hle
  refine W.widen l1 l2 ?_
  have hn : narrow .char (.int (Int32.ofInt x)) = .int (Int32.ofInt x) := by
    show Value.int (Int32.ofInt x).toUInt32.toUInt16.toUInt32.toInt32 = _
    have e := qz_nc_eq x
    unfold qz_nc at e
    rw [show (Int32.ofInt x).toUInt32.toUInt16.toUInt32.toInt32 = Int32.ofInt x from Int32.toInt_inj.mp (by rw [e, qz_t32 ⟨by omega, by omega⟩]; omega)]
  exact W.zret h1 h2 (h4.trans hR.1) hn (fun t ht hWm => ⟨⟨by unfold qz_rv; rw [if_neg (by rw [hR.2]; decide), hR.2]; rfl, by rw [ht]; exact hW.moved hWm.alike, fun hne => by rw [hR.2]; exact hb⟩, hS.F ht⟩) hS.2.2 hca.1 h5
theorem qz_lreturn {x : Int} (hR : Y.2.2.2.1 = some .long ∧ Y.2.2.2.2.1 = 2) (hle : qz_le Y cs sl = true) : qz_J Y G ((.lreturn, 1) :: is) pc ls [qz_j x] h cs sl (some (x, h)) := by
  obtain ⟨p, l, e, s, m, args, below, meth, c, D, dA, B0, hc, h0⟩ := G
  intro r hr hx lsC stC H locs hca hl hs hW hS
  obtain ⟨h1, h2, h3, h4, h5, h6, h7, h8, h9⟩ := id hx
  obtain ⟨r1, rfl, v1, rfl⟩ := hs
  cases hr
  obtain ⟨l1, l2⟩ := qz_le_ok hle
  refine W.widen l1 l2 ?_
  exact W.lret h1 h2 (h4.trans hR.1) (fun t ht hWm => ⟨⟨by unfold qz_rv; rw [if_neg (by rw [hR.2]; decide), hR.2]; rfl, by rw [ht]; exact hW.moved hWm.alike, fun hne => by rw [hR.2]; exact v1⟩, hS.F ht⟩) hS.2.2 hca.1 h5
theorem qz_return (hR : Y.2.2.2.1 = none ∧ Y.2.2.2.2.1 = 0) (hle : qz_le Y cs sl = true) : qz_J Y G ((.return_, 1) :: is) pc ls [] h cs sl (some (0, h)) := by
  obtain ⟨p, l, e, s, m, args, below, meth, c, D, dA, B0, hc, h0⟩ := G
  intro r hr hx lsC stC H locs hca hl hs hW hS
  obtain ⟨h1, h2, h3, h4, h5, h6, h7, h8, h9⟩ := id hx
  cases hs
  cases hr
  obtain ⟨l1, l2⟩ := qz_le_ok hle
  refine W.widen l1 l2 ?_
  exact W.vret h1 h2 (h4.trans hR.1) (fun t ht hWm => ⟨⟨by unfold qz_rv; rw [if_pos hR.2], by rw [ht]; exact hW.moved hWm.alike, fun hne => absurd hR.2 hne⟩, hS.F ht⟩) hS.2.2 hca.1 h5
theorem qz_areturn {x : Int} {b : Bool} {k1 : Nat} {C : String} (hR : Y.2.2.2.1 = some (.object C) ∧ Y.2.2.2.2.1 = 10 + k1) (hle : qz_le Y cs sl = true) : qz_J Y G ((.areturn, 1) :: is) pc ls [qz_r b k1 x] h cs sl (some (x, h)) := by
  obtain ⟨p, l, e, s, m, args, below, meth, c, D, dA, B0, hc, h0⟩ := G
  intro r hr hx lsC stC H locs hca hl hs hW hS
  obtain ⟨h1, h2, h3, h4, h5, h6, h7, h8, h9⟩ := id hx
  obtain ⟨r1, rfl, v1, rfl⟩ := hs
  cases hr
  obtain ⟨l1, l2⟩ := qz_le_ok hle
  refine W.widen l1 l2 ?_
  refine W.aret h1 h2 (h4.trans hR.1) (Or.inl ⟨C, rfl⟩) (v := va_rf (qz_rf h x)) (by cases qz_rf h x with
    | none => exact Or.inl rfl
    | some a => exact Or.inr ⟨a, rfl⟩) (fun t ht hWm => ⟨⟨by unfold qz_rv; rw [if_neg (by rw [hR.2]; omega), hR.2]; unfold qz_tv; rw [if_neg (by omega), if_neg (by omega)], by rw [ht]; exact hW.moved hWm.alike, fun hne => by rw [hR.2]; exact qz_rgR' v1⟩, hS.F ht⟩) hS.2.2 hca.1 h5
theorem qz_alen {k0 : Nat} {a : Int} (h40 : decide (40 ≤ k0) = true) (k : qz_J Y G is (pc + 1) ls (qz_i (h a (-1)) :: st) h cs sl t) : qz_J Y G ((.arraylength, 1) :: is) pc ls (qz_r true k0 a :: st) h cs sl t := by
  obtain ⟨p, l, e, s, m, args, below, meth, c, D, dA, B0, hc, h0⟩ := G
  intro r hr hx lsC stC H locs hca hl hs hW hS
  obtain ⟨h1, h2, h3, h4, h5, h6, h7, h8, h9⟩ := id hx
  obtain ⟨r1, q1, v1, hs⟩ := hs
  have hok := qz_vot v1
  rw [qz_cvr (qz_ok_ne hok)] at q1
  subst q1
  have h40 : 40 ≤ k0 := by simpa using h40
  obtain ⟨⟨cell, b1, b2, b3, b4, b5, b6, b7⟩, b8, b9, b10⟩ := (hW.2.1 a k0 hok).2 h40
  refine W.alen h1 h2 b1 b2 b6 rfl rfl hca.1 ?_
  exact k r hr hx lsC _ H locs hca.2 hl ⟨r1, rfl, ⟨by omega, b9⟩, hs⟩ hW hS
def qz_mk (h : qz_H) (k n : Int) (f : qz_H → Int → Option qz_R) : Option qz_R := f (qz_nw h k n) (h 0 0 + 1)
theorem qz_dv {h : qz_H} {ty : FieldType} {t : Nat} (hc : qz_tc ty t = true) : defaultValue ty = qz_tv h t 0 ∧ qz_rg h t 0 := by
  cases ty with
  | int =>
    have : t = 1 := by simpa [qz_tc] using hc
    subst this
    exact ⟨rfl, ⟨by decide, by decide⟩⟩
  | long =>
    have : t = 2 := by simpa [qz_tc] using hc
    subst this
    exact ⟨rfl, ⟨by decide, by decide⟩⟩
  | boolean =>
    have : t = 3 := by simpa [qz_tc] using hc
    subst this
    exact ⟨rfl, Or.inl rfl⟩
  | byte =>
    have : t = 5 := by simpa [qz_tc] using hc
    subst this
    exact ⟨rfl, ⟨by decide, by decide⟩⟩
  | object n =>
    have ht : 10 ≤ t := by simpa [qz_tc] using hc
    refine ⟨?_, ?_⟩
    · unfold qz_tv; rw [if_neg (by omega), if_neg (by omega)]; rfl
    · unfold qz_rg; rw [if_neg (by omega), if_neg (by omega), if_neg (by omega), if_neg (by omega), if_neg (by omega)]; exact Or.inl rfl
  | array n =>
    have ht : 10 ≤ t := by simpa [qz_tc] using hc
    refine ⟨?_, ?_⟩
    · unfold qz_tv; rw [if_neg (by omega), if_neg (by omega)]; rfl
    · unfold qz_rg; rw [if_neg (by omega), if_neg (by omega), if_neg (by omega), if_neg (by omega), if_neg (by omega)]; exact Or.inl rfl
  | _ => cases hc
theorem qz_nw_cv {D : va_G} {dA : Nat → ClassId} {B0 : Nat} {hc h0 : qz_H} {U : State} {H : Heap} {k n : Int} {k0 : Nat} (hW : qz_W D dA B0 hc h0 U h H) : qz_cv (qz_nw h k n) (qz_r true k0 (h 0 0 + 1)) = .ref H.size ∧ qz_ad (qz_nw h k n) (h 0 0 + 1) = H.size := by
  obtain ⟨⟨w0, w1⟩, -⟩ := hW
  have adn : qz_ad (qz_nw h k n) (h 0 0 + 1) = H.size := by
    unfold qz_ad
    rw [qz_nw_new w0, if_neg (by decide), if_neg (by decide), if_pos rfl, w1]
    simp
  exact ⟨by rw [qz_cvr (by omega), adn], adn⟩
theorem qz_nw_ok {k n : Int} {k0 : Nat} (h00 : 0 ≤ h 0 0) (hk : k = (k0 : Int)) : qz_ok (qz_nw h k n) k0 (h 0 0 + 1) := by
  refine ⟨Or.inl ⟨by omega, by rw [qz_nw_00]; exact Int.le_refl _⟩, ?_⟩
  rw [qz_nw_new h00, if_neg (by decide), if_pos rfl]
  exact hk
theorem qz_S_new {A : Nat → Prop} {H0 H H' : Heap} {locs : List Loc} (hS : va_S A H0 H locs) (hz : H'.size = H.size + 1) (hq : ∀ q, q < H.size → H'[q]? = H[q]?) : va_S A H0 H' locs :=
  ⟨Nat.le_trans hS.1 (by omega), fun x h1 h2 => (hq x (Nat.lt_of_lt_of_le h1 hS.1)).trans (hS.2.1 x h1 h2), hS.2.2⟩
theorem qz_new {idx k0 : Nat} {kI : Int} {f : qz_H → Int → Option qz_R} (hw : qz_cw k0) (hk : kI = (k0 : Int)) (hf : ∃ q : vw_C, kz_cl[k0]? = some q ∧ Cond.classLink Y.1.cls idx q.1 ∈ kz_TT ∧ Cond.instantiable q.1 (kz_N k0) ∈ kz_TT ∧ Cond.initialized q.1 ∈ kz_TT) (hle : qz_le Y (cs + 1) (sl + kz_N k0) = true)
    (k : ∀ h' x, qz_J Y G is (pc + 3) ls (qz_r true k0 x :: st) h' (cs + 1) (sl + kz_N k0) (f h' x)) : qz_J Y G ((.new idx, 3) :: is) pc ls st h cs sl (qz_mk h kI 0 f) := by
  obtain ⟨p, l, e, s, m, args, below, meth, c, D, dA, B0, hc, h0⟩ := G
  intro r hr hx lsC stC H locs hca hl hs hW hS
  obtain ⟨h1, h2, h3, h4, h5, h6, h7, h8, h9⟩ := id hx
  subst hk
  obtain ⟨q, c1, c2, c3, c4, c5, c6, c7⟩ := hw
  obtain ⟨q', f1, f2, f3, f4⟩ := hf
  cases c1.symm.trans f1
  obtain ⟨l1, l2⟩ := qz_le_ok hle
  have hts : ∀ w ∈ kz_TT, w.before args s = true := fun w hw => h8 w (List.mem_cons_of_mem _ hw)
  have hKn := h9.2.1.1 k0 q c1
  refine W.newcK h1 h2 h7 (hts _ f2) (hts _ f3) (hts _ f4) rfl hca.1 l1 l2 hKn.2.1 rfl fun H' kC hkC e1 e2 e3 => ?_
  obtain ⟨g1, g2⟩ := qz_nw_cv (k := (k0 : Int)) (n := 0) (k0 := k0) hW
  have ex := qz_nw_ex (h := h) (x := (k0 : Int)) (n := 0) hW.1.1
  obtain ⟨cell, t1, t2, t3, t4⟩ := u_born (kz_fT k0) hts c4 hKn hkC e1 c5
  refine k (qz_nw h k0 0) (h 0 0 + 1) r hr hx lsC _ H' locs hca.2 (ex.lr hl) ⟨_, by rw [g1], Or.inr (qz_nw_ok hW.1.1 rfl), ex.sr _ _ hs⟩ ?_ (qz_S_new hS e2 e3)
  refine qz_W_nw hW (by omega) (Nat.le_trans h9.1 hS.1) e2 e3 ⟨fun _ => ⟨⟨cell, by rw [g2]; exact t1, t2, by rw [t3]; exact fun z => (by cases z), by rw [t3]; rfl, fun _ => t3, fun j hj => ?_⟩, fun j hj => ?_⟩, fun z => absurd c3 (by omega)⟩
  · rw [t4 j (by rw [c2]; exact hj), qz_nw_new hW.1.1, if_neg (by omega), if_neg (by omega), if_neg (by omega)]
    exact congrArg some (qz_dv (h := qz_nw h k0 0) (c7 j (by rw [c2]; exact hj))).1
  · rw [qz_nw_new hW.1.1, if_neg (by omega), if_neg (by omega), if_neg (by omega)]
    exact (qz_dv (c7 j (by rw [c2]; exact hj))).2
def qz_ta (ty : FieldType) (t : Nat) : Bool := match ty with
  | .int => t == 1
  | .long => t == 2
  | .boolean => t == 3
  | .char => t == 4
  | .byte => t == 5
  | .object _ => decide (10 ≤ t)
  | _ => false
theorem qz_da {h : qz_H} {ty : FieldType} {t : Nat} (hc : qz_ta ty t = true) : defaultValue ty = qz_tv h t 0 ∧ qz_rg h t 0 := by
  cases ty with
  | int =>
    have : t = 1 := by simpa [qz_ta] using hc
    subst this
    exact ⟨rfl, ⟨by decide, by decide⟩⟩
  | long =>
    have : t = 2 := by simpa [qz_ta] using hc
    subst this
    exact ⟨rfl, ⟨by decide, by decide⟩⟩
  | boolean =>
    have : t = 3 := by simpa [qz_ta] using hc
    subst this
    exact ⟨rfl, Or.inl rfl⟩
  | char =>
    have : t = 4 := by simpa [qz_ta] using hc
    subst this
    exact ⟨rfl, ⟨by decide, by decide⟩⟩
  | byte =>
    have : t = 5 := by simpa [qz_ta] using hc
    subst this
    exact ⟨rfl, ⟨by decide, by decide⟩⟩
  | object n =>
    have ht : 10 ≤ t := by simpa [qz_ta] using hc
    refine ⟨?_, ?_⟩
    · unfold qz_tv; rw [if_neg (by omega), if_neg (by omega)]; rfl
    · unfold qz_rg; rw [if_neg (by omega), if_neg (by omega), if_neg (by omega), if_neg (by omega), if_neg (by omega)]; exact Or.inl rfl
  | _ => cases hc
/-- an array is new: what its cell says -/
theorem qz_W_arr {D : va_G} {dA : Nat → ClassId} {B0 : Nat} {hc h0 : qz_H} {U : State} {H H' : Heap} {k0 N : Nat} {ty : FieldType} (hW : qz_W D dA B0 hc h0 U h H) (h40 : 40 ≤ k0) (h99 : k0 < 99) (hT : kz_aT k0 = ty) (hE : qz_ta ty (kz_ae k0) = true) (hN : N ≤ 2147483647) (hB : B0 ≤ H.size) (hAr : ArrOfT U (dA k0) ty) (hz : H'.size = H.size + 1) (hq : ∀ q, q < H.size → H'[q]? = H[q]?)
    (he : H'[H.size]? = some (arrV (dA k0) N (fun _ => defaultValue ty))) : qz_W D dA B0 hc h0 U (qz_nw h k0 N) H' := by
  obtain ⟨g1, g2⟩ := qz_nw_cv (k := (k0 : Int)) (n := (N : Int)) (k0 := k0) hW
  have hlen : qz_nw h k0 N (h 0 0 + 1) (-1) = (N : Int) := by rw [qz_nw_new hW.1.1, if_pos rfl]
  refine qz_W_nw hW h99 hB hz hq ⟨fun z => absurd h40 (by omega), fun _ => ⟨⟨_, by rw [g2]; exact he, by rw [hT]; exact hAr N _, fun z => (by cases z), fun _ => ⟨rfl, rfl⟩, ?_, ?_, fun j hj => ?_⟩, ?_, ?_, fun j hj => ?_⟩⟩
  · rw [hlen, arrV_size]; exact Nat.le_of_eq (Int.toNat_natCast N)
  · rw [hlen, arrV_size]
    show Int32.ofNat N = _
    rw [Int32.ofInt_eq_ofNat]
  · rw [hlen, Int.toNat_natCast] at hj
    rw [arrV_read _ _ hj, qz_nw_new hW.1.1, if_neg (by omega), if_neg (by omega), if_neg (by omega), (qz_da (h := qz_nw h k0 N) hE).1]
  · rw [hlen]; omega
  · rw [hlen]; omega
  · rw [qz_nw_new hW.1.1, if_neg (by omega), if_neg (by omega), if_neg (by omega)]
    exact (qz_da hE).2
theorem qz_tys_at {dA : Nat → ClassId} {k0 : Nat} (hk : k0 ∈ kz_ak) : ∃ i : Nat, (qz_tys dA)[i]? = some (dA k0, kz_aT k0) := by
  apply List.getElem?_of_mem
  exact List.mem_map.mpr ⟨k0, hk, rfl⟩

theorem qz_newa {at0 : ArrayType} {k0 N : Nat} {n kI : Int} {f : qz_H → Int → Option qz_R} (hk : kI = (k0 : Int)) (hn : n = (N : Int)) (hak : k0 ∈ kz_ak) (h40 : (decide (40 ≤ k0) && decide (k0 < 99) && decide (N ≤ 100000)) = true) (hT : kz_aT k0 = newarray.typeOf at0) (hE : qz_ta (newarray.typeOf at0) (kz_ae k0) = true) (hby : componentBytes (newarray.typeOf at0) ≤ 8) (hw : Cond.arrayClass (newarray.typeOf at0) ∈ kz_TT) (hle : qz_le Y (cs + 1) (sl + N) = true)
    (k : ∀ h' x, qz_J Y G is (pc + 2) ls (qz_r true k0 x :: st) h' (cs + 1) (sl + N) (f h' x)) : qz_J Y G ((.newarray at0, 2) :: is) pc ls (qz_i n :: st) h cs sl (qz_mk h kI n f) := by
  obtain ⟨p, l, e, s, m, args, below, meth, c, D, dA, B0, hc, h0⟩ := G
  intro r hr hx lsC stC H locs hca hl hs hW hS
  obtain ⟨h1, h2, h3, h4, h5, h6, h7, h8, h9⟩ := id hx
  subst hk
  subst hn
  obtain ⟨r1, rfl, v1, hs⟩ := hs
  obtain ⟨l1, l2⟩ := qz_le_ok hle
  simp only [Bool.and_eq_true, decide_eq_true_eq] at h40
  obtain ⟨⟨h40, h99⟩, hN⟩ := h40
  have hts : ∀ w ∈ kz_TT, w.before args s = true := fun w hw => h8 w (List.mem_cons_of_mem _ hw)
  have h32 : qz_32 (N : Int) := v1
  have hcl : (Int32.ofInt (N : Int)).toNatClampNeg = N := by
    show (Int32.ofInt (N : Int)).toInt.toNat = N
    rw [qz_t32 h32]; simp
  refine va_newaK h1 h2 (hts _ hw) rfl hca.1 rfl (by rw [qz_l0 h32]; omega) hcl (Nat.le_trans (Nat.mul_le_mul hN hby) (by decide)) l1 l2 rfl fun H' cA e1 e2 e3 hAr hNm => ?_
  obtain ⟨i, hi⟩ := qz_tys_at (dA := dA) hak
  obtain ⟨k1, k2⟩ := h9.2.1.2 i _ hi
  have hcA : cA = dA k0 := by
    dsimp only at k2
    rw [hT] at k2
    have k2' : s.vm.findClass ("[" ++ (newarray.typeOf at0).toString) = some (dA k0) := by cases at0 <;> exact k2
    exact Option.some.inj (hNm.symm.trans k2')
  subst hcA
  obtain ⟨g1, g2⟩ := qz_nw_cv (k := (k0 : Int)) (n := (N : Int)) (k0 := k0) hW
  have ex := qz_nw_ex (h := h) (x := (k0 : Int)) (n := (N : Int)) hW.1.1
  refine k (qz_nw h k0 N) (h 0 0 + 1) r hr hx lsC _ H' locs hca.2 (ex.lr hl) ⟨_, by rw [g1], Or.inr (qz_nw_ok hW.1.1 rfl), ex.sr _ _ hs⟩ ?_ (qz_S_new hS e2 e3)
  exact qz_W_arr hW h40 h99 hT hE (by omega) (Nat.le_trans h9.1 hS.1) hAr e2 e3 e1
theorem qz_anew {idx k0 N : Nat} {C : String} {n kI : Int} {f : qz_H → Int → Option qz_R} (hk : kI = (k0 : Int)) (hn : n = (N : Int)) (hak : k0 ∈ kz_ak) (h40 : (decide (40 ≤ k0) && decide (k0 < 99) && decide (N ≤ 100000)) = true) (hT : kz_aT k0 = .object C) (hE : qz_ta (.object C) (kz_ae k0) = true) (hw : Cond.classLink Y.1.cls idx C ∈ kz_TT ∧ C ∈ kz_ao) (hle : qz_le Y (cs + 1) (sl + N) = true)
    (k : ∀ h' x, qz_J Y G is (pc + 3) ls (qz_r true k0 x :: st) h' (cs + 1) (sl + N) (f h' x)) : qz_J Y G ((.anewarray idx, 3) :: is) pc ls (qz_i n :: st) h cs sl (qz_mk h kI n f) := by
  obtain ⟨p, l, e, s, m, args, below, meth, c, D, dA, B0, hc, h0⟩ := G
  intro r hr hx lsC stC H locs hca hl hs hW hS
  obtain ⟨h1, h2, h3, h4, h5, h6, h7, h8, h9⟩ := id hx
  subst hk
  subst hn
  obtain ⟨r1, rfl, v1, hs⟩ := hs
  obtain ⟨l1, l2⟩ := qz_le_ok hle
  simp only [Bool.and_eq_true, decide_eq_true_eq] at h40
  obtain ⟨⟨h40, h99⟩, hN⟩ := h40
  have hts : ∀ w ∈ kz_TT, w.before args s = true := fun w hw => h8 w (List.mem_cons_of_mem _ hw)
  have h32 : qz_32 (N : Int) := v1
  have hcl : (Int32.ofInt (N : Int)).toNatClampNeg = N := by
    show (Int32.ofInt (N : Int)).toInt.toNat = N
    rw [qz_t32 h32]; simp
  refine W.anew h1 h2 h7 (hts _ hw.1) (va_AO.use (h9.2.2.1.2.1 C hw.2)) rfl hca.1 rfl (by rw [qz_l0 h32]; omega) (by rw [hcl]; omega) l1 (by rw [hcl]; exact l2) fun cA kA comp a1 a2 a3 a4 => ?_
  rw [hcl]
  obtain ⟨i, hi⟩ := qz_tys_at (dA := dA) hak
  obtain ⟨k1, k2⟩ := h9.2.1.2 i _ hi
  dsimp only at k1 k2
  rw [hT] at k1 k2
  obtain ⟨kA', comp', k3, k4, k5, k6⟩ := k2
  have hcA : cA = dA k0 := Option.some.inj (a1.symm.trans k6)
  subst hcA
  obtain ⟨g1, g2⟩ := qz_nw_cv (k := (k0 : Int)) (n := (N : Int)) (k0 := k0) hW
  have ex := qz_nw_ex (h := h) (x := (k0 : Int)) (n := (N : Int)) hW.1.1
  have e2 : (H.push { cls := dA k0, slots := Array.replicate N .null, vm := .none }).size = H.size + 1 := by simp
  have e3 : ∀ q, q < H.size → (H.push { cls := dA k0, slots := Array.replicate N .null, vm := .none })[q]? = H[q]? := fun q hq => by rw [Array.getElem?_push, if_neg (Nat.ne_of_lt hq)]
  refine k (qz_nw h k0 N) (h 0 0 + 1) r hr hx lsC _ _ locs hca.2 (ex.lr hl) ⟨_, by rw [g1], Or.inr (qz_nw_ok hW.1.1 rfl), ex.sr _ _ hs⟩ ?_ (qz_S_new hS e2 e3)
  exact qz_W_arr hW h40 h99 hT hE (by omega) (Nat.le_trans h9.1 hS.1) k1 e2 e3 (by show _ = some (arrV (dA k0) N (fun _ => Value.null)); rw [← arrV_new]; simp)
theorem qz_aast {k0 k1 : Nat} {a i v : Int} {C : String} {f : qz_H → Option qz_R} (h40 : decide (40 ≤ k0) = true) (hT : kz_aT k0 = .object C) (he : (kz_ae k0 == 10 + k1) = true) (hak : k0 ∈ kz_ak) (hcl : ∃ q : vw_C, kz_cl[k1]? = some q ∧ q.1 = C ∧ k1 < 40) (k : ∀ h', qz_J Y G is (pc + 1) ls st h' cs sl (f h')) : qz_J Y G ((.aastore, 1) :: is) pc ls (qz_r true k1 v :: qz_i i :: qz_r true k0 a :: st) h cs sl (qz_ck (0 < a ∧ 0 ≤ i ∧ i < h a (-1)) (qz_bn (qz_up h a i v) f)) := by
  obtain ⟨p, l, e, s, m, args, below, meth, c, D, dA, B0, hc, h0⟩ := G
  intro r hr hx lsC stC H locs hca hl hs hW hS
  obtain ⟨h1, h2, h3, h4, h5, h6, h7, h8, h9⟩ := id hx
  obtain ⟨rv, qv, v0, r0, q0, vi, r1, q1, v1, hs⟩ := hs
  obtain ⟨⟨hpos, g1, g2⟩, hr⟩ := qz_ck_some hr
  have hok := qz_vot v1
  have hov := qz_vot v0
  rw [qz_cvr (qz_ok_ne hok)] at q1
  rw [qz_cvr (qz_ok_ne hov)] at qv
  subst q1
  subst q0
  subst qv
  have h40 : 40 ≤ k0 := by simpa using h40
  have he : kz_ae k0 = 10 + k1 := by simpa using he
  obtain ⟨⟨cell, b1, b2, b3, b4, b5, b6, b7⟩, b8, b9, b10⟩ := (hW.2.1 a k0 hok).2 h40
  obtain ⟨x1, x2⟩ := qz_idx g1 g2 b9 b5
  obtain ⟨q, c1, c2, c3⟩ := hcl
  obtain ⟨⟨cv, d1, d2, d3, d4, -⟩, -⟩ := (hW.2.1 v k1 hov).1 c3
  obtain ⟨i', hi'⟩ := qz_tys_at (dA := dA) hak
  obtain ⟨k3, k4⟩ := h9.2.1.2 i' _ hi'
  dsimp only at k3 k4
  rw [hT] at k3 k4
  obtain ⟨kA, comp, k5, k6, k7, -⟩ := k4
  have hcls := (h9.2.1.1 k1 q c1).2
  rw [c2] at hcls
  have hcomp : comp = D.1 k1 := Option.some.inj (k7.symm.trans hcls.1)
  subst hcomp
  obtain ⟨kC, hkC, -⟩ := hcls.2
  obtain ⟨n1, n2⟩ := b4 hpos
  refine W.aast h1 h2 b1 (fun z w => by rw [n1] at w; cases w) b3 (by rw [n2]; exact k5) k6 rfl hkC ⟨fun z => x1 (Or.inl z), Nat.not_le.mp fun z => x1 (Or.inr z)⟩ d1 (fun z w => by rw [w] at d4; cases d4) (by rw [d2]; exact hkC) (by rw [d2]; exact va_assign hcls) rfl rfl hca.1 fun H' e1 e2 e3 => ?_
  have ex := (qz_up_sm (h := h) (v := v) hpos g1).ex
  rw [x2] at e1 ⊢
  refine k _ r hr hx lsC _ H' _ hca.2 (ex.lr hl) (ex.sr _ _ hs) ?_ (hS.put e2 e3 (hW.2.2.1 a (qz_ok_pos hok hpos).1 (qz_ok_pos hok hpos).2).1)
  refine qz_W_elt hW hok hpos h40 g1 g2 b1 (by rw [he]; exact qz_rgR' v0) ?_ e2 e3
  rw [he, e1]
  have e9 : qz_tv h (10 + k1) v = .ref (qz_ad h v) := by
    rw [← qz_cvr (b := true) (k := k1) (qz_ok_ne hov)]
    unfold qz_tv; rw [if_neg (by omega), if_neg (by omega)]; rfl
  rw [e9]
theorem qz_ifnull {b : Bool} {k0 : Nat} {x off : Int} (ht : (pc : Int) + off = (T : Int)) (hT : qz_ca Y.2.1 T isT) (kt : qz_J Y G isT T ls st h cs sl t1) (kf : qz_J Y G is (pc + 3) ls st h cs sl t2) : qz_J Y G ((.ifnull off, 3) :: is) pc ls (qz_r b k0 x :: st) h cs sl (if x = 0 then t1 else t2) := by
  obtain ⟨p, l, e, s, m, args, below, meth, c, D, dA, B0, hc, h0⟩ := G
  intro r hr hx lsC stC H locs hca hl hs hW hS
  obtain ⟨h1, h2, h3, h4, h5, h6, h7, h8, h9⟩ := id hx
  obtain ⟨r1, q1, v1, hs⟩ := hs
  by_cases hx0 : x = 0
  · subst hx0
    rw [if_pos rfl] at hr
    subst q1
    exact lv_ifnullN h1 h2 hca.1 ht (kt r hr hx lsC _ H locs hT hl hs hW hS)
  · rw [if_neg hx0] at hr
    rw [qz_cvr hx0] at q1
    subst q1
    exact lv_ifnull h1 h2 hca.1 (kf r hr hx lsC _ H locs hca.2 hl hs hW hS)
theorem qz_rf_inj {D : va_G} {dA : Nat → ClassId} {B0 : Nat} {hc h0 : qz_H} {U : State} {H : Heap} {x y : Int} {b b' : Bool} (hW : qz_W D dA B0 hc h0 U h H) (hE : ∀ x y : Int, -(kz_nC : Int) ≤ x → x ≤ -1 → -(kz_nC : Int) ≤ y → y ≤ -1 → hc x (-2) = (kz_kI : Int) → hc y (-2) = (kz_kI : Int) → qz_ad hc x = qz_ad hc y → x = y) (hx : qz_vo h (qz_r b kz_kI x)) (hy : qz_vo h (qz_r b' kz_kI y)) : qz_rf h x = qz_rf h y ↔ x = y := by
  refine ⟨fun e => ?_, fun e => by rw [e]⟩
  unfold qz_rf at e
  by_cases x0 : x = 0
  · by_cases y0 : y = 0
    · omega
    · rw [if_pos x0, if_neg y0] at e; cases e
  · by_cases y0 : y = 0
    · rw [if_neg x0, if_pos y0] at e; cases e
    · rw [if_neg x0, if_neg y0] at e
      have e := Option.some.inj e
      have ox := qz_vot (qz_learn x0 hx)
      have oy := qz_vot (qz_learn y0 hy)
      by_cases xp : 0 < x
      · by_cases hne : y = x
        · exact hne.symm
        · exact absurd e.symm (qz_W_ne hW ox xp oy hne)
      · by_cases yp : 0 < y
        · by_cases hne : x = y
          · exact hne
          · exact absurd e (qz_W_ne hW oy yp ox hne)
        · have w6 := hW.2.2.2.2.2.1
          have cx : -(kz_nC : Int) ≤ x ∧ x ≤ -1 := by rcases ox.1 with q | q; omega; exact q
          have cy : -(kz_nC : Int) ≤ y ∧ y ≤ -1 := by rcases oy.1 with q | q; omega; exact q
          refine hE x y cx.1 cx.2 cy.1 cy.2 (by rw [← w6 x cx.2]; exact ox.2) (by rw [← w6 y cy.2]; exact oy.2) ?_
          unfold qz_ad at e ⊢
          rw [← w6 x cx.2, ← w6 y cy.2]
          exact e
theorem qz_acmp_eq {b b2 : Bool} {x y off : Int} (ht : (pc : Int) + off = (T : Int)) (hT : qz_ca Y.2.1 T isT) (kt : qz_J Y G isT T ls st h cs sl t1) (kf : qz_J Y G is (pc + 3) ls st h cs sl t2) : qz_J Y G ((.if_acmp .eq off, 3) :: is) pc ls (qz_r b2 kz_kI y :: qz_r b kz_kI x :: st) h cs sl (if x = y then t1 else t2) := by
  obtain ⟨p, l, e, s, m, args, below, meth, c, D, dA, B0, hc, h0⟩ := G
  intro r hr hx lsC stC H locs hca hl hs hW hS
  obtain ⟨h1, h2, h3, h4, h5, h6, h7, h8, h9⟩ := id hx
  obtain ⟨r1, rfl, v1, r2, rfl, v2, hs⟩ := hs
  have e := qz_rf_inj hW h9.2.2.2.2.2.1 v2 v1
  refine lv_acmp_eq h1 h2 hca.1 ht (fun q => ?_) (fun q => ?_)
  · rw [if_pos (e.mp q)] at hr
    exact kt r hr hx lsC _ H locs hT hl hs hW hS
  · rw [if_neg (fun z => q (e.mpr z))] at hr
    exact kf r hr hx lsC _ H locs hca.2 hl hs hW hS
theorem qz_acmp_ne {b b2 : Bool} {x y off : Int} (ht : (pc : Int) + off = (T : Int)) (hT : qz_ca Y.2.1 T isT) (kt : qz_J Y G isT T ls st h cs sl t1) (kf : qz_J Y G is (pc + 3) ls st h cs sl t2) : qz_J Y G ((.if_acmp .ne off, 3) :: is) pc ls (qz_r b2 kz_kI y :: qz_r b kz_kI x :: st) h cs sl (if ¬ x = y then t1 else t2) := by
  obtain ⟨p, l, e, s, m, args, below, meth, c, D, dA, B0, hc, h0⟩ := G
  intro r hr hx lsC stC H locs hca hl hs hW hS
  obtain ⟨h1, h2, h3, h4, h5, h6, h7, h8, h9⟩ := id hx
  obtain ⟨r1, rfl, v1, r2, rfl, v2, hs⟩ := hs
  have e := qz_rf_inj hW h9.2.2.2.2.2.1 v2 v1
  refine lv_acmp_ne h1 h2 hca.1 ht (fun q => ?_) (fun q => ?_)
  · rw [if_pos (fun z => q (e.mpr z))] at hr
    exact kt r hr hx lsC _ H locs hT hl hs hW hS
  · rw [if_neg (fun z => z (e.mp q))] at hr
    exact kf r hr hx lsC _ H locs hca.2 hl hs hW hS
theorem qz_gets0 {idx : Nat} {q : String × String × String × Nat × Int} {V : qz_V} (hq : q ∈ kz_st) (hln : Cond.fieldLink Y.1.cls idx q.1 q.2.1 q.2.2.1 ∈ kz_TT ∨ ∃ host, Cond.fieldLinkNest Y.1.cls idx q.1 q.2.1 q.2.2.1 host ∈ kz_NT) (hV : ∀ hc : qz_H, (∀ x : Int, x ≤ -1 → ∀ j : Int, h x j = hc x j) → qz_tv hc q.2.2.2.1 q.2.2.2.2 = qz_cv h V) (hv : ∀ hc : qz_H, (∀ x : Int, x ≤ -1 → ∀ j : Int, h x j = hc x j) → qz_kd hc → qz_vo h V) (hkd : True) (k : qz_J Y G is (pc + 3) ls (V :: st) h cs sl t) : qz_J Y G ((.getstatic idx, 3) :: is) pc ls st h cs sl t := by
  obtain ⟨p, l, e, s, m, args, below, meth, c, D, dA, B0, hc, h0⟩ := G
  intro r hr hx lsC stC H locs hca hl hs hW hS
  obtain ⟨h1, h2, h3, h4, h5, h6, h7, h8, h9⟩ := id hx
  have w6 := hW.2.2.2.2.2.1
  have hZ := h9.2.2.2.1.1 q hq
  rw [hV hc w6] at hZ
  have kk := k r hr hx lsC _ H locs hca.2 hl ⟨_, rfl, hv hc w6 h9.2.2.2.2.2.2, hs⟩ hW hS
  rcases hln with g | ⟨host, g⟩
  · exact va_gets h1 h2 hZ hS h7 (h8 _ (List.mem_cons_of_mem _ g)) (fun _ z => z) hca.1 kk
  · exact va_getsN h1 h2 hZ hS h7 (va_Nw.use rfl (h9.2.2.1.1 _ g)) (fun _ z => z) hca.1 kk
theorem qz_getsR {idx k0 : Nat} {x : Int} {C n d : String} (hq : (C, n, d, 10 + k0, x) ∈ kz_st) (hln : Cond.fieldLink Y.1.cls idx C n d ∈ kz_TT ∨ ∃ host, Cond.fieldLinkNest Y.1.cls idx C n d host ∈ kz_NT) (hx : (decide (-(kz_nC : Int) ≤ x) && decide (x ≤ -1) && (kz_kc x == k0)) = true) (k : qz_J Y G is (pc + 3) ls (qz_r true k0 x :: st) h cs sl t) : qz_J Y G ((.getstatic idx, 3) :: is) pc ls st h cs sl t := by
  simp only [Bool.and_eq_true, decide_eq_true_eq, beq_iff_eq] at hx
  refine qz_gets0 hq hln (fun hc w6 => ?_) (fun hc w6 kd => ?_) trivial k
  · show qz_tv hc (10 + k0) x = va_rf (qz_rf h x)
    unfold qz_tv qz_rf qz_ad
    rw [if_neg (by omega), if_neg (by omega), if_neg (by omega), if_neg (by omega), w6 x hx.1.2]
  · refine Or.inr ⟨Or.inr hx.1, ?_⟩
    rw [w6 x hx.1.2, kd x hx.1.1 hx.1.2, hx.2]
theorem qz_getsI {idx t0 : Nat} {x : Int} {C n d : String} (hq : (C, n, d, t0, x) ∈ kz_st) (hln : Cond.fieldLink Y.1.cls idx C n d ∈ kz_TT ∨ ∃ host, Cond.fieldLinkNest Y.1.cls idx C n d host ∈ kz_NT) (hx : (decide (t0 < 10) && !(t0 == 2) && qz_b32 x) = true) (k : qz_J Y G is (pc + 3) ls (qz_i x :: st) h cs sl t) : qz_J Y G ((.getstatic idx, 3) :: is) pc ls st h cs sl t := by
  simp only [Bool.and_eq_true, decide_eq_true_eq, Bool.not_eq_true', beq_eq_false_iff_ne, ne_eq] at hx
  refine qz_gets0 (V := qz_i x) hq hln (fun hc w6 => ?_) (fun hc w6 kd => qz_b32_ok hx.2) trivial k
  show qz_tv hc t0 x = Value.int (Int32.ofInt x)
  unfold qz_tv
  rw [if_neg hx.1.2, if_pos hx.1.1]
theorem qz_getsO {idx : Nat} {C n d : String} (hq : (C, n, d) ∈ kz_so) (hln : Cond.fieldLink Y.1.cls idx C n d ∈ kz_TT ∨ ∃ host, Cond.fieldLinkNest Y.1.cls idx C n d host ∈ kz_NT) (k : ∀ o, qz_J Y G is (pc + 3) ls (qz_o o :: st) h cs sl t) : qz_J Y G ((.getstatic idx, 3) :: is) pc ls st h cs sl t := by
  obtain ⟨p, l, e, s, m, args, below, meth, c, D, dA, B0, hc, h0⟩ := G
  intro r hr hx lsC stC H locs hca hl hs hW hS
  obtain ⟨h1, h2, h3, h4, h5, h6, h7, h8, h9⟩ := id hx
  obtain ⟨o, hZ⟩ := h9.2.2.2.1.2 _ hq
  have kk := k o r hr hx lsC _ H locs hca.2 hl ⟨_, rfl, trivial, hs⟩ hW hS
  rcases hln with g | ⟨host, g⟩
  · exact va_gets h1 h2 hZ hS h7 (h8 _ (List.mem_cons_of_mem _ g)) (fun _ z => z) hca.1 kk
  · exact va_getsN h1 h2 hZ hS h7 (va_Nw.use rfl (h9.2.2.1.1 _ g)) (fun _ z => z) hca.1 kk
theorem qz_ldcS {idx : Nat} {tx : String} {x : Int} (hq : (Y.1.cls, idx, tx, x) ∈ kz_ss) (hxx : (decide (-(kz_nC : Int) ≤ x) && decide (x ≤ -1) && (kz_kc x == kz_kS)) = true) (k : qz_J Y G is (pc + 2) ls (qz_r true kz_kS x :: st) h cs sl t) : qz_J Y G ((.ldc idx, 2) :: is) pc ls st h cs sl t := by
  obtain ⟨p, l, e, s, m, args, below, meth, c, D, dA, B0, hc, h0⟩ := G
  intro r hr hx lsC stC H locs hca hl hs hW hS
  obtain ⟨h1, h2, h3, h4, h5, h6, h7, h8, h9⟩ := id hx
  simp only [Bool.and_eq_true, decide_eq_true_eq, beq_iff_eq] at hxx
  have w6 := hW.2.2.2.2.2.1
  have hZ := h9.2.2.2.2.1 _ hq
  refine va_ldcS h1 h2 h7 hZ hca.1 ?_
  refine k r hr hx lsC _ H locs hca.2 hl ⟨_, ?_, Or.inr ⟨Or.inr hxx.1, ?_⟩, hs⟩ hW hS
  · rw [qz_cvr (by omega)]
    unfold qz_ad
    rw [w6 x hxx.1.2]
  · rw [w6 x hxx.1.2, h9.2.2.2.2.2.2 x hxx.1.1 hxx.1.2, hxx.2]
theorem qz_objI {idx k0 : Nat} {x : Int} (hw : Cond.methodLink Y.1.cls idx Lib.objectInit ∈ kz_TT ∧ Cond.instanceMethod Lib.objectInit ∈ kz_TT ∧ Cond.code Lib.objectInit ⟨#[0xb1]⟩ 1 none ∈ kz_TT) (hrm : (decide (1 ≤ Y.2.2.2.2.2.frames) && decide (20 ≤ Y.2.2.2.2.2.locals) && (qz_sz st).ble 8) = true) (k : qz_J Y G is (pc + 3) ls st h cs sl t) : qz_J Y G ((.invokespecial idx, 3) :: is) pc ls (qz_r true k0 x :: st) h cs sl t := by
  obtain ⟨p, l, e, s, m, args, below, meth, c, D, dA, B0, hc, h0⟩ := G
  intro r hr hx lsC stC H locs hca hl hs hW hS
  obtain ⟨h1, h2, h3, h4, h5, h6, h7, h8, h9⟩ := id hx
  obtain ⟨r1, q1, v1, hs⟩ := hs
  have hok := qz_vot v1
  rw [qz_cvr (qz_ok_ne hok)] at q1
  subst q1
  simp only [Bool.and_eq_true, decide_eq_true_eq] at hrm
  have hts : ∀ w ∈ kz_TT, w.before args s = true := fun w hw => h8 w (List.mem_cons_of_mem _ hw)
  have hroom : 2 * (F0 m pc lsC ([] : List Value)).monitorRoom + (r1.map fun v => v.category).sum ≤ 8 := lv_room (Nat.le_trans (qz_sz_ok _ _ hs) (Nat.le_of_ble_eq_true hrm.2))
  have hroom : 2 * (F0 m pc lsC (.ref (qz_ad h x) :: r1)).monitorRoom + (r1.map fun v => v.category).sum ≤ 8 := hroom
  have hsize : lsC.size = c.maxLocals := by obtain ⟨lv, g1, -⟩ := hl; rw [h3]; exact g1.1
  refine W.objInit h1 h2 h7 (hts _ hw.1) (hts _ hw.2.1) (hts _ hw.2.2) rfl hsize rfl hca.1 hrm.1.1 (by omega) ?_
  exact k r hr hx lsC _ H locs hca.2 hl hs hW hS
def qz_fg : List Nat → List qz_V → List qz_V
  | [], ls => ls.map fun _ => qz_u
  | _ :: _, [] => []
  | n :: ns, v :: ls => (if n = 0 then qz_u else if n = 1 then v else match v with
      | .inr (.inr (.inl q)) => .inr (.inr (.inl (false, q.2)))
      | v => v) :: qz_fg ns ls
theorem qz_fg_at {h : qz_H} {P : Nat → Value → Prop} : ∀ (ns : List Nat) (ls : List qz_V) (d : Nat), (∀ (i : Nat) (v : qz_V), ls[i]? = some v → v = qz_u ∨ (qz_vo h v ∧ P (d + i) (qz_cv h v))) → ∀ (i : Nat) (v : qz_V), (qz_fg ns ls)[i]? = some v → v = qz_u ∨ (qz_vo h v ∧ P (d + i) (qz_cv h v))
  | [], ls, d, hl, i, v, hi => by
    simp only [qz_fg, List.getElem?_map] at hi
    cases hq : ls[i]? with
    | none => rw [hq] at hi; cases hi
    | some w => rw [hq] at hi; cases hi; exact Or.inl rfl
  | n :: ns, [], d, hl, i, v, hi => by simp [qz_fg] at hi
  | n :: ns, w :: ls, d, hl, 0, v, hi => by
    simp only [qz_fg, List.getElem?_cons_zero, Option.some.injEq] at hi
    have h0 := hl 0 w rfl
    split at hi
    · exact Or.inl hi.symm
    · split at hi
      · rw [← hi]; exact h0
      · rcases w with x | x | ⟨b, k, x⟩ | q
        · rw [← hi]; exact h0
        · rw [← hi]; exact h0
        · rcases h0 with h0 | ⟨h0, h1⟩
          · cases h0
          · refine Or.inr ?_
            rw [← hi]
            refine ⟨?_, h1⟩
            rcases h0 with ⟨_, z⟩ | z
            · exact Or.inl ⟨rfl, z⟩
            · exact Or.inr z
        · rw [← hi]; exact h0
  | n :: ns, w :: ls, d, hl, i + 1, v, hi => by
    simp only [qz_fg, List.getElem?_cons_succ] at hi
    have ih := qz_fg_at (h := h) (P := P) ns ls (d + 1) (fun j u hj => by
      have := hl (j + 1) u (by simpa using hj)
      rwa [show d + 1 + j = d + (j + 1) by omega]) i v hi
    rwa [show d + (i + 1) = d + 1 + i by omega]
theorem qz_fgt (ns : List Nat) (k : qz_J Y G is pc (qz_fg ns ls) st h cs sl t) : qz_J Y G is pc ls st h cs sl t := by
  obtain ⟨p, l, e, s, m, args, below, meth, c, D, dA, B0, hc, h0⟩ := G
  intro r hr hx lsC stC H locs hca hl hs hW hS
  obtain ⟨h1, h2, h3, h4, h5, h6, h7, h8, h9⟩ := id hx
  obtain ⟨lv, g1, g2⟩ := hl
  refine k r hr hx lsC stC H locs hca ⟨lv, g1, fun i v hi => ?_⟩ hs hW hS
  have := qz_fg_at (h := h) (P := fun i w => (i, w) ∈ lv) ns ls 0 (fun i v hi => by rw [Nat.zero_add]; exact g2 i v hi) i v hi
  rwa [Nat.zero_add] at this
theorem qz_wk {k0 : Nat} {b : Bool} {x : Int} (k : qz_J Y G is pc ls (qz_r false k0 x :: st) h cs sl t) : qz_J Y G is pc ls (qz_r b k0 x :: st) h cs sl t := by
  obtain ⟨p, l, e, s, m, args, below, meth, c, D, dA, B0, hc, h0⟩ := G
  intro r hr hx lsC stC H locs hca hl hs hW hS
  obtain ⟨h1, h2, h3, h4, h5, h6, h7, h8, h9⟩ := id hx
  obtain ⟨r1, q1, v1, hs⟩ := hs
  refine k r hr hx lsC stC H locs hca hl ⟨r1, q1, ?_, hs⟩ hW hS
  rcases v1 with ⟨-, z⟩ | z
  · exact Or.inl ⟨rfl, z⟩
  · exact Or.inr z
def qz_en (vs : List qz_V) (n : Nat) : List qz_V := (vs.flatMap fun v => if qz_lg v = true then [v, qz_u] else [v]) ++ List.replicate (n - (vs.flatMap fun v => if qz_lg v = true then [v, qz_u] else [v]).length) qz_u
theorem qz_en_at {h : qz_H} : ∀ (vs : List qz_V) (d i : Nat) (v : qz_V), (∀ v ∈ vs, qz_vo h v) → (vs.flatMap fun v => if qz_lg v = true then [v, qz_u] else [v])[i]? = some v → v = qz_u ∨ (qz_vo h v ∧ (d + i, qz_cv h v) ∈ lv_args d (vs.map (qz_cv h)))
  | [], d, i, v, _, hi => by simp at hi
  | w :: vs, d, i, v, hv, hi => by
    rw [List.flatMap_cons] at hi
    by_cases hw : qz_lg w = true
    · rw [if_pos hw] at hi
      have hc : (qz_cv h w).category = 2 := by
        rcases w with x | x | q | q
        · cases hw
        · rfl
        · cases hw
        · cases hw
      match i, hi with
      | 0, hi =>
        have : w = v := by simpa using hi
        subst this
        exact Or.inr ⟨hv _ List.mem_cons_self, List.mem_cons_self⟩
      | 1, hi =>
        have : qz_u = v := by simpa using hi
        exact Or.inl this.symm
      | i + 2, hi =>
        have ih := qz_en_at vs (d + 2) i v (fun v hv' => hv v (List.mem_cons_of_mem _ hv')) (by simpa using hi)
        rcases ih with ih | ⟨ih1, ih2⟩
        · exact Or.inl ih
        · refine Or.inr ⟨ih1, ?_⟩
          show _ ∈ (d, qz_cv h w) :: lv_args (if (qz_cv h w).category = 2 then d + 2 else d + 1) (vs.map (qz_cv h))
          rw [if_pos hc, show d + (i + 2) = d + 2 + i by omega]
          exact List.mem_cons_of_mem _ ih2
    · rw [if_neg hw] at hi
      have hc : ¬ (qz_cv h w).category = 2 := qz_catL h (by simpa using hw)
      match i, hi with
      | 0, hi =>
        have : w = v := by simpa using hi
        subst this
        exact Or.inr ⟨hv _ List.mem_cons_self, List.mem_cons_self⟩
      | i + 1, hi =>
        have ih := qz_en_at vs (d + 1) i v (fun v hv' => hv v (List.mem_cons_of_mem _ hv')) (by simpa using hi)
        rcases ih with ih | ⟨ih1, ih2⟩
        · exact Or.inl ih
        · refine Or.inr ⟨ih1, ?_⟩
          show _ ∈ (d, qz_cv h w) :: lv_args (if (qz_cv h w).category = 2 then d + 2 else d + 1) (vs.map (qz_cv h))
          rw [if_neg hc, show d + (i + 1) = d + 1 + i by omega]
          exact List.mem_cons_of_mem _ ih2
theorem qz_sl_len {h : qz_H} : ∀ vs : List qz_V, (lg_sl (vs.map (qz_cv h))).length = (vs.flatMap fun v => if qz_lg v = true then [v, qz_u] else [v]).length
  | [] => rfl
  | w :: vs => by
    have ih := qz_sl_len (h := h) vs
    unfold lg_sl at ih ⊢
    rw [List.map_cons, List.flatMap_cons, List.flatMap_cons, List.length_append, List.length_append, ih]
    congr 1
    by_cases hw : qz_lg w = true
    · rw [if_pos hw]
      have hc : (qz_cv h w).category = 2 := by
        rcases w with x | x | q | q
        · cases hw
        · rfl
        · cases hw
        · cases hw
      rw [if_pos hc]; rfl
    · rw [if_neg hw, if_neg (qz_catL h (by simpa using hw))]; rfl
theorem qz_con {vs ls : List qz_V} (hpn : plainName Y.1.cls = true) (hca : qz_ca Y.2.1 0 is) (hls : qz_en vs Y.2.2.1 = ls) (hlen : decide ((vs.flatMap fun v => if qz_lg v = true then [v, qz_u] else [v]).length ≤ Y.2.2.1) = true) (k : ∀ G, qz_J Y G is 0 ls [] h 0 0 t) : qz_C Y vs h t := by
  intro r hr l D dA B0 hc
  refine Met.ofW (cc := Y.2.1) (maxL := Y.2.2.1) (ret := Y.2.2.2.1) hpn rfl ?_
  intro p e s m args below meth c s₁ B hml hv
  obtain ⟨rfl, v1, w1, e1⟩ := hv
  have hlen : (vs.flatMap fun v => if qz_lg v = true then [v, qz_u] else [v]).length ≤ Y.2.2.1 := by simpa using hlen
  have hl := lv_entry (vs.map (qz_cv h)) (n := Y.2.2.1) (by rw [qz_sl_len]; exact hlen)
  rw [lg_entry_eq]
  refine k (p, l, e, s, m, (vs.map (qz_cv h)).toArray, below, meth, c, D, dA, B0, hc, h) r hr ⟨B.exec, B.bytes, hml, B.returns, B.notSynchronized, (name_of_methodNamed B.named B.method).1, findClass_of_methodNamed B.named, atoms_spec (ws := qz_ws Y) B.pre, e1⟩ _ [] s.heap [] hca ⟨_, hl, fun i v hi => ?_⟩ rfl w1 va_S.rf
  subst hls
  unfold qz_en at hi
  by_cases hil : i < (vs.flatMap fun v => if qz_lg v = true then [v, qz_u] else [v]).length
  · rw [List.getElem?_append_left hil] at hi
    have := qz_en_at (h := h) vs 0 i v v1 hi
    rwa [Nat.zero_add] at this
  · rw [List.getElem?_append_right (by omega)] at hi
    exact Or.inl (List.eq_of_mem_replicate (List.mem_of_getElem? hi))
end QE
end
section
def qz_NF : Nat := 4000
section QF
variable {Y : qz_Y} {G : qz_G} {is isT : List (Instr × Nat)} {pc T : Nat} {ls st : List qz_V} {h : qz_H} {cs sl : Nat} {t t1 t2 : Option qz_R}
theorem qz_none : qz_J Y G is pc ls st h cs sl none := by
  obtain ⟨p, l, e, s, m, args, below, meth, c, D, dA, B0, hc, h0⟩ := G
  intro r hr
  cases hr
theorem qz_eqt {t' : Option qz_R} (he : t' = t) (k : qz_J Y G is pc ls st h cs sl t') : qz_J Y G is pc ls st h cs sl t := he ▸ k
theorem qz_nl (ls' : List qz_V) (he : ls = ls') (k : qz_J Y G is pc ls' st h cs sl t) : qz_J Y G is pc ls st h cs sl t := he ▸ k
def qz_fn : Nat → List qz_V → List qz_V
  | _, [] => []
  | 0, v :: r => (match v with
      | .inr (.inr (.inl q)) => .inr (.inr (.inl (true, q.2)))
      | v => v) :: r
  | d + 1, v :: r => v :: qz_fn d r
theorem qz_fn_sr {b : Bool} {k0 : Nat} {x : Int} (hx : x ≠ 0) : ∀ (d : Nat) (st : List qz_V) (s : List Value), st[d]? = some (qz_r b k0 x) → qz_sr h st s → qz_sr h (qz_fn d st) s
  | d, [], s, hd, hs => by simp at hd
  | 0, v :: st, s, hd, hs => by
    have hd : v = qz_r b k0 x := by simpa using hd
    subst hd
    obtain ⟨r, g1, g2, g3⟩ := hs
    exact ⟨r, g1, qz_learn hx g2, g3⟩
  | d + 1, v :: st, s, hd, hs => by
    obtain ⟨r, g1, g2, g3⟩ := hs
    exact ⟨r, g1, g2, qz_fn_sr hx d st r (by simpa using hd) g3⟩
theorem qz_nnd (d : Nat) {b : Bool} {k0 : Nat} {x : Int} (hd : st[d]? = some (qz_r b k0 x)) (k : qz_J Y G is pc ls (qz_fn d st) h cs sl t) : qz_J Y G is pc ls st h cs sl (qz_ck (x ≠ 0) t) := by
  obtain ⟨p, l, e, s, m, args, below, meth, c, D, dA, B0, hc, h0⟩ := G
  intro r hr hx lsC stC H locs hca hl hs hW hS
  obtain ⟨h1, h2, h3, h4, h5, h6, h7, h8, h9⟩ := id hx
  obtain ⟨g1, g2⟩ := qz_ck_some hr
  exact k r g2 hx lsC stC H locs hca hl (qz_fn_sr g1 d st stC hd hs) hW hS
def qz_fs : List Nat → List qz_V → List qz_V
  | [], st => st
  | _ :: _, [] => []
  | n :: ns, v :: st => (if n = 2 then (match v with
      | .inr (.inr (.inl q)) => .inr (.inr (.inl (false, q.2)))
      | v => v) else v) :: qz_fs ns st
theorem qz_fs_sr : ∀ (ns : List Nat) (st : List qz_V) (s : List Value), qz_sr h st s → qz_sr h (qz_fs ns st) s
  | [], st, s, hs => hs
  | n :: ns, [], s, hs => hs
  | n :: ns, v :: st, s, hs => by
    obtain ⟨r, g1, g2, g3⟩ := hs
    have ih := qz_fs_sr ns st r g3
    show qz_sr h ((if n = 2 then _ else v) :: qz_fs ns st) s
    split
    · rcases v with x | x | ⟨b, k, x⟩ | q
      · exact ⟨r, g1, g2, ih⟩
      · exact ⟨r, g1, g2, ih⟩
      · refine ⟨r, g1, ?_, ih⟩
        rcases g2 with ⟨-, z⟩ | z
        · exact Or.inl ⟨rfl, z⟩
        · exact Or.inr z
      · exact ⟨r, g1, g2, ih⟩
    · exact ⟨r, g1, g2, ih⟩
theorem qz_wkS (ns : List Nat) (k : qz_J Y G is pc ls (qz_fs ns st) h cs sl t) : qz_J Y G is pc ls st h cs sl t := by
  obtain ⟨p, l, e, s, m, args, below, meth, c, D, dA, B0, hc, h0⟩ := G
  intro r hr hx lsC stC H locs hca hl hs hW hS
  obtain ⟨h1, h2, h3, h4, h5, h6, h7, h8, h9⟩ := id hx
  exact k r hr hx lsC stC H locs hca hl (qz_fs_sr ns st stC hs) hW hS
/-- the same instructions where a number is known: no name is given -/
theorem qz_istore_nC {q : Fin 4} {a : Int} (hn : (q : Nat) < Y.2.2.1) (k : qz_J Y G is (pc + 1) (qz_st (q : Nat) (qz_i a) ls) st h cs sl t) : qz_J Y G ((.istore_n q, 1) :: is) pc ls (qz_i a :: st) h cs sl t := qz_istore_n (f := fun x => if x = a then t else none) hn (fun x => by
    by_cases hx : x = a
    · subst hx; rw [if_pos rfl]; exact k
    · rw [if_neg hx]; exact qz_none) |> qz_eqt (by show (if a = a then t else none) = t; rw [if_pos rfl])
theorem qz_istoreC {i : Nat} {a : Int} (hn : i < Y.2.2.1) (k : qz_J Y G is (pc + 2) (qz_st i (qz_i a) ls) st h cs sl t) : qz_J Y G ((.istore i, 2) :: is) pc ls (qz_i a :: st) h cs sl t := qz_istore (f := fun x => if x = a then t else none) hn (fun x => by
    by_cases hx : x = a
    · subst hx; rw [if_pos rfl]; exact k
    · rw [if_neg hx]; exact qz_none) |> qz_eqt (by show (if a = a then t else none) = t; rw [if_pos rfl])
def qz_max (x y : Int) : Int := if x < y then y else x
def qz_min (x y : Int) : Int := if y < x then y else x
def qz_absJ (x : Int) : Int := if 0 < x then x else qz_x (-x)
theorem qz_mmax {idx : Nat} {x y : Int} (hw : Cond.methodLink Y.1.cls idx Lib.Math.max.name ∈ kz_TT ∧ Cond.static Lib.Math.max.name ∈ kz_TT ∧ Cond.initialized "java/lang/Math" ∈ kz_TT ∧ Cond.code Lib.Math.max.name Lib.Math.max.code 2 (some .int) ∈ kz_TT) (hrm : (decide (1 ≤ Y.2.2.2.2.2.frames) && decide (21 ≤ Y.2.2.2.2.2.locals) && (qz_sz st).ble 8 && qz_le Y cs sl) = true) (k : qz_J Y G is (pc + 3) ls (qz_i (qz_max x y) :: st) h cs sl t) : qz_J Y G ((.invokestatic idx, 3) :: is) pc ls (qz_i y :: qz_i x :: st) h cs sl t := by
  obtain ⟨p, l, e, s, m, args, below, meth, c, D, dA, B0, hc, h0⟩ := G
  intro r hr hx lsC stC H locs hca hl hs hW hS
  obtain ⟨h1, h2, h3, h4, h5, h6, h7, h8, h9⟩ := id hx
  obtain ⟨r1, rfl, hy, r2, rfl, hx', hs⟩ := hs
  simp only [Bool.and_eq_true, decide_eq_true_eq] at hrm
  obtain ⟨⟨⟨m1, m2⟩, m3⟩, m4⟩ := hrm
  have hts : ∀ w ∈ kz_TT, w.before args s = true := fun w hw => h8 w (List.mem_cons_of_mem _ hw)
  have hsum := Nat.le_trans (qz_sz_ok _ _ hs) (Nat.le_of_ble_eq_true m3)
  have hsize : c.maxLocals = lsC.size := by obtain ⟨lv, g1, -⟩ := hl; rw [h3]; exact g1.1.symm
  refine va_mmax h1 h2 hsize h7 (hts _ hw.1) (hts _ hw.2.1) (hts _ hw.2.2.1) (hts _ hw.2.2.2) m1 (by omega) (qz_le_ok m4).1 (qz_le_ok m4).2 hca.1 ?_
  refine k r hr hx lsC _ H locs hca.2 hl ⟨r2, ?_, ?_, hs⟩ hW hS
  · show Value.int _ :: r2 = Value.int (Int32.ofInt (qz_max x y)) :: r2
    unfold qz_max
    by_cases hc : x < y
    · rw [if_pos hc, if_pos ((qz_l32 hx' hy).mpr hc)]
    · rw [if_neg hc, if_neg (fun z => hc ((qz_l32 hx' hy).mp z))]
  · show qz_32 (qz_max x y)
    unfold qz_max
    split
    · exact hy
    · exact hx'
theorem qz_mmin {idx : Nat} {x y : Int} (hw : Cond.methodLink Y.1.cls idx Lib.Math.min.name ∈ kz_TT ∧ Cond.static Lib.Math.min.name ∈ kz_TT ∧ Cond.initialized "java/lang/Math" ∈ kz_TT ∧ Cond.code Lib.Math.min.name Lib.Math.min.code 2 (some .int) ∈ kz_TT) (hrm : (decide (1 ≤ Y.2.2.2.2.2.frames) && decide (21 ≤ Y.2.2.2.2.2.locals) && (qz_sz st).ble 8 && qz_le Y cs sl) = true) (k : qz_J Y G is (pc + 3) ls (qz_i (qz_min x y) :: st) h cs sl t) : qz_J Y G ((.invokestatic idx, 3) :: is) pc ls (qz_i y :: qz_i x :: st) h cs sl t := by
  obtain ⟨p, l, e, s, m, args, below, meth, c, D, dA, B0, hc, h0⟩ := G
  intro r hr hx lsC stC H locs hca hl hs hW hS
  obtain ⟨h1, h2, h3, h4, h5, h6, h7, h8, h9⟩ := id hx
  obtain ⟨r1, rfl, hy, r2, rfl, hx', hs⟩ := hs
  simp only [Bool.and_eq_true, decide_eq_true_eq] at hrm
  obtain ⟨⟨⟨m1, m2⟩, m3⟩, m4⟩ := hrm
  have hts : ∀ w ∈ kz_TT, w.before args s = true := fun w hw => h8 w (List.mem_cons_of_mem _ hw)
  have hsum := Nat.le_trans (qz_sz_ok _ _ hs) (Nat.le_of_ble_eq_true m3)
  have hsize : c.maxLocals = lsC.size := by obtain ⟨lv, g1, -⟩ := hl; rw [h3]; exact g1.1.symm
  refine va_mmin h1 h2 hsize h7 (hts _ hw.1) (hts _ hw.2.1) (hts _ hw.2.2.1) (hts _ hw.2.2.2) m1 (by omega) (qz_le_ok m4).1 (qz_le_ok m4).2 hca.1 ?_
  refine k r hr hx lsC _ H locs hca.2 hl ⟨r2, ?_, ?_, hs⟩ hW hS
  · show Value.int _ :: r2 = Value.int (Int32.ofInt (qz_min x y)) :: r2
    unfold qz_min
    by_cases hc : y < x
    · rw [if_pos hc, if_pos ((qz_l32 hy hx').mpr hc)]
    · rw [if_neg hc, if_neg (fun z => hc ((qz_l32 hy hx').mp z))]
  · show qz_32 (qz_min x y)
    unfold qz_min
    split
    · exact hy
    · exact hx'
theorem qz_mabsJ {idx : Nat} {x : Int} (hw : Cond.methodLink Y.1.cls idx Lib.MathLoose.abs_long.x ∈ kz_TT ∧ Cond.static Lib.MathLoose.abs_long.x ∈ kz_TT ∧ Cond.initialized "java/lang/Math" ∈ kz_TT ∧ Cond.code Lib.MathLoose.abs_long.x Lib.MathLoose.abs_long.code 2 (some .long) ∈ kz_TT) (hrm : (decide (1 ≤ Y.2.2.2.2.2.frames) && decide (21 ≤ Y.2.2.2.2.2.locals) && (qz_sz st).ble 8 && qz_le Y cs sl) = true) (k : qz_J Y G is (pc + 3) ls (qz_j (qz_absJ x) :: st) h cs sl t) : qz_J Y G ((.invokestatic idx, 3) :: is) pc ls (qz_j x :: st) h cs sl t := by
  obtain ⟨p, l, e, s, m, args, below, meth, c, D, dA, B0, hc, h0⟩ := G
  intro r hr hx lsC stC H locs hca hl hs hW hS
  obtain ⟨h1, h2, h3, h4, h5, h6, h7, h8, h9⟩ := id hx
  obtain ⟨r2, rfl, hx', hs⟩ := hs
  simp only [Bool.and_eq_true, decide_eq_true_eq] at hrm
  obtain ⟨⟨⟨m1, m2⟩, m3⟩, m4⟩ := hrm
  have hts : ∀ w ∈ kz_TT, w.before args s = true := fun w hw => h8 w (List.mem_cons_of_mem _ hw)
  have hsum := Nat.le_trans (qz_sz_ok _ _ hs) (Nat.le_of_ble_eq_true m3)
  have hsize : c.maxLocals = lsC.size := by obtain ⟨lv, g1, -⟩ := hl; rw [h3]; exact g1.1.symm
  have hx2 : qz_64 x := hx'
  have h064 : qz_64 0 := ⟨by decide, by decide⟩
  have e0 : (0 : Int64) < Int64.ofInt x ↔ 0 < x := by rw [show (0 : Int64) = Int64.ofInt 0 from by decide, Int64.lt_iff_toInt_lt, qz_t64 h064, qz_t64 hx2]
  refine va_mabs_long h1 h2 hsize h7 (hts _ hw.1) (hts _ hw.2.1) (hts _ hw.2.2.1) (hts _ hw.2.2.2) m1 (by omega) (qz_le_ok m4).1 (qz_le_ok m4).2 hca.1 ?_
  refine k r hr hx lsC _ H locs hca.2 hl ⟨r2, ?_, ?_, hs⟩ hW hS
  · show Value.long _ :: r2 = Value.long (Int64.ofInt (qz_absJ x)) :: r2
    unfold qz_absJ
    by_cases hc : 0 < x
    · rw [if_pos hc, if_pos (e0.mpr hc)]
    · rw [if_neg hc, if_neg (fun z => hc (e0.mp z))]
      simp only [qz_x, Int64.ofInt_toInt, Int64.ofInt_neg]
  · show qz_64 (qz_absJ x)
    unfold qz_absJ
    split
    · exact hx2
    · exact qz_r64 _
theorem qz_astore_nC {q : Fin 4} {b : Bool} {k0 : Nat} {a : Int} (hn : (q : Nat) < Y.2.2.1) (k : qz_J Y G is (pc + 1) (qz_st (q : Nat) (qz_r b k0 a) ls) st h cs sl t) : qz_J Y G ((.astore_n q, 1) :: is) pc ls (qz_r b k0 a :: st) h cs sl t := qz_astore_n (f := fun x => if x = a then t else none) hn (fun x => by
    by_cases hx : x = a
    · subst hx; rw [if_pos rfl]; exact k
    · rw [if_neg hx]; exact qz_none) |> qz_eqt (by show (if a = a then t else none) = t; rw [if_pos rfl])
theorem qz_iincC {i : Nat} {n x y : Int} (hi : ls[i]? = some (qz_i x)) (hn : i < Y.2.2.1) (hy : qz_w (x + n) = y) (k : qz_J Y G is (pc + 3) (qz_st i (qz_i y) ls) st h cs sl t) : qz_J Y G ((.iinc i n, 3) :: is) pc ls st h cs sl t := qz_iinc (n := n) (f := fun z => if z = y then t else none) hi hn (fun z => by
    by_cases hx : z = y
    · subst hx; rw [if_pos rfl]; exact k
    · rw [if_neg hx]; exact qz_none) |> qz_eqt (by show (if qz_w (x + n) = y then t else none) = t; rw [if_pos hy])
/-- switches -/
def qz_swt (x : Int) : List (Int × Option qz_R) → Option qz_R → Option qz_R
  | [], d => d
  | q :: E, d => if x = q.1 then q.2 else qz_swt x E d
def qz_swJ (Y : qz_Y) (G : qz_G) (ls st : List qz_V) (h : qz_H) (cs sl : Nat) : List (Int × Nat × List (Instr × Nat)) → List (Int × Option qz_R) → Prop
  | q :: L, e :: E => qz_ca Y.2.1 q.2.1 q.2.2 ∧ qz_J Y G q.2.2 q.2.1 ls st h cs sl e.2 ∧ qz_swJ Y G ls st h cs sl L E
  | [], [] => True
  | _, _ => False
def qz_kz : Int → List (Int × Nat × List (Instr × Nat)) → List (Int × Option qz_R) → Bool
  | lo, q :: L, e :: E => q.1 == lo && (e.1 == lo && qz_kz (lo + 1) L E)
  | _, [], [] => true
  | _, _, _ => false
theorem qz_sw_at : ∀ (L : List (Int × Nat × List (Instr × Nat))) (E : List (Int × Option qz_R)) (lo x : Int) (d : Option qz_R), qz_swJ Y G ls st h cs sl L E → qz_kz lo L E = true → (lo ≤ x ∧ x < lo + L.length → ∃ (q : Int × Nat × List (Instr × Nat)) (e : Option qz_R), L[(x - lo).toNat]? = some q ∧ qz_ca Y.2.1 q.2.1 q.2.2 ∧ qz_J Y G q.2.2 q.2.1 ls st h cs sl e ∧ qz_swt x E d = e) ∧ (¬ (lo ≤ x ∧ x < lo + L.length) → qz_swt x E d = d)
  | [], [], lo, x, d, _, _ => ⟨fun hx => by simp at hx; omega, fun _ => rfl⟩
  | [], _ :: _, lo, x, d, hJ, _ => hJ.elim
  | _ :: _, [], lo, x, d, hJ, _ => hJ.elim
  | q :: L, e :: E, lo, x, d, hJ, hk => by
    obtain ⟨j1, j2, j3⟩ := hJ
    simp only [qz_kz, Bool.and_eq_true, beq_iff_eq] at hk
    obtain ⟨k1, k2, k3⟩ := hk
    obtain ⟨a1, a2⟩ := qz_sw_at L E (lo + 1) x d j3 k3
    have hstep : qz_swt x (e :: E) d = if x = e.1 then e.2 else qz_swt x E d := rfl
    rw [hstep, k2]
    simp only [List.length_cons]
    by_cases hxl : x = lo
    · subst hxl
      refine ⟨fun _ => ⟨q, e.2, by simp, j1, j2, if_pos rfl⟩, fun hn => absurd ⟨Int.le_refl _, by omega⟩ hn⟩
    · rw [if_neg hxl]
      refine ⟨fun hx => ?_, fun hn => a2 (fun z => hn ⟨by omega, by omega⟩)⟩
      obtain ⟨q', e', b1, b2, b3, b4⟩ := a1 ⟨by omega, by omega⟩
      refine ⟨q', e', ?_, b2, b3, b4⟩
      have : (x - lo).toNat = (x - (lo + 1)).toNat + 1 := by omega
      rw [this, List.getElem?_cons_succ]
      exact b1
theorem qz_tsw {dflt lo hi : Int} {offs : Array Int} {len : Nat} {x : Int} {E : List (Int × Option qz_R)} (L : List (Int × Nat × List (Instr × Nat))) (hT : qz_ca Y.2.1 T isT) (ho : offs.toList = L.map (fun q => (q.2.1 : Int) - (pc : Int))) (hk : qz_kz lo L E = true) (hd : (decide ((pc : Int) + dflt = (T : Int)) && decide (hi + 1 = lo + L.length)) = true) (hJ : qz_swJ Y G ls st h cs sl L E) (kd : qz_J Y G isT T ls st h cs sl t) : qz_J Y G ((.tableswitch dflt lo hi offs, len) :: is) pc ls (qz_i x :: st) h cs sl (qz_swt x E t) := by
  have key := qz_sw_at L E lo x t hJ hk
  obtain ⟨p, l, e, s, m, args, below, meth, c, D, dA, B0, hc, h0⟩ := G
  intro r hr hx lsC stC H locs hca hl hs hW hS
  obtain ⟨h1, h2, h3, h4, h5, h6, h7, h8, h9⟩ := id hx
  obtain ⟨r1, rfl, v1, hs⟩ := hs
  simp only [Bool.and_eq_true, decide_eq_true_eq] at hd
  have e32 : (Int32.ofInt x).toInt = x := qz_t32 v1
  by_cases hin : lo ≤ x ∧ x < lo + L.length
  · obtain ⟨q, e', b1, b2, b3, b4⟩ := key.1 hin
    rw [b4] at hr
    refine lv_tableIn h1 h2 hca.1 (by rw [e32]; omega) (by rw [e32]; omega) (off := (q.2.1 : Int) - pc) (tgt := q.2.1) ?_ (by omega) ?_
    · rw [e32, ← Array.getElem?_toList, ho, List.getElem?_map, b1]; rfl
    · exact b3 r hr hx lsC _ H locs b2 hl hs hW hS
  · rw [key.2 hin] at hr
    refine lv_tableOut h1 h2 hca.1 (by rw [e32]; omega) hd.1 ?_
    exact kd r hr hx lsC _ H locs hT hl hs hW hS
def qz_kl : List (Int × Nat × List (Instr × Nat)) → List (Int × Option qz_R) → Bool
  | q :: L, e :: E => q.1 == e.1 && qz_kl L E
  | [], [] => true
  | _, _ => false
theorem qz_lw_at {pc : Nat} {dflt : Int} : ∀ (L : List (Int × Nat × List (Instr × Nat))) (E : List (Int × Option qz_R)) (x : Int) (d : Option qz_R), qz_swJ Y G ls st h cs sl L E → qz_kl L E = true → (∃ (q : Int × Nat × List (Instr × Nat)) (e : Option qz_R), Op.lookupswitch.offset (L.map (fun q => (q.1, (q.2.1 : Int) - (pc : Int)))) dflt x = (q.2.1 : Int) - pc ∧ qz_ca Y.2.1 q.2.1 q.2.2 ∧ qz_J Y G q.2.2 q.2.1 ls st h cs sl e ∧ qz_swt x E d = e) ∨ (Op.lookupswitch.offset (L.map (fun q => (q.1, (q.2.1 : Int) - (pc : Int)))) dflt x = dflt ∧ qz_swt x E d = d)
  | [], [], x, d, _, _ => Or.inr ⟨rfl, rfl⟩
  | [], _ :: _, x, d, hJ, _ => hJ.elim
  | _ :: _, [], x, d, hJ, _ => hJ.elim
  | q :: L, e :: E, x, d, hJ, hk => by
    obtain ⟨j1, j2, j3⟩ := hJ
    simp only [qz_kl, Bool.and_eq_true, beq_iff_eq] at hk
    have hstep : qz_swt x (e :: E) d = if x = e.1 then e.2 else qz_swt x E d := rfl
    rw [hstep, ← hk.1, List.map_cons]
    by_cases hxl : x = q.1
    · rw [if_pos hxl]
      refine Or.inl ⟨q, e.2, ?_, j1, j2, rfl⟩
      subst hxl
      simp [Op.lookupswitch.offset]
    · rw [if_neg hxl]
      have hof : Op.lookupswitch.offset ((q.1, (q.2.1 : Int) - (pc : Int)) :: L.map (fun q => (q.1, (q.2.1 : Int) - (pc : Int)))) dflt x = Op.lookupswitch.offset (L.map (fun q => (q.1, (q.2.1 : Int) - (pc : Int)))) dflt x := by
        simp [Op.lookupswitch.offset, Ne.symm hxl, hxl]
      rw [hof]
      exact qz_lw_at L E x d j3 hk.2
theorem qz_lsw {dflt : Int} {ps : Array (Int × Int)} {len : Nat} {x : Int} {E : List (Int × Option qz_R)} (L : List (Int × Nat × List (Instr × Nat))) (hT : qz_ca Y.2.1 T isT) (ho : ps.toList = L.map (fun q => (q.1, (q.2.1 : Int) - (pc : Int)))) (hk : qz_kl L E = true) (hd : (decide ((pc : Int) + dflt = (T : Int)) && (ps.toList.zip (ps.toList.drop 1)).all (fun (a, next) => a.1 < next.1)) = true) (hJ : qz_swJ Y G ls st h cs sl L E) (kd : qz_J Y G isT T ls st h cs sl t) : qz_J Y G ((.lookupswitch dflt ps, len) :: is) pc ls (qz_i x :: st) h cs sl (qz_swt x E t) := by
  have key := qz_lw_at (pc := pc) (dflt := dflt) L E x t hJ hk
  obtain ⟨p, l, e, s, m, args, below, meth, c, D, dA, B0, hc, h0⟩ := G
  intro r hr hx lsC stC H locs hca hl hs hW hS
  obtain ⟨h1, h2, h3, h4, h5, h6, h7, h8, h9⟩ := id hx
  obtain ⟨r1, rfl, v1, hs⟩ := hs
  rw [Bool.and_eq_true] at hd
  have hd1 : (pc : Int) + dflt = (T : Int) := by simpa using hd.1
  have e32 : (Int32.ofInt x).toInt = x := qz_t32 v1
  rcases key with ⟨q, e', b1, b2, b3, b4⟩ | ⟨b1, b2⟩
  · rw [b4] at hr
    refine lv_lookup h1 h2 hca.1 hd.2 (off := (q.2.1 : Int) - pc) (tgt := q.2.1) (by rw [ho, e32]; exact b1) (by omega) ?_
    exact b3 r hr hx lsC _ H locs b2 hl hs hW hS
  · rw [b2] at hr
    refine lv_lookup h1 h2 hca.1 hd.2 (off := dflt) (tgt := T) (by rw [ho, e32]; exact b1) hd1 ?_
    exact kd r hr hx lsC _ H locs hT hl hs hW hS
end QF
end
section
theorem wt_1 : (Jvm.Cond.initialized "StackAssembler") ∈ kz_TT := kz_g (kz_in1 (List.mem_of_getElem? (i := 1) rfl)) rfl
theorem wt_2 : (Jvm.Cond.initialized "StackAssembler$Text") ∈ kz_TT := kz_g (kz_in1 (List.mem_of_getElem? (i := 2) rfl)) rfl
theorem wt_3 : (Jvm.Cond.initialized "StackAssembler$Module") ∈ kz_TT := kz_g (kz_in1 (List.mem_of_getElem? (i := 3) rfl)) rfl
theorem wt_4 : (Jvm.Cond.initialized "StackAssembler$Function") ∈ kz_TT := kz_g (kz_in1 (List.mem_of_getElem? (i := 4) rfl)) rfl
theorem wt_5 : (Jvm.Cond.initialized "java/lang/Enum") ∈ kz_TT := kz_g (kz_in1 (List.mem_of_getElem? (i := 5) rfl)) rfl
theorem wt_6 : (Jvm.Cond.initialized "StackAssembler$Op") ∈ kz_TT := kz_g (kz_in1 (List.mem_of_getElem? (i := 6) rfl)) rfl
theorem wt_7 : (Jvm.Cond.initialized "StackAssembler$Reader") ∈ kz_TT := kz_g (kz_in1 (List.mem_of_getElem? (i := 7) rfl)) rfl
theorem wt_8 : (Jvm.Cond.initialized "StackAssembler$Scanner") ∈ kz_TT := kz_g (kz_in1 (List.mem_of_getElem? (i := 8) rfl)) rfl
theorem wt_9 : (Jvm.Cond.initialized "StackAssembler$Level") ∈ kz_TT := kz_g (kz_in1 (List.mem_of_getElem? (i := 9) rfl)) rfl
theorem wt_10 : (Jvm.Cond.initialized "StackAssembler$Checker") ∈ kz_TT := kz_g (kz_in1 (List.mem_of_getElem? (i := 10) rfl)) rfl
theorem wt_11 : (Jvm.Cond.initialized "java/lang/Math") ∈ kz_TT := kz_g (kz_in1 (List.mem_of_getElem? (i := 11) rfl)) rfl
theorem wt_12 : (Jvm.Cond.initialized "StackAssembler$Frame") ∈ kz_TT := kz_g (kz_in1 (List.mem_of_getElem? (i := 12) rfl)) rfl
theorem wt_13 : (Jvm.Cond.initialized "StackAssembler$Encoder") ∈ kz_TT := kz_g (kz_in1 (List.mem_of_getElem? (i := 13) rfl)) rfl
theorem wt_14 : (Jvm.Cond.initialized "StackAssembler$Printer") ∈ kz_TT := kz_g (kz_in1 (List.mem_of_getElem? (i := 14) rfl)) rfl
theorem wt_15 : (Jvm.Cond.initialized "StackAssemblerModel") ∈ kz_TT := kz_g (kz_in1 (List.mem_of_getElem? (i := 15) rfl)) rfl
theorem wt_16 : (Jvm.Cond.initialized "java/lang/String") ∈ kz_TT := kz_g (kz_in1 (List.mem_of_getElem? (i := 16) rfl)) rfl
theorem wt_17 : (Jvm.Cond.initialized "java/lang/StringLatin1") ∈ kz_TT := kz_g (kz_in1 (List.mem_of_getElem? (i := 17) rfl)) rfl
theorem wt_18 : (Jvm.Cond.initialized "jdk/internal/util/Preconditions") ∈ kz_TT := kz_g (kz_in1 (List.mem_of_getElem? (i := 18) rfl)) rfl
theorem wt_20 : (Jvm.Cond.initialized "java/lang/Long") ∈ kz_TT := kz_g (kz_in1 (List.mem_of_getElem? (i := 20) rfl)) rfl
theorem wt_31 : (Jvm.Cond.instanceMethod ({ cls := "StackAssembler", name := "<init>", desc := "()V" } : Jvm.MethodName)) ∈ kz_TT := kz_g (kz_in1 (List.mem_of_getElem? (i := 31) rfl)) rfl
theorem wt_32 : (Jvm.Cond.code ({ cls := "StackAssembler", name := "<init>", desc := "()V" } : Jvm.MethodName) prog_1_method_1_code (1 : Nat) (Option.none : Option Jvm.ClassFile.FieldType)) ∈ kz_TT := kz_g (kz_in1 (List.mem_of_getElem? (i := 32) rfl)) rfl
theorem wt_33 : (Jvm.Cond.methodLink "StackAssembler" (1 : Nat) ({ cls := "java/lang/Object", name := "<init>", desc := "()V" } : Jvm.MethodName)) ∈ kz_TT := kz_g (kz_in1 (List.mem_of_getElem? (i := 33) rfl)) rfl
theorem wt_34 : (Jvm.Cond.instanceMethod ({ cls := "java/lang/Object", name := "<init>", desc := "()V" } : Jvm.MethodName)) ∈ kz_TT := kz_g (kz_in1 (List.mem_of_getElem? (i := 34) rfl)) rfl
theorem wt_35 : (Jvm.Cond.code ({ cls := "java/lang/Object", name := "<init>", desc := "()V" } : Jvm.MethodName) object_method_1_code (1 : Nat) (Option.none : Option Jvm.ClassFile.FieldType)) ∈ kz_TT := kz_g (kz_in1 (List.mem_of_getElem? (i := 35) rfl)) rfl
theorem wt_36 : (Jvm.Cond.classLink "StackAssembler" (7 : Nat) "StackAssembler$Text") ∈ kz_TT := kz_g (kz_in1 (List.mem_of_getElem? (i := 36) rfl)) rfl
theorem wt_37 : (Jvm.Cond.instantiable "StackAssembler$Text" (2 : Nat)) ∈ kz_TT := kz_g (kz_in1 (List.mem_of_getElem? (i := 37) rfl)) rfl
theorem wt_39 : (Jvm.Cond.instanceMethod ({ cls := "StackAssembler$Text", name := "<init>", desc := "()V" } : Jvm.MethodName)) ∈ kz_TT := kz_g (kz_in1 (List.mem_of_getElem? (i := 39) rfl)) rfl
theorem wt_40 : (Jvm.Cond.code ({ cls := "StackAssembler$Text", name := "<init>", desc := "()V" } : Jvm.MethodName) prog_13_method_1_code (1 : Nat) (Option.none : Option Jvm.ClassFile.FieldType)) ∈ kz_TT := kz_g (kz_in1 (List.mem_of_getElem? (i := 40) rfl)) rfl
theorem wt_41 : (Jvm.Cond.methodLink "StackAssembler$Text" (3 : Nat) ({ cls := "java/lang/Object", name := "<init>", desc := "()V" } : Jvm.MethodName)) ∈ kz_TT := kz_g (kz_in1 (List.mem_of_getElem? (i := 41) rfl)) rfl
theorem wt_42 : (Jvm.Cond.fieldLink "StackAssembler$Text" (9 : Nat) "StackAssembler$Text" "characters" "[C") ∈ kz_TT := kz_g (kz_in1 (List.mem_of_getElem? (i := 42) rfl)) rfl
theorem wt_43 : (Jvm.Cond.fieldLink "StackAssembler$Text" (15 : Nat) "StackAssembler$Text" "length" "I") ∈ kz_TT := kz_g (kz_in1 (List.mem_of_getElem? (i := 43) rfl)) rfl
theorem wt_44 : (Jvm.Cond.fieldLink "StackAssembler$Printer" (15 : Nat) "StackAssembler$Text" "length" "I") ∈ kz_TT := kz_g (kz_in1 (List.mem_of_getElem? (i := 44) rfl)) rfl
theorem wt_45 : (Jvm.Cond.fieldLink "StackAssembler" (67 : Nat) "StackAssembler$Text" "length" "I") ∈ kz_TT := kz_g (kz_in1 (List.mem_of_getElem? (i := 45) rfl)) rfl
theorem wt_46 : (Jvm.Cond.fieldLink "StackAssembler$Scanner" (35 : Nat) "StackAssembler$Text" "length" "I") ∈ kz_TT := kz_g (kz_in1 (List.mem_of_getElem? (i := 46) rfl)) rfl
theorem wt_47 : (Jvm.Cond.laysFinal "StackAssembler$Text" "StackAssembler$Text" "characters" "[C") ∈ kz_TT := kz_g (kz_in1 (List.mem_of_getElem? (i := 47) rfl)) rfl
theorem wt_49 : (Jvm.Cond.lays "StackAssembler$Text" "StackAssembler$Text" "length" "I") ∈ kz_TT := kz_g (kz_in1 (List.mem_of_getElem? (i := 49) rfl)) rfl
theorem wt_52 : (Jvm.Cond.arrayClass Jvm.ClassFile.FieldType.char) ∈ kz_TT := kz_g (kz_in1 (List.mem_of_getElem? (i := 52) rfl)) rfl
theorem wt_53 : (Jvm.Cond.classLink "StackAssembler" (19 : Nat) "StackAssembler$Module") ∈ kz_TT := kz_g (kz_in1 (List.mem_of_getElem? (i := 53) rfl)) rfl
theorem wt_54 : (Jvm.Cond.instantiable "StackAssembler$Module" (5 : Nat)) ∈ kz_TT := kz_g (kz_in1 (List.mem_of_getElem? (i := 54) rfl)) rfl
theorem wt_55 : (Jvm.Cond.methodLink "StackAssembler" (21 : Nat) ({ cls := "StackAssembler$Module", name := "<init>", desc := "()V" } : Jvm.MethodName)) ∈ kz_TT := kz_g (kz_in1 (List.mem_of_getElem? (i := 55) rfl)) rfl
theorem wt_56 : (Jvm.Cond.instanceMethod ({ cls := "StackAssembler$Module", name := "<init>", desc := "()V" } : Jvm.MethodName)) ∈ kz_TT := kz_g (kz_in1 (List.mem_of_getElem? (i := 56) rfl)) rfl
theorem wt_57 : (Jvm.Cond.code ({ cls := "StackAssembler$Module", name := "<init>", desc := "()V" } : Jvm.MethodName) prog_8_method_1_code (2 : Nat) (Option.none : Option Jvm.ClassFile.FieldType)) ∈ kz_TT := kz_g (kz_in1 (List.mem_of_getElem? (i := 57) rfl)) rfl
theorem wt_58 : (Jvm.Cond.methodLink "StackAssembler$Module" (3 : Nat) ({ cls := "java/lang/Object", name := "<init>", desc := "()V" } : Jvm.MethodName)) ∈ kz_TT := kz_g (kz_in1 (List.mem_of_getElem? (i := 58) rfl)) rfl
theorem wt_59 : (Jvm.Cond.classLink "StackAssembler$Module" (9 : Nat) "StackAssembler$Function") ∈ kz_TT := kz_g (kz_in1 (List.mem_of_getElem? (i := 59) rfl)) rfl
theorem wt_61 : (Jvm.Cond.classLink "StackAssembler$Module" (17 : Nat) "StackAssembler$Op") ∈ kz_TT := kz_g (kz_in1 (List.mem_of_getElem? (i := 61) rfl)) rfl
theorem wt_63 : (Jvm.Cond.instantiable "StackAssembler$Function" (6 : Nat)) ∈ kz_TT := kz_g (kz_in1 (List.mem_of_getElem? (i := 63) rfl)) rfl
theorem wt_65 : (Jvm.Cond.instanceMethod ({ cls := "StackAssembler$Function", name := "<init>", desc := "()V" } : Jvm.MethodName)) ∈ kz_TT := kz_g (kz_in1 (List.mem_of_getElem? (i := 65) rfl)) rfl
theorem wt_66 : (Jvm.Cond.code ({ cls := "StackAssembler$Function", name := "<init>", desc := "()V" } : Jvm.MethodName) prog_6_method_1_code (1 : Nat) (Option.none : Option Jvm.ClassFile.FieldType)) ∈ kz_TT := kz_g (kz_in1 (List.mem_of_getElem? (i := 66) rfl)) rfl
theorem wt_67 : (Jvm.Cond.methodLink "StackAssembler$Function" (3 : Nat) ({ cls := "java/lang/Object", name := "<init>", desc := "()V" } : Jvm.MethodName)) ∈ kz_TT := kz_g (kz_in1 (List.mem_of_getElem? (i := 67) rfl)) rfl
theorem wt_68 : (Jvm.Cond.fieldLink "StackAssembler$Function" (9 : Nat) "StackAssembler$Function" "types" "[I") ∈ kz_TT := kz_g (kz_in1 (List.mem_of_getElem? (i := 68) rfl)) rfl
theorem wt_69 : (Jvm.Cond.fieldLink "StackAssembler$Printer" (91 : Nat) "StackAssembler$Function" "types" "[I") ∈ kz_TT := kz_g (kz_in1 (List.mem_of_getElem? (i := 69) rfl)) rfl
theorem wt_70 : (Jvm.Cond.fieldLink "StackAssembler$Encoder" (71 : Nat) "StackAssembler$Function" "types" "[I") ∈ kz_TT := kz_g (kz_in1 (List.mem_of_getElem? (i := 70) rfl)) rfl
theorem wt_71 : (Jvm.Cond.fieldLink "StackAssembler" (146 : Nat) "StackAssembler$Function" "types" "[I") ∈ kz_TT := kz_g (kz_in1 (List.mem_of_getElem? (i := 71) rfl)) rfl
theorem wt_72 : (Jvm.Cond.fieldLink "StackAssembler$Checker" (188 : Nat) "StackAssembler$Function" "types" "[I") ∈ kz_TT := kz_g (kz_in1 (List.mem_of_getElem? (i := 72) rfl)) rfl
theorem wt_73 : (Jvm.Cond.fieldLink "StackAssembler$Function" (15 : Nat) "StackAssembler$Function" "parameters" "I") ∈ kz_TT := kz_g (kz_in1 (List.mem_of_getElem? (i := 73) rfl)) rfl
theorem wt_74 : (Jvm.Cond.fieldLink "StackAssembler$Printer" (48 : Nat) "StackAssembler$Function" "parameters" "I") ∈ kz_TT := kz_g (kz_in1 (List.mem_of_getElem? (i := 74) rfl)) rfl
theorem wt_75 : (Jvm.Cond.fieldLink "StackAssembler$Encoder" (68 : Nat) "StackAssembler$Function" "parameters" "I") ∈ kz_TT := kz_g (kz_in1 (List.mem_of_getElem? (i := 75) rfl)) rfl
theorem wt_76 : (Jvm.Cond.fieldLink "StackAssembler" (129 : Nat) "StackAssembler$Function" "parameters" "I") ∈ kz_TT := kz_g (kz_in1 (List.mem_of_getElem? (i := 76) rfl)) rfl
theorem wt_77 : (Jvm.Cond.fieldLink "StackAssembler$Checker" (182 : Nat) "StackAssembler$Function" "parameters" "I") ∈ kz_TT := kz_g (kz_in1 (List.mem_of_getElem? (i := 77) rfl)) rfl
theorem wt_78 : (Jvm.Cond.fieldLink "StackAssembler$Function" (19 : Nat) "StackAssembler$Function" "slots" "I") ∈ kz_TT := kz_g (kz_in1 (List.mem_of_getElem? (i := 78) rfl)) rfl
theorem wt_79 : (Jvm.Cond.fieldLink "StackAssembler$Printer" (66 : Nat) "StackAssembler$Function" "slots" "I") ∈ kz_TT := kz_g (kz_in1 (List.mem_of_getElem? (i := 79) rfl)) rfl
theorem wt_80 : (Jvm.Cond.fieldLink "StackAssembler" (134 : Nat) "StackAssembler$Function" "slots" "I") ∈ kz_TT := kz_g (kz_in1 (List.mem_of_getElem? (i := 80) rfl)) rfl
theorem wt_81 : (Jvm.Cond.fieldLink "StackAssembler$Reader" (194 : Nat) "StackAssembler$Function" "slots" "I") ∈ kz_TT := kz_g (kz_in1 (List.mem_of_getElem? (i := 81) rfl)) rfl
theorem wt_82 : (Jvm.Cond.fieldLink "StackAssembler$Function" (22 : Nat) "StackAssembler$Function" "result" "I") ∈ kz_TT := kz_g (kz_in1 (List.mem_of_getElem? (i := 82) rfl)) rfl
theorem wt_83 : (Jvm.Cond.fieldLink "StackAssembler$Checker" (61 : Nat) "StackAssembler$Function" "result" "I") ∈ kz_TT := kz_g (kz_in1 (List.mem_of_getElem? (i := 83) rfl)) rfl
theorem wt_84 : (Jvm.Cond.fieldLink "StackAssembler$Printer" (57 : Nat) "StackAssembler$Function" "result" "I") ∈ kz_TT := kz_g (kz_in1 (List.mem_of_getElem? (i := 84) rfl)) rfl
theorem wt_85 : (Jvm.Cond.fieldLink "StackAssembler$Encoder" (77 : Nat) "StackAssembler$Function" "result" "I") ∈ kz_TT := kz_g (kz_in1 (List.mem_of_getElem? (i := 85) rfl)) rfl
theorem wt_86 : (Jvm.Cond.fieldLink "StackAssembler" (137 : Nat) "StackAssembler$Function" "result" "I") ∈ kz_TT := kz_g (kz_in1 (List.mem_of_getElem? (i := 86) rfl)) rfl
theorem wt_87 : (Jvm.Cond.fieldLink "StackAssembler$Reader" (208 : Nat) "StackAssembler$Function" "result" "I") ∈ kz_TT := kz_g (kz_in1 (List.mem_of_getElem? (i := 87) rfl)) rfl
theorem wt_88 : (Jvm.Cond.fieldLink "StackAssembler$Function" (25 : Nat) "StackAssembler$Function" "first" "I") ∈ kz_TT := kz_g (kz_in1 (List.mem_of_getElem? (i := 88) rfl)) rfl
theorem wt_89 : (Jvm.Cond.fieldLink "StackAssembler$Checker" (73 : Nat) "StackAssembler$Function" "first" "I") ∈ kz_TT := kz_g (kz_in1 (List.mem_of_getElem? (i := 89) rfl)) rfl
theorem wt_90 : (Jvm.Cond.fieldLink "StackAssembler$Printer" (72 : Nat) "StackAssembler$Function" "first" "I") ∈ kz_TT := kz_g (kz_in1 (List.mem_of_getElem? (i := 90) rfl)) rfl
theorem wt_91 : (Jvm.Cond.fieldLink "StackAssembler$Module" (48 : Nat) "StackAssembler$Function" "first" "I") ∈ kz_TT := kz_g (kz_in1 (List.mem_of_getElem? (i := 91) rfl)) rfl
theorem wt_92 : (Jvm.Cond.fieldLink "StackAssembler$Encoder" (90 : Nat) "StackAssembler$Function" "first" "I") ∈ kz_TT := kz_g (kz_in1 (List.mem_of_getElem? (i := 92) rfl)) rfl
theorem wt_93 : (Jvm.Cond.fieldLink "StackAssembler" (158 : Nat) "StackAssembler$Function" "first" "I") ∈ kz_TT := kz_g (kz_in1 (List.mem_of_getElem? (i := 93) rfl)) rfl
theorem wt_94 : (Jvm.Cond.fieldLink "StackAssembler$Function" (28 : Nat) "StackAssembler$Function" "size" "I") ∈ kz_TT := kz_g (kz_in1 (List.mem_of_getElem? (i := 94) rfl)) rfl
theorem wt_95 : (Jvm.Cond.fieldLink "StackAssembler$Checker" (70 : Nat) "StackAssembler$Function" "size" "I") ∈ kz_TT := kz_g (kz_in1 (List.mem_of_getElem? (i := 95) rfl)) rfl
theorem wt_96 : (Jvm.Cond.fieldLink "StackAssembler$Printer" (69 : Nat) "StackAssembler$Function" "size" "I") ∈ kz_TT := kz_g (kz_in1 (List.mem_of_getElem? (i := 96) rfl)) rfl
theorem wt_97 : (Jvm.Cond.fieldLink "StackAssembler$Module" (45 : Nat) "StackAssembler$Function" "size" "I") ∈ kz_TT := kz_g (kz_in1 (List.mem_of_getElem? (i := 97) rfl)) rfl
theorem wt_98 : (Jvm.Cond.fieldLink "StackAssembler$Encoder" (87 : Nat) "StackAssembler$Function" "size" "I") ∈ kz_TT := kz_g (kz_in1 (List.mem_of_getElem? (i := 98) rfl)) rfl
theorem wt_99 : (Jvm.Cond.fieldLink "StackAssembler" (140 : Nat) "StackAssembler$Function" "size" "I") ∈ kz_TT := kz_g (kz_in1 (List.mem_of_getElem? (i := 99) rfl)) rfl
theorem wt_100 : (Jvm.Cond.laysFinal "StackAssembler$Function" "StackAssembler$Function" "types" "[I") ∈ kz_TT := kz_g (kz_in1 (List.mem_of_getElem? (i := 100) rfl)) rfl
theorem wt_102 : (Jvm.Cond.lays "StackAssembler$Function" "StackAssembler$Function" "parameters" "I") ∈ kz_TT := kz_g (kz_in1 (List.mem_of_getElem? (i := 102) rfl)) rfl
theorem wt_104 : (Jvm.Cond.lays "StackAssembler$Function" "StackAssembler$Function" "slots" "I") ∈ kz_TT := kz_g (kz_in1 (List.mem_of_getElem? (i := 104) rfl)) rfl
theorem wt_106 : (Jvm.Cond.lays "StackAssembler$Function" "StackAssembler$Function" "result" "I") ∈ kz_TT := kz_g (kz_in1 (List.mem_of_getElem? (i := 106) rfl)) rfl
theorem wt_108 : (Jvm.Cond.lays "StackAssembler$Function" "StackAssembler$Function" "first" "I") ∈ kz_TT := kz_g (kz_in1 (List.mem_of_getElem? (i := 108) rfl)) rfl
theorem wt_110 : (Jvm.Cond.lays "StackAssembler$Function" "StackAssembler$Function" "size" "I") ∈ kz_TT := kz_g (kz_in1 (List.mem_of_getElem? (i := 110) rfl)) rfl
theorem wt_113 : (Jvm.Cond.arrayClass Jvm.ClassFile.FieldType.long) ∈ kz_TT := kz_g (kz_in1 (List.mem_of_getElem? (i := 113) rfl)) rfl
theorem wt_114 : (Jvm.Cond.arrayClass Jvm.ClassFile.FieldType.int) ∈ kz_TT := kz_g (kz_in1 (List.mem_of_getElem? (i := 114) rfl)) rfl
theorem wt_115 : (Jvm.Cond.fieldLink "StackAssembler$Module" (28 : Nat) "StackAssembler$Op" "NOP" "LStackAssembler$Op;") ∈ kz_TT := kz_g (kz_in1 (List.mem_of_getElem? (i := 115) rfl)) rfl
theorem wt_117 : (Jvm.Cond.fieldLink "StackAssembler$Module" (11 : Nat) "StackAssembler$Module" "functions" "[LStackAssembler$Function;") ∈ kz_TT := kz_g (kz_in1 (List.mem_of_getElem? (i := 117) rfl)) rfl
theorem wt_118 : (Jvm.Cond.fieldLink "StackAssembler$Checker" (44 : Nat) "StackAssembler$Module" "functions" "[LStackAssembler$Function;") ∈ kz_TT := kz_g (kz_in1 (List.mem_of_getElem? (i := 118) rfl)) rfl
theorem wt_119 : (Jvm.Cond.fieldLink "StackAssembler$Printer" (32 : Nat) "StackAssembler$Module" "functions" "[LStackAssembler$Function;") ∈ kz_TT := kz_g (kz_in1 (List.mem_of_getElem? (i := 119) rfl)) rfl
theorem wt_120 : (Jvm.Cond.fieldLink "StackAssembler$Encoder" (51 : Nat) "StackAssembler$Module" "functions" "[LStackAssembler$Function;") ∈ kz_TT := kz_g (kz_in1 (List.mem_of_getElem? (i := 120) rfl)) rfl
theorem wt_121 : (Jvm.Cond.fieldLink "StackAssembler" (125 : Nat) "StackAssembler$Module" "functions" "[LStackAssembler$Function;") ∈ kz_TT := kz_g (kz_in1 (List.mem_of_getElem? (i := 121) rfl)) rfl
theorem wt_122 : (Jvm.Cond.fieldLink "StackAssembler$Module" (19 : Nat) "StackAssembler$Module" "ops" "[LStackAssembler$Op;") ∈ kz_TT := kz_g (kz_in1 (List.mem_of_getElem? (i := 122) rfl)) rfl
theorem wt_123 : (Jvm.Cond.fieldLink "StackAssembler$Checker" (76 : Nat) "StackAssembler$Module" "ops" "[LStackAssembler$Op;") ∈ kz_TT := kz_g (kz_in1 (List.mem_of_getElem? (i := 123) rfl)) rfl
theorem wt_124 : (Jvm.Cond.fieldLink "StackAssembler$Printer" (75 : Nat) "StackAssembler$Module" "ops" "[LStackAssembler$Op;") ∈ kz_TT := kz_g (kz_in1 (List.mem_of_getElem? (i := 124) rfl)) rfl
theorem wt_125 : (Jvm.Cond.fieldLink "StackAssembler$Encoder" (93 : Nat) "StackAssembler$Module" "ops" "[LStackAssembler$Op;") ∈ kz_TT := kz_g (kz_in1 (List.mem_of_getElem? (i := 125) rfl)) rfl
theorem wt_126 : (Jvm.Cond.fieldLink "StackAssembler" (154 : Nat) "StackAssembler$Module" "ops" "[LStackAssembler$Op;") ∈ kz_TT := kz_g (kz_in1 (List.mem_of_getElem? (i := 126) rfl)) rfl
theorem wt_127 : (Jvm.Cond.fieldLink "StackAssembler$Reader" (253 : Nat) "StackAssembler$Module" "ops" "[LStackAssembler$Op;") ∈ kz_TT := kz_g (kz_in1 (List.mem_of_getElem? (i := 127) rfl)) rfl
theorem wt_128 : (Jvm.Cond.fieldLink "StackAssembler$Module" (23 : Nat) "StackAssembler$Module" "operands" "[J") ∈ kz_TT := kz_g (kz_in1 (List.mem_of_getElem? (i := 128) rfl)) rfl
theorem wt_129 : (Jvm.Cond.fieldLink "StackAssembler$Checker" (80 : Nat) "StackAssembler$Module" "operands" "[J") ∈ kz_TT := kz_g (kz_in1 (List.mem_of_getElem? (i := 129) rfl)) rfl
theorem wt_130 : (Jvm.Cond.fieldLink "StackAssembler$Printer" (79 : Nat) "StackAssembler$Module" "operands" "[J") ∈ kz_TT := kz_g (kz_in1 (List.mem_of_getElem? (i := 130) rfl)) rfl
theorem wt_131 : (Jvm.Cond.fieldLink "StackAssembler$Encoder" (102 : Nat) "StackAssembler$Module" "operands" "[J") ∈ kz_TT := kz_g (kz_in1 (List.mem_of_getElem? (i := 131) rfl)) rfl
theorem wt_132 : (Jvm.Cond.fieldLink "StackAssembler" (166 : Nat) "StackAssembler$Module" "operands" "[J") ∈ kz_TT := kz_g (kz_in1 (List.mem_of_getElem? (i := 132) rfl)) rfl
theorem wt_133 : (Jvm.Cond.fieldLink "StackAssembler$Reader" (217 : Nat) "StackAssembler$Module" "operands" "[J") ∈ kz_TT := kz_g (kz_in1 (List.mem_of_getElem? (i := 133) rfl)) rfl
theorem wt_134 : (Jvm.Cond.fieldLink "StackAssembler$Module" (32 : Nat) "StackAssembler$Module" "count" "I") ∈ kz_TT := kz_g (kz_in1 (List.mem_of_getElem? (i := 134) rfl)) rfl
theorem wt_135 : (Jvm.Cond.fieldLink "StackAssembler$Checker" (40 : Nat) "StackAssembler$Module" "count" "I") ∈ kz_TT := kz_g (kz_in1 (List.mem_of_getElem? (i := 135) rfl)) rfl
theorem wt_136 : (Jvm.Cond.fieldLink "StackAssembler$Printer" (27 : Nat) "StackAssembler$Module" "count" "I") ∈ kz_TT := kz_g (kz_in1 (List.mem_of_getElem? (i := 136) rfl)) rfl
theorem wt_137 : (Jvm.Cond.fieldLink "StackAssembler$Encoder" (30 : Nat) "StackAssembler$Module" "count" "I") ∈ kz_TT := kz_g (kz_in1 (List.mem_of_getElem? (i := 137) rfl)) rfl
theorem wt_138 : (Jvm.Cond.fieldLink "StackAssembler" (107 : Nat) "StackAssembler$Module" "count" "I") ∈ kz_TT := kz_g (kz_in1 (List.mem_of_getElem? (i := 138) rfl)) rfl
theorem wt_139 : (Jvm.Cond.fieldLink "StackAssembler$Reader" (235 : Nat) "StackAssembler$Module" "count" "I") ∈ kz_TT := kz_g (kz_in1 (List.mem_of_getElem? (i := 139) rfl)) rfl
theorem wt_140 : (Jvm.Cond.fieldLink "StackAssembler$Module" (36 : Nat) "StackAssembler$Module" "length" "I") ∈ kz_TT := kz_g (kz_in1 (List.mem_of_getElem? (i := 140) rfl)) rfl
theorem wt_141 : (Jvm.Cond.fieldLink "StackAssembler$Reader" (214 : Nat) "StackAssembler$Module" "length" "I") ∈ kz_TT := kz_g (kz_in1 (List.mem_of_getElem? (i := 141) rfl)) rfl
theorem wt_142 : (Jvm.Cond.laysFinal "StackAssembler$Module" "StackAssembler$Module" "functions" "[LStackAssembler$Function;") ∈ kz_TT := kz_g (kz_in1 (List.mem_of_getElem? (i := 142) rfl)) rfl
theorem wt_144 : (Jvm.Cond.laysFinal "StackAssembler$Module" "StackAssembler$Module" "ops" "[LStackAssembler$Op;") ∈ kz_TT := kz_g (kz_in1 (List.mem_of_getElem? (i := 144) rfl)) rfl
theorem wt_146 : (Jvm.Cond.laysFinal "StackAssembler$Module" "StackAssembler$Module" "operands" "[J") ∈ kz_TT := kz_g (kz_in1 (List.mem_of_getElem? (i := 146) rfl)) rfl
theorem wt_148 : (Jvm.Cond.lays "StackAssembler$Module" "StackAssembler$Module" "count" "I") ∈ kz_TT := kz_g (kz_in1 (List.mem_of_getElem? (i := 148) rfl)) rfl
theorem wt_150 : (Jvm.Cond.lays "StackAssembler$Module" "StackAssembler$Module" "length" "I") ∈ kz_TT := kz_g (kz_in1 (List.mem_of_getElem? (i := 150) rfl)) rfl
theorem wt_153 : (Jvm.Cond.classLink "StackAssembler" (29 : Nat) "StackAssembler$Reader") ∈ kz_TT := kz_g (kz_in1 (List.mem_of_getElem? (i := 153) rfl)) rfl
theorem wt_154 : (Jvm.Cond.instantiable "StackAssembler$Reader" (10 : Nat)) ∈ kz_TT := kz_g (kz_in1 (List.mem_of_getElem? (i := 154) rfl)) rfl
theorem wt_155 : (Jvm.Cond.methodLink "StackAssembler" (31 : Nat) ({ cls := "StackAssembler$Reader", name := "<init>", desc := "(LStackAssembler$Text;LStackAssembler$Module;)V" } : Jvm.MethodName)) ∈ kz_TT := kz_g (kz_in1 (List.mem_of_getElem? (i := 155) rfl)) rfl
theorem wt_156 : (Jvm.Cond.instanceMethod ({ cls := "StackAssembler$Reader", name := "<init>", desc := "(LStackAssembler$Text;LStackAssembler$Module;)V" } : Jvm.MethodName)) ∈ kz_TT := kz_g (kz_in1 (List.mem_of_getElem? (i := 156) rfl)) rfl
theorem wt_157 : (Jvm.Cond.code ({ cls := "StackAssembler$Reader", name := "<init>", desc := "(LStackAssembler$Text;LStackAssembler$Module;)V" } : Jvm.MethodName) prog_11_method_1_code (4 : Nat) (Option.none : Option Jvm.ClassFile.FieldType)) ∈ kz_TT := kz_g (kz_in1 (List.mem_of_getElem? (i := 157) rfl)) rfl
theorem wt_158 : (Jvm.Cond.methodLink "StackAssembler$Reader" (3 : Nat) ({ cls := "java/lang/Object", name := "<init>", desc := "()V" } : Jvm.MethodName)) ∈ kz_TT := kz_g (kz_in1 (List.mem_of_getElem? (i := 158) rfl)) rfl
theorem wt_159 : (Jvm.Cond.classLink "StackAssembler$Reader" (9 : Nat) "StackAssembler$Level") ∈ kz_TT := kz_g (kz_in1 (List.mem_of_getElem? (i := 159) rfl)) rfl
theorem wt_161 : (Jvm.Cond.classLink "StackAssembler$Reader" (28 : Nat) "StackAssembler$Scanner") ∈ kz_TT := kz_g (kz_in1 (List.mem_of_getElem? (i := 161) rfl)) rfl
theorem wt_162 : (Jvm.Cond.instantiable "StackAssembler$Scanner" (6 : Nat)) ∈ kz_TT := kz_g (kz_in1 (List.mem_of_getElem? (i := 162) rfl)) rfl
theorem wt_163 : (Jvm.Cond.methodLink "StackAssembler$Reader" (30 : Nat) ({ cls := "StackAssembler$Scanner", name := "<init>", desc := "(LStackAssembler$Text;)V" } : Jvm.MethodName)) ∈ kz_TT := kz_g (kz_in1 (List.mem_of_getElem? (i := 163) rfl)) rfl
theorem wt_164 : (Jvm.Cond.instanceMethod ({ cls := "StackAssembler$Scanner", name := "<init>", desc := "(LStackAssembler$Text;)V" } : Jvm.MethodName)) ∈ kz_TT := kz_g (kz_in1 (List.mem_of_getElem? (i := 164) rfl)) rfl
theorem wt_165 : (Jvm.Cond.code ({ cls := "StackAssembler$Scanner", name := "<init>", desc := "(LStackAssembler$Text;)V" } : Jvm.MethodName) prog_12_method_1_code (2 : Nat) (Option.none : Option Jvm.ClassFile.FieldType)) ∈ kz_TT := kz_g (kz_in1 (List.mem_of_getElem? (i := 165) rfl)) rfl
theorem wt_166 : (Jvm.Cond.methodLink "StackAssembler$Scanner" (3 : Nat) ({ cls := "java/lang/Object", name := "<init>", desc := "()V" } : Jvm.MethodName)) ∈ kz_TT := kz_g (kz_in1 (List.mem_of_getElem? (i := 166) rfl)) rfl
theorem wt_167 : (Jvm.Cond.fieldLink "StackAssembler$Scanner" (9 : Nat) "StackAssembler$Scanner" "text" "LStackAssembler$Text;") ∈ kz_TT := kz_g (kz_in1 (List.mem_of_getElem? (i := 167) rfl)) rfl
theorem wt_168 : (Jvm.Cond.fieldLink "StackAssembler$Scanner" (15 : Nat) "StackAssembler$Scanner" "kind" "I") ∈ kz_TT := kz_g (kz_in1 (List.mem_of_getElem? (i := 168) rfl)) rfl
theorem wt_169 : (Jvm.Cond.fieldLink "StackAssembler$Reader" (73 : Nat) "StackAssembler$Scanner" "kind" "I") ∈ kz_TT := kz_g (kz_in1 (List.mem_of_getElem? (i := 169) rfl)) rfl
theorem wt_170 : (Jvm.Cond.fieldLink "StackAssembler$Scanner" (19 : Nat) "StackAssembler$Scanner" "start" "I") ∈ kz_TT := kz_g (kz_in1 (List.mem_of_getElem? (i := 170) rfl)) rfl
theorem wt_171 : (Jvm.Cond.fieldLink "StackAssembler$Reader" (63 : Nat) "StackAssembler$Scanner" "start" "I") ∈ kz_TT := kz_g (kz_in1 (List.mem_of_getElem? (i := 171) rfl)) rfl
theorem wt_172 : (Jvm.Cond.fieldLink "StackAssembler$Scanner" (22 : Nat) "StackAssembler$Scanner" "end" "I") ∈ kz_TT := kz_g (kz_in1 (List.mem_of_getElem? (i := 172) rfl)) rfl
theorem wt_173 : (Jvm.Cond.fieldLink "StackAssembler$Scanner" (49 : Nat) "StackAssembler$Scanner" "op" "LStackAssembler$Op;") ∈ kz_TT := kz_g (kz_in1 (List.mem_of_getElem? (i := 173) rfl)) rfl
theorem wt_174 : (Jvm.Cond.fieldLink "StackAssembler$Reader" (154 : Nat) "StackAssembler$Scanner" "op" "LStackAssembler$Op;") ∈ kz_TT := kz_g (kz_in1 (List.mem_of_getElem? (i := 174) rfl)) rfl
theorem wt_175 : (Jvm.Cond.fieldLink "StackAssembler$Scanner" (88 : Nat) "StackAssembler$Scanner" "number" "J") ∈ kz_TT := kz_g (kz_in1 (List.mem_of_getElem? (i := 175) rfl)) rfl
theorem wt_176 : (Jvm.Cond.fieldLink "StackAssembler$Reader" (280 : Nat) "StackAssembler$Scanner" "number" "J") ∈ kz_TT := kz_g (kz_in1 (List.mem_of_getElem? (i := 176) rfl)) rfl
theorem wt_177 : (Jvm.Cond.lays "StackAssembler$Scanner" "StackAssembler$Scanner" "text" "LStackAssembler$Text;") ∈ kz_TT := kz_g (kz_in1 (List.mem_of_getElem? (i := 177) rfl)) rfl
theorem wt_179 : (Jvm.Cond.lays "StackAssembler$Scanner" "StackAssembler$Scanner" "kind" "I") ∈ kz_TT := kz_g (kz_in1 (List.mem_of_getElem? (i := 179) rfl)) rfl
theorem wt_181 : (Jvm.Cond.lays "StackAssembler$Scanner" "StackAssembler$Scanner" "start" "I") ∈ kz_TT := kz_g (kz_in1 (List.mem_of_getElem? (i := 181) rfl)) rfl
theorem wt_183 : (Jvm.Cond.lays "StackAssembler$Scanner" "StackAssembler$Scanner" "end" "I") ∈ kz_TT := kz_g (kz_in1 (List.mem_of_getElem? (i := 183) rfl)) rfl
theorem wt_185 : (Jvm.Cond.lays "StackAssembler$Scanner" "StackAssembler$Scanner" "op" "LStackAssembler$Op;") ∈ kz_TT := kz_g (kz_in1 (List.mem_of_getElem? (i := 185) rfl)) rfl
theorem wt_187 : (Jvm.Cond.lays "StackAssembler$Scanner" "StackAssembler$Scanner" "number" "J") ∈ kz_TT := kz_g (kz_in1 (List.mem_of_getElem? (i := 187) rfl)) rfl
theorem wt_190 : (Jvm.Cond.instantiable "StackAssembler$Level" (5 : Nat)) ∈ kz_TT := kz_g (kz_in1 (List.mem_of_getElem? (i := 190) rfl)) rfl
theorem wt_192 : (Jvm.Cond.instanceMethod ({ cls := "StackAssembler$Level", name := "<init>", desc := "()V" } : Jvm.MethodName)) ∈ kz_TT := kz_g (kz_in1 (List.mem_of_getElem? (i := 192) rfl)) rfl
theorem wt_193 : (Jvm.Cond.code ({ cls := "StackAssembler$Level", name := "<init>", desc := "()V" } : Jvm.MethodName) prog_7_method_1_code (1 : Nat) (Option.none : Option Jvm.ClassFile.FieldType)) ∈ kz_TT := kz_g (kz_in1 (List.mem_of_getElem? (i := 193) rfl)) rfl
theorem wt_194 : (Jvm.Cond.methodLink "StackAssembler$Level" (1 : Nat) ({ cls := "java/lang/Object", name := "<init>", desc := "()V" } : Jvm.MethodName)) ∈ kz_TT := kz_g (kz_in1 (List.mem_of_getElem? (i := 194) rfl)) rfl
theorem wt_195 : (Jvm.Cond.fieldLink "StackAssembler$Level" (7 : Nat) "StackAssembler$Op" "NOP" "LStackAssembler$Op;") ∈ kz_TT := kz_g (kz_in1 (List.mem_of_getElem? (i := 195) rfl)) rfl
theorem wt_196 : (Jvm.Cond.fieldLink "StackAssembler$Level" (18 : Nat) "StackAssembler$Level" "kind" "I") ∈ kz_TT := kz_g (kz_in1 (List.mem_of_getElem? (i := 196) rfl)) rfl
theorem wt_197 : (Jvm.Cond.fieldLink "StackAssembler$Reader" (83 : Nat) "StackAssembler$Level" "kind" "I") ∈ kz_TT := kz_g (kz_in1 (List.mem_of_getElem? (i := 197) rfl)) rfl
theorem wt_198 : (Jvm.Cond.fieldLink "StackAssembler$Level" (22 : Nat) "StackAssembler$Level" "phase" "I") ∈ kz_TT := kz_g (kz_in1 (List.mem_of_getElem? (i := 198) rfl)) rfl
theorem wt_199 : (Jvm.Cond.fieldLink "StackAssembler$Reader" (115 : Nat) "StackAssembler$Level" "phase" "I") ∈ kz_TT := kz_g (kz_in1 (List.mem_of_getElem? (i := 199) rfl)) rfl
theorem wt_200 : (Jvm.Cond.fieldLink "StackAssembler$Level" (27 : Nat) "StackAssembler$Level" "name" "I") ∈ kz_TT := kz_g (kz_in1 (List.mem_of_getElem? (i := 200) rfl)) rfl
theorem wt_201 : (Jvm.Cond.fieldLink "StackAssembler$Reader" (187 : Nat) "StackAssembler$Level" "name" "I") ∈ kz_TT := kz_g (kz_in1 (List.mem_of_getElem? (i := 201) rfl)) rfl
theorem wt_202 : (Jvm.Cond.fieldLink "StackAssembler$Level" (13 : Nat) "StackAssembler$Level" "op" "LStackAssembler$Op;") ∈ kz_TT := kz_g (kz_in1 (List.mem_of_getElem? (i := 202) rfl)) rfl
theorem wt_203 : (Jvm.Cond.fieldLink "StackAssembler$Reader" (163 : Nat) "StackAssembler$Level" "op" "LStackAssembler$Op;") ∈ kz_TT := kz_g (kz_in1 (List.mem_of_getElem? (i := 203) rfl)) rfl
theorem wt_204 : (Jvm.Cond.fieldLink "StackAssembler$Level" (30 : Nat) "StackAssembler$Level" "operand" "J") ∈ kz_TT := kz_g (kz_in1 (List.mem_of_getElem? (i := 204) rfl)) rfl
theorem wt_205 : (Jvm.Cond.fieldLink "StackAssembler$Reader" (166 : Nat) "StackAssembler$Level" "operand" "J") ∈ kz_TT := kz_g (kz_in1 (List.mem_of_getElem? (i := 205) rfl)) rfl
theorem wt_206 : (Jvm.Cond.lays "StackAssembler$Level" "StackAssembler$Level" "kind" "I") ∈ kz_TT := kz_g (kz_in1 (List.mem_of_getElem? (i := 206) rfl)) rfl
theorem wt_208 : (Jvm.Cond.lays "StackAssembler$Level" "StackAssembler$Level" "phase" "I") ∈ kz_TT := kz_g (kz_in1 (List.mem_of_getElem? (i := 208) rfl)) rfl
theorem wt_210 : (Jvm.Cond.lays "StackAssembler$Level" "StackAssembler$Level" "name" "I") ∈ kz_TT := kz_g (kz_in1 (List.mem_of_getElem? (i := 210) rfl)) rfl
theorem wt_212 : (Jvm.Cond.lays "StackAssembler$Level" "StackAssembler$Level" "op" "LStackAssembler$Op;") ∈ kz_TT := kz_g (kz_in1 (List.mem_of_getElem? (i := 212) rfl)) rfl
theorem wt_214 : (Jvm.Cond.lays "StackAssembler$Level" "StackAssembler$Level" "operand" "J") ∈ kz_TT := kz_g (kz_in1 (List.mem_of_getElem? (i := 214) rfl)) rfl
theorem wt_217 : (Jvm.Cond.fieldLink "StackAssembler$Reader" (33 : Nat) "StackAssembler$Reader" "scanner" "LStackAssembler$Scanner;") ∈ kz_TT := kz_g (kz_in1 (List.mem_of_getElem? (i := 217) rfl)) rfl
theorem wt_218 : (Jvm.Cond.fieldLink "StackAssembler$Reader" (11 : Nat) "StackAssembler$Reader" "levels" "[LStackAssembler$Level;") ∈ kz_TT := kz_g (kz_in1 (List.mem_of_getElem? (i := 218) rfl)) rfl
theorem wt_219 : (Jvm.Cond.fieldLink "StackAssembler$Reader" (17 : Nat) "StackAssembler$Reader" "functionNames" "[I") ∈ kz_TT := kz_g (kz_in1 (List.mem_of_getElem? (i := 219) rfl)) rfl
theorem wt_220 : (Jvm.Cond.fieldLink "StackAssembler$Reader" (21 : Nat) "StackAssembler$Reader" "slotNames" "[I") ∈ kz_TT := kz_g (kz_in1 (List.mem_of_getElem? (i := 220) rfl)) rfl
theorem wt_221 : (Jvm.Cond.fieldLink "StackAssembler$Reader" (24 : Nat) "StackAssembler$Reader" "module" "LStackAssembler$Module;") ∈ kz_TT := kz_g (kz_in1 (List.mem_of_getElem? (i := 221) rfl)) rfl
theorem wt_222 : (Jvm.Cond.fieldLink "StackAssembler$Reader" (46 : Nat) "StackAssembler$Reader" "depth" "I") ∈ kz_TT := kz_g (kz_in1 (List.mem_of_getElem? (i := 222) rfl)) rfl
theorem wt_223 : (Jvm.Cond.fieldLink "StackAssembler$Reader" (53 : Nat) "StackAssembler$Reader" "awaitsOperand" "Z") ∈ kz_TT := kz_g (kz_in1 (List.mem_of_getElem? (i := 223) rfl)) rfl
theorem wt_224 : (Jvm.Cond.fieldLink "StackAssembler$Reader" (57 : Nat) "StackAssembler$Reader" "nameOfEnded" "I") ∈ kz_TT := kz_g (kz_in1 (List.mem_of_getElem? (i := 224) rfl)) rfl
theorem wt_225 : (Jvm.Cond.fieldLink "StackAssembler$Reader" (262 : Nat) "StackAssembler$Reader" "value" "J") ∈ kz_TT := kz_g (kz_in1 (List.mem_of_getElem? (i := 225) rfl)) rfl
theorem wt_226 : (Jvm.Cond.fieldLink "StackAssembler$Reader" (66 : Nat) "StackAssembler$Reader" "stop" "I") ∈ kz_TT := kz_g (kz_in1 (List.mem_of_getElem? (i := 226) rfl)) rfl
theorem wt_228 : (Jvm.Cond.laysFinal "StackAssembler$Reader" "StackAssembler$Reader" "scanner" "LStackAssembler$Scanner;") ∈ kz_TT := kz_g (kz_in1 (List.mem_of_getElem? (i := 228) rfl)) rfl
theorem wt_230 : (Jvm.Cond.laysFinal "StackAssembler$Reader" "StackAssembler$Reader" "levels" "[LStackAssembler$Level;") ∈ kz_TT := kz_g (kz_in1 (List.mem_of_getElem? (i := 230) rfl)) rfl
theorem wt_232 : (Jvm.Cond.laysFinal "StackAssembler$Reader" "StackAssembler$Reader" "functionNames" "[I") ∈ kz_TT := kz_g (kz_in1 (List.mem_of_getElem? (i := 232) rfl)) rfl
theorem wt_234 : (Jvm.Cond.laysFinal "StackAssembler$Reader" "StackAssembler$Reader" "slotNames" "[I") ∈ kz_TT := kz_g (kz_in1 (List.mem_of_getElem? (i := 234) rfl)) rfl
theorem wt_236 : (Jvm.Cond.lays "StackAssembler$Reader" "StackAssembler$Reader" "module" "LStackAssembler$Module;") ∈ kz_TT := kz_g (kz_in1 (List.mem_of_getElem? (i := 236) rfl)) rfl
theorem wt_238 : (Jvm.Cond.lays "StackAssembler$Reader" "StackAssembler$Reader" "depth" "I") ∈ kz_TT := kz_g (kz_in1 (List.mem_of_getElem? (i := 238) rfl)) rfl
theorem wt_240 : (Jvm.Cond.lays "StackAssembler$Reader" "StackAssembler$Reader" "awaitsOperand" "Z") ∈ kz_TT := kz_g (kz_in2 (List.mem_of_getElem? (i := 0) rfl)) rfl
theorem wt_242 : (Jvm.Cond.lays "StackAssembler$Reader" "StackAssembler$Reader" "nameOfEnded" "I") ∈ kz_TT := kz_g (kz_in2 (List.mem_of_getElem? (i := 2) rfl)) rfl
theorem wt_244 : (Jvm.Cond.lays "StackAssembler$Reader" "StackAssembler$Reader" "value" "J") ∈ kz_TT := kz_g (kz_in2 (List.mem_of_getElem? (i := 4) rfl)) rfl
theorem wt_246 : (Jvm.Cond.lays "StackAssembler$Reader" "StackAssembler$Reader" "stop" "I") ∈ kz_TT := kz_g (kz_in2 (List.mem_of_getElem? (i := 6) rfl)) rfl
theorem wt_249 : (Jvm.Cond.classLink "StackAssembler" (38 : Nat) "StackAssembler$Checker") ∈ kz_TT := kz_g (kz_in2 (List.mem_of_getElem? (i := 9) rfl)) rfl
theorem wt_250 : (Jvm.Cond.instantiable "StackAssembler$Checker" (8 : Nat)) ∈ kz_TT := kz_g (kz_in2 (List.mem_of_getElem? (i := 10) rfl)) rfl
theorem wt_251 : (Jvm.Cond.methodLink "StackAssembler" (40 : Nat) ({ cls := "StackAssembler$Checker", name := "<init>", desc := "(LStackAssembler$Module;)V" } : Jvm.MethodName)) ∈ kz_TT := kz_g (kz_in2 (List.mem_of_getElem? (i := 11) rfl)) rfl
theorem wt_252 : (Jvm.Cond.instanceMethod ({ cls := "StackAssembler$Checker", name := "<init>", desc := "(LStackAssembler$Module;)V" } : Jvm.MethodName)) ∈ kz_TT := kz_g (kz_in2 (List.mem_of_getElem? (i := 12) rfl)) rfl
theorem wt_253 : (Jvm.Cond.code ({ cls := "StackAssembler$Checker", name := "<init>", desc := "(LStackAssembler$Module;)V" } : Jvm.MethodName) prog_3_method_1_code (3 : Nat) (Option.none : Option Jvm.ClassFile.FieldType)) ∈ kz_TT := kz_g (kz_in2 (List.mem_of_getElem? (i := 13) rfl)) rfl
theorem wt_254 : (Jvm.Cond.methodLink "StackAssembler$Checker" (3 : Nat) ({ cls := "java/lang/Object", name := "<init>", desc := "()V" } : Jvm.MethodName)) ∈ kz_TT := kz_g (kz_in2 (List.mem_of_getElem? (i := 14) rfl)) rfl
theorem wt_255 : (Jvm.Cond.classLink "StackAssembler$Checker" (15 : Nat) "StackAssembler$Frame") ∈ kz_TT := kz_g (kz_in2 (List.mem_of_getElem? (i := 15) rfl)) rfl
theorem wt_257 : (Jvm.Cond.methodLink "StackAssembler$Checker" (25 : Nat) ({ cls := "StackAssembler$Module", name := "latest", desc := "()LStackAssembler$Function;" } : Jvm.MethodName)) ∈ kz_TT := kz_g (kz_in2 (List.mem_of_getElem? (i := 17) rfl)) rfl
theorem wt_258 : (Jvm.Cond.instanceMethod ({ cls := "StackAssembler$Module", name := "latest", desc := "()LStackAssembler$Function;" } : Jvm.MethodName)) ∈ kz_TT := kz_g (kz_in2 (List.mem_of_getElem? (i := 18) rfl)) rfl
theorem wt_259 : (Jvm.Cond.selects "StackAssembler$Module" ({ cls := "StackAssembler$Module", name := "latest", desc := "()LStackAssembler$Function;" } : Jvm.MethodName) ({ cls := "StackAssembler$Module", name := "latest", desc := "()LStackAssembler$Function;" } : Jvm.MethodName)) ∈ kz_TT := kz_g (kz_in2 (List.mem_of_getElem? (i := 19) rfl)) rfl
theorem wt_260 : (Jvm.Cond.code ({ cls := "StackAssembler$Module", name := "latest", desc := "()LStackAssembler$Function;" } : Jvm.MethodName) prog_8_method_5_code (1 : Nat) (Option.some (Jvm.ClassFile.FieldType.object "StackAssembler$Function"))) ∈ kz_TT := kz_g (kz_in2 (List.mem_of_getElem? (i := 20) rfl)) rfl
theorem wt_261 : (Jvm.Cond.methodLink "StackAssembler$Module" (51 : Nat) ({ cls := "java/lang/Math", name := "min", desc := "(II)I" } : Jvm.MethodName)) ∈ kz_TT := kz_g (kz_in2 (List.mem_of_getElem? (i := 21) rfl)) rfl
theorem wt_262 : (Jvm.Cond.static ({ cls := "java/lang/Math", name := "min", desc := "(II)I" } : Jvm.MethodName)) ∈ kz_TT := kz_g (kz_in2 (List.mem_of_getElem? (i := 22) rfl)) rfl
theorem wt_263 : (Jvm.Cond.code ({ cls := "java/lang/Math", name := "min", desc := "(II)I" } : Jvm.MethodName) prog_21_method_69_code (2 : Nat) (Option.some Jvm.ClassFile.FieldType.int)) ∈ kz_TT := kz_g (kz_in2 (List.mem_of_getElem? (i := 23) rfl)) rfl
theorem wt_264 : (Jvm.Cond.methodLink "StackAssembler$Module" (57 : Nat) ({ cls := "java/lang/Math", name := "max", desc := "(II)I" } : Jvm.MethodName)) ∈ kz_TT := kz_g (kz_in2 (List.mem_of_getElem? (i := 24) rfl)) rfl
theorem wt_265 : (Jvm.Cond.static ({ cls := "java/lang/Math", name := "max", desc := "(II)I" } : Jvm.MethodName)) ∈ kz_TT := kz_g (kz_in2 (List.mem_of_getElem? (i := 25) rfl)) rfl
theorem wt_266 : (Jvm.Cond.code ({ cls := "java/lang/Math", name := "max", desc := "(II)I" } : Jvm.MethodName) prog_21_method_65_code (2 : Nat) (Option.some Jvm.ClassFile.FieldType.int)) ∈ kz_TT := kz_g (kz_in2 (List.mem_of_getElem? (i := 26) rfl)) rfl
theorem wt_267 : (Jvm.Cond.instantiable "StackAssembler$Frame" (5 : Nat)) ∈ kz_TT := kz_g (kz_in2 (List.mem_of_getElem? (i := 27) rfl)) rfl
theorem wt_269 : (Jvm.Cond.instanceMethod ({ cls := "StackAssembler$Frame", name := "<init>", desc := "()V" } : Jvm.MethodName)) ∈ kz_TT := kz_g (kz_in2 (List.mem_of_getElem? (i := 29) rfl)) rfl
theorem wt_270 : (Jvm.Cond.code ({ cls := "StackAssembler$Frame", name := "<init>", desc := "()V" } : Jvm.MethodName) prog_5_method_1_code (1 : Nat) (Option.none : Option Jvm.ClassFile.FieldType)) ∈ kz_TT := kz_g (kz_in2 (List.mem_of_getElem? (i := 30) rfl)) rfl
theorem wt_271 : (Jvm.Cond.methodLink "StackAssembler$Frame" (1 : Nat) ({ cls := "java/lang/Object", name := "<init>", desc := "()V" } : Jvm.MethodName)) ∈ kz_TT := kz_g (kz_in2 (List.mem_of_getElem? (i := 31) rfl)) rfl
theorem wt_272 : (Jvm.Cond.fieldLink "StackAssembler$Frame" (7 : Nat) "StackAssembler$Frame" "label" "I") ∈ kz_TT := kz_g (kz_in2 (List.mem_of_getElem? (i := 32) rfl)) rfl
theorem wt_273 : (Jvm.Cond.fieldLink "StackAssembler$Checker" (175 : Nat) "StackAssembler$Frame" "label" "I") ∈ kz_TT := kz_g (kz_in2 (List.mem_of_getElem? (i := 33) rfl)) rfl
theorem wt_274 : (Jvm.Cond.fieldLink "StackAssembler$Frame" (13 : Nat) "StackAssembler$Frame" "result" "I") ∈ kz_TT := kz_g (kz_in2 (List.mem_of_getElem? (i := 34) rfl)) rfl
theorem wt_275 : (Jvm.Cond.fieldLink "StackAssembler$Checker" (161 : Nat) "StackAssembler$Frame" "result" "I") ∈ kz_TT := kz_g (kz_in2 (List.mem_of_getElem? (i := 35) rfl)) rfl
theorem wt_276 : (Jvm.Cond.fieldLink "StackAssembler$Frame" (16 : Nat) "StackAssembler$Frame" "height" "I") ∈ kz_TT := kz_g (kz_in2 (List.mem_of_getElem? (i := 36) rfl)) rfl
theorem wt_277 : (Jvm.Cond.fieldLink "StackAssembler$Checker" (162 : Nat) "StackAssembler$Frame" "height" "I") ∈ kz_TT := kz_g (kz_in2 (List.mem_of_getElem? (i := 37) rfl)) rfl
theorem wt_278 : (Jvm.Cond.fieldLink "StackAssembler$Frame" (19 : Nat) "StackAssembler$Frame" "unreachable" "Z") ∈ kz_TT := kz_g (kz_in2 (List.mem_of_getElem? (i := 38) rfl)) rfl
theorem wt_279 : (Jvm.Cond.fieldLink "StackAssembler$Checker" (163 : Nat) "StackAssembler$Frame" "unreachable" "Z") ∈ kz_TT := kz_g (kz_in2 (List.mem_of_getElem? (i := 39) rfl)) rfl
theorem wt_280 : (Jvm.Cond.fieldLink "StackAssembler$Frame" (23 : Nat) "StackAssembler$Frame" "lacksElse" "Z") ∈ kz_TT := kz_g (kz_in2 (List.mem_of_getElem? (i := 40) rfl)) rfl
theorem wt_281 : (Jvm.Cond.fieldLink "StackAssembler$Checker" (158 : Nat) "StackAssembler$Frame" "lacksElse" "Z") ∈ kz_TT := kz_g (kz_in2 (List.mem_of_getElem? (i := 41) rfl)) rfl
theorem wt_282 : (Jvm.Cond.lays "StackAssembler$Frame" "StackAssembler$Frame" "label" "I") ∈ kz_TT := kz_g (kz_in2 (List.mem_of_getElem? (i := 42) rfl)) rfl
theorem wt_284 : (Jvm.Cond.lays "StackAssembler$Frame" "StackAssembler$Frame" "result" "I") ∈ kz_TT := kz_g (kz_in2 (List.mem_of_getElem? (i := 44) rfl)) rfl
theorem wt_286 : (Jvm.Cond.lays "StackAssembler$Frame" "StackAssembler$Frame" "height" "I") ∈ kz_TT := kz_g (kz_in2 (List.mem_of_getElem? (i := 46) rfl)) rfl
theorem wt_288 : (Jvm.Cond.lays "StackAssembler$Frame" "StackAssembler$Frame" "unreachable" "Z") ∈ kz_TT := kz_g (kz_in2 (List.mem_of_getElem? (i := 48) rfl)) rfl
theorem wt_290 : (Jvm.Cond.lays "StackAssembler$Frame" "StackAssembler$Frame" "lacksElse" "Z") ∈ kz_TT := kz_g (kz_in2 (List.mem_of_getElem? (i := 50) rfl)) rfl
theorem wt_293 : (Jvm.Cond.fieldLink "StackAssembler$Checker" (9 : Nat) "StackAssembler$Checker" "stack" "[I") ∈ kz_TT := kz_g (kz_in2 (List.mem_of_getElem? (i := 53) rfl)) rfl
theorem wt_294 : (Jvm.Cond.fieldLink "StackAssembler$Checker" (17 : Nat) "StackAssembler$Checker" "frames" "[LStackAssembler$Frame;") ∈ kz_TT := kz_g (kz_in2 (List.mem_of_getElem? (i := 54) rfl)) rfl
theorem wt_295 : (Jvm.Cond.fieldLink "StackAssembler$Checker" (21 : Nat) "StackAssembler$Checker" "module" "LStackAssembler$Module;") ∈ kz_TT := kz_g (kz_in2 (List.mem_of_getElem? (i := 55) rfl)) rfl
theorem wt_296 : (Jvm.Cond.fieldLink "StackAssembler$Checker" (31 : Nat) "StackAssembler$Checker" "function" "LStackAssembler$Function;") ∈ kz_TT := kz_g (kz_in2 (List.mem_of_getElem? (i := 56) rfl)) rfl
theorem wt_297 : (Jvm.Cond.fieldLink "StackAssembler$Checker" (55 : Nat) "StackAssembler$Checker" "height" "I") ∈ kz_TT := kz_g (kz_in2 (List.mem_of_getElem? (i := 57) rfl)) rfl
theorem wt_298 : (Jvm.Cond.fieldLink "StackAssembler$Checker" (58 : Nat) "StackAssembler$Checker" "depth" "I") ∈ kz_TT := kz_g (kz_in2 (List.mem_of_getElem? (i := 58) rfl)) rfl
theorem wt_299 : (Jvm.Cond.fieldLink "StackAssembler$Checker" (36 : Nat) "StackAssembler$Checker" "invalid" "Z") ∈ kz_TT := kz_g (kz_in2 (List.mem_of_getElem? (i := 59) rfl)) rfl
theorem wt_300 : (Jvm.Cond.fieldLink "StackAssembler$Checker" (52 : Nat) "StackAssembler$Checker" "stop" "I") ∈ kz_TT := kz_g (kz_in2 (List.mem_of_getElem? (i := 60) rfl)) rfl
theorem wt_302 : (Jvm.Cond.laysFinal "StackAssembler$Checker" "StackAssembler$Checker" "stack" "[I") ∈ kz_TT := kz_g (kz_in2 (List.mem_of_getElem? (i := 62) rfl)) rfl
theorem wt_304 : (Jvm.Cond.laysFinal "StackAssembler$Checker" "StackAssembler$Checker" "frames" "[LStackAssembler$Frame;") ∈ kz_TT := kz_g (kz_in2 (List.mem_of_getElem? (i := 64) rfl)) rfl
theorem wt_306 : (Jvm.Cond.lays "StackAssembler$Checker" "StackAssembler$Checker" "module" "LStackAssembler$Module;") ∈ kz_TT := kz_g (kz_in2 (List.mem_of_getElem? (i := 66) rfl)) rfl
theorem wt_308 : (Jvm.Cond.lays "StackAssembler$Checker" "StackAssembler$Checker" "function" "LStackAssembler$Function;") ∈ kz_TT := kz_g (kz_in2 (List.mem_of_getElem? (i := 68) rfl)) rfl
theorem wt_310 : (Jvm.Cond.lays "StackAssembler$Checker" "StackAssembler$Checker" "height" "I") ∈ kz_TT := kz_g (kz_in2 (List.mem_of_getElem? (i := 70) rfl)) rfl
theorem wt_312 : (Jvm.Cond.lays "StackAssembler$Checker" "StackAssembler$Checker" "depth" "I") ∈ kz_TT := kz_g (kz_in2 (List.mem_of_getElem? (i := 72) rfl)) rfl
theorem wt_314 : (Jvm.Cond.lays "StackAssembler$Checker" "StackAssembler$Checker" "invalid" "Z") ∈ kz_TT := kz_g (kz_in2 (List.mem_of_getElem? (i := 74) rfl)) rfl
theorem wt_316 : (Jvm.Cond.lays "StackAssembler$Checker" "StackAssembler$Checker" "stop" "I") ∈ kz_TT := kz_g (kz_in2 (List.mem_of_getElem? (i := 76) rfl)) rfl
theorem wt_319 : (Jvm.Cond.classLink "StackAssembler" (47 : Nat) "StackAssembler$Encoder") ∈ kz_TT := kz_g (kz_in2 (List.mem_of_getElem? (i := 79) rfl)) rfl
theorem wt_320 : (Jvm.Cond.instantiable "StackAssembler$Encoder" (3 : Nat)) ∈ kz_TT := kz_g (kz_in2 (List.mem_of_getElem? (i := 80) rfl)) rfl
theorem wt_322 : (Jvm.Cond.instanceMethod ({ cls := "StackAssembler$Encoder", name := "<init>", desc := "()V" } : Jvm.MethodName)) ∈ kz_TT := kz_g (kz_in2 (List.mem_of_getElem? (i := 82) rfl)) rfl
theorem wt_323 : (Jvm.Cond.code ({ cls := "StackAssembler$Encoder", name := "<init>", desc := "()V" } : Jvm.MethodName) prog_4_method_1_code (1 : Nat) (Option.none : Option Jvm.ClassFile.FieldType)) ∈ kz_TT := kz_g (kz_in2 (List.mem_of_getElem? (i := 83) rfl)) rfl
theorem wt_324 : (Jvm.Cond.methodLink "StackAssembler$Encoder" (3 : Nat) ({ cls := "java/lang/Object", name := "<init>", desc := "()V" } : Jvm.MethodName)) ∈ kz_TT := kz_g (kz_in2 (List.mem_of_getElem? (i := 84) rfl)) rfl
theorem wt_325 : (Jvm.Cond.fieldLink "StackAssembler$Encoder" (11 : Nat) "StackAssembler$Encoder" "octets" "[B") ∈ kz_TT := kz_g (kz_in2 (List.mem_of_getElem? (i := 85) rfl)) rfl
theorem wt_326 : (Jvm.Cond.fieldLink "StackAssembler$Encoder" (15 : Nat) "StackAssembler$Encoder" "signatures" "[I") ∈ kz_TT := kz_g (kz_in2 (List.mem_of_getElem? (i := 86) rfl)) rfl
theorem wt_327 : (Jvm.Cond.fieldLink "StackAssembler$Encoder" (19 : Nat) "StackAssembler$Encoder" "count" "I") ∈ kz_TT := kz_g (kz_in2 (List.mem_of_getElem? (i := 87) rfl)) rfl
theorem wt_328 : (Jvm.Cond.fieldLink "StackAssembler" (113 : Nat) "StackAssembler$Encoder" "count" "I") ∈ kz_TT := kz_g (kz_in2 (List.mem_of_getElem? (i := 88) rfl)) rfl
theorem wt_329 : (Jvm.Cond.laysFinal "StackAssembler$Encoder" "StackAssembler$Encoder" "octets" "[B") ∈ kz_TT := kz_g (kz_in2 (List.mem_of_getElem? (i := 89) rfl)) rfl
theorem wt_331 : (Jvm.Cond.laysFinal "StackAssembler$Encoder" "StackAssembler$Encoder" "signatures" "[I") ∈ kz_TT := kz_g (kz_in2 (List.mem_of_getElem? (i := 91) rfl)) rfl
theorem wt_333 : (Jvm.Cond.lays "StackAssembler$Encoder" "StackAssembler$Encoder" "count" "I") ∈ kz_TT := kz_g (kz_in2 (List.mem_of_getElem? (i := 93) rfl)) rfl
theorem wt_336 : (Jvm.Cond.arrayClass Jvm.ClassFile.FieldType.byte) ∈ kz_TT := kz_g (kz_in2 (List.mem_of_getElem? (i := 96) rfl)) rfl
theorem wt_337 : (Jvm.Cond.classLink "StackAssembler" (54 : Nat) "StackAssembler$Printer") ∈ kz_TT := kz_g (kz_in2 (List.mem_of_getElem? (i := 97) rfl)) rfl
theorem wt_338 : (Jvm.Cond.instantiable "StackAssembler$Printer" (1 : Nat)) ∈ kz_TT := kz_g (kz_in2 (List.mem_of_getElem? (i := 98) rfl)) rfl
theorem wt_339 : (Jvm.Cond.methodLink "StackAssembler" (56 : Nat) ({ cls := "StackAssembler$Printer", name := "<init>", desc := "(LStackAssembler$Text;)V" } : Jvm.MethodName)) ∈ kz_TT := kz_g (kz_in2 (List.mem_of_getElem? (i := 99) rfl)) rfl
theorem wt_340 : (Jvm.Cond.instanceMethod ({ cls := "StackAssembler$Printer", name := "<init>", desc := "(LStackAssembler$Text;)V" } : Jvm.MethodName)) ∈ kz_TT := kz_g (kz_in2 (List.mem_of_getElem? (i := 100) rfl)) rfl
theorem wt_341 : (Jvm.Cond.code ({ cls := "StackAssembler$Printer", name := "<init>", desc := "(LStackAssembler$Text;)V" } : Jvm.MethodName) prog_10_method_1_code (2 : Nat) (Option.none : Option Jvm.ClassFile.FieldType)) ∈ kz_TT := kz_g (kz_in2 (List.mem_of_getElem? (i := 101) rfl)) rfl
theorem wt_342 : (Jvm.Cond.methodLink "StackAssembler$Printer" (3 : Nat) ({ cls := "java/lang/Object", name := "<init>", desc := "()V" } : Jvm.MethodName)) ∈ kz_TT := kz_g (kz_in2 (List.mem_of_getElem? (i := 102) rfl)) rfl
theorem wt_343 : (Jvm.Cond.fieldLink "StackAssembler$Printer" (9 : Nat) "StackAssembler$Printer" "text" "LStackAssembler$Text;") ∈ kz_TT := kz_g (kz_in2 (List.mem_of_getElem? (i := 103) rfl)) rfl
theorem wt_344 : (Jvm.Cond.lays "StackAssembler$Printer" "StackAssembler$Printer" "text" "LStackAssembler$Text;") ∈ kz_TT := kz_g (kz_in2 (List.mem_of_getElem? (i := 104) rfl)) rfl
theorem wt_347 : (Jvm.Cond.fieldLink "StackAssembler" (34 : Nat) "StackAssembler" "reader" "LStackAssembler$Reader;") ∈ kz_TT := kz_g (kz_in2 (List.mem_of_getElem? (i := 107) rfl)) rfl
theorem wt_348 : (Jvm.Cond.fieldLink "StackAssembler" (43 : Nat) "StackAssembler" "checker" "LStackAssembler$Checker;") ∈ kz_TT := kz_g (kz_in2 (List.mem_of_getElem? (i := 108) rfl)) rfl
theorem wt_349 : (Jvm.Cond.fieldLink "StackAssembler" (50 : Nat) "StackAssembler" "encoder" "LStackAssembler$Encoder;") ∈ kz_TT := kz_g (kz_in2 (List.mem_of_getElem? (i := 109) rfl)) rfl
theorem wt_350 : (Jvm.Cond.fieldLink "StackAssembler" (59 : Nat) "StackAssembler" "printer" "LStackAssembler$Printer;") ∈ kz_TT := kz_g (kz_in2 (List.mem_of_getElem? (i := 110) rfl)) rfl
theorem wt_351 : (Jvm.Cond.fieldLink "StackAssembler" (10 : Nat) "StackAssembler" "text" "LStackAssembler$Text;") ∈ kz_TT := kz_g (kz_in2 (List.mem_of_getElem? (i := 111) rfl)) rfl
theorem wt_352 : (Jvm.Cond.fieldLink "StackAssembler" (16 : Nat) "StackAssembler" "spareText" "LStackAssembler$Text;") ∈ kz_TT := kz_g (kz_in2 (List.mem_of_getElem? (i := 112) rfl)) rfl
theorem wt_353 : (Jvm.Cond.fieldLink "StackAssembler" (22 : Nat) "StackAssembler" "module" "LStackAssembler$Module;") ∈ kz_TT := kz_g (kz_in2 (List.mem_of_getElem? (i := 113) rfl)) rfl
theorem wt_354 : (Jvm.Cond.fieldLink "StackAssembler" (26 : Nat) "StackAssembler" "spareModule" "LStackAssembler$Module;") ∈ kz_TT := kz_g (kz_in2 (List.mem_of_getElem? (i := 114) rfl)) rfl
theorem wt_355 : (Jvm.Cond.fieldLink "StackAssembler" (82 : Nat) "StackAssembler" "place" "I") ∈ kz_TT := kz_g (kz_in2 (List.mem_of_getElem? (i := 115) rfl)) rfl
theorem wt_356 : (Jvm.Cond.laysFinal "StackAssembler" "StackAssembler" "reader" "LStackAssembler$Reader;") ∈ kz_TT := kz_g (kz_in2 (List.mem_of_getElem? (i := 116) rfl)) rfl
theorem wt_358 : (Jvm.Cond.laysFinal "StackAssembler" "StackAssembler" "checker" "LStackAssembler$Checker;") ∈ kz_TT := kz_g (kz_in2 (List.mem_of_getElem? (i := 118) rfl)) rfl
theorem wt_360 : (Jvm.Cond.laysFinal "StackAssembler" "StackAssembler" "encoder" "LStackAssembler$Encoder;") ∈ kz_TT := kz_g (kz_in2 (List.mem_of_getElem? (i := 120) rfl)) rfl
theorem wt_362 : (Jvm.Cond.laysFinal "StackAssembler" "StackAssembler" "printer" "LStackAssembler$Printer;") ∈ kz_TT := kz_g (kz_in2 (List.mem_of_getElem? (i := 122) rfl)) rfl
theorem wt_364 : (Jvm.Cond.lays "StackAssembler" "StackAssembler" "text" "LStackAssembler$Text;") ∈ kz_TT := kz_g (kz_in2 (List.mem_of_getElem? (i := 124) rfl)) rfl
theorem wt_366 : (Jvm.Cond.lays "StackAssembler" "StackAssembler" "spareText" "LStackAssembler$Text;") ∈ kz_TT := kz_g (kz_in2 (List.mem_of_getElem? (i := 126) rfl)) rfl
theorem wt_368 : (Jvm.Cond.lays "StackAssembler" "StackAssembler" "module" "LStackAssembler$Module;") ∈ kz_TT := kz_g (kz_in2 (List.mem_of_getElem? (i := 128) rfl)) rfl
theorem wt_370 : (Jvm.Cond.lays "StackAssembler" "StackAssembler" "spareModule" "LStackAssembler$Module;") ∈ kz_TT := kz_g (kz_in2 (List.mem_of_getElem? (i := 130) rfl)) rfl
theorem wt_372 : (Jvm.Cond.lays "StackAssembler" "StackAssembler" "place" "I") ∈ kz_TT := kz_g (kz_in2 (List.mem_of_getElem? (i := 132) rfl)) rfl
theorem wt_376 : (Jvm.Cond.instanceMethod ({ cls := "StackAssembler", name := "type", desc := "(J)Z" } : Jvm.MethodName)) ∈ kz_TT := kz_g (kz_in2 (List.mem_of_getElem? (i := 136) rfl)) rfl
theorem wt_377 : (Jvm.Cond.selects "StackAssembler" ({ cls := "StackAssembler", name := "type", desc := "(J)Z" } : Jvm.MethodName) ({ cls := "StackAssembler", name := "type", desc := "(J)Z" } : Jvm.MethodName)) ∈ kz_TT := kz_g (kz_in2 (List.mem_of_getElem? (i := 137) rfl)) rfl
theorem wt_378 : (Jvm.Cond.code ({ cls := "StackAssembler", name := "type", desc := "(J)Z" } : Jvm.MethodName) prog_1_method_2_code (3 : Nat) (Option.some Jvm.ClassFile.FieldType.boolean)) ∈ kz_TT := kz_g (kz_in2 (List.mem_of_getElem? (i := 138) rfl)) rfl
theorem wt_379 : (Jvm.Cond.methodLink "StackAssembler" (63 : Nat) ({ cls := "StackAssembler$Text", name := "addBytes", desc := "(J)Z" } : Jvm.MethodName)) ∈ kz_TT := kz_g (kz_in2 (List.mem_of_getElem? (i := 139) rfl)) rfl
theorem wt_380 : (Jvm.Cond.instanceMethod ({ cls := "StackAssembler$Text", name := "addBytes", desc := "(J)Z" } : Jvm.MethodName)) ∈ kz_TT := kz_g (kz_in2 (List.mem_of_getElem? (i := 140) rfl)) rfl
theorem wt_381 : (Jvm.Cond.selects "StackAssembler$Text" ({ cls := "StackAssembler$Text", name := "addBytes", desc := "(J)Z" } : Jvm.MethodName) ({ cls := "StackAssembler$Text", name := "addBytes", desc := "(J)Z" } : Jvm.MethodName)) ∈ kz_TT := kz_g (kz_in2 (List.mem_of_getElem? (i := 141) rfl)) rfl
theorem wt_382 : (Jvm.Cond.code ({ cls := "StackAssembler$Text", name := "addBytes", desc := "(J)Z" } : Jvm.MethodName) prog_13_method_6_code (6 : Nat) (Option.some Jvm.ClassFile.FieldType.boolean)) ∈ kz_TT := kz_g (kz_in2 (List.mem_of_getElem? (i := 142) rfl)) rfl
theorem wt_383 : (Jvm.Cond.methodLink "StackAssembler$Text" (28 : Nat) ({ cls := "StackAssembler$Text", name := "add", desc := "(C)V" } : Jvm.MethodName)) ∈ kz_TT := kz_g (kz_in2 (List.mem_of_getElem? (i := 143) rfl)) rfl
theorem wt_384 : (Jvm.Cond.instanceMethod ({ cls := "StackAssembler$Text", name := "add", desc := "(C)V" } : Jvm.MethodName)) ∈ kz_TT := kz_g (kz_in2 (List.mem_of_getElem? (i := 144) rfl)) rfl
theorem wt_385 : (Jvm.Cond.selects "StackAssembler$Text" ({ cls := "StackAssembler$Text", name := "add", desc := "(C)V" } : Jvm.MethodName) ({ cls := "StackAssembler$Text", name := "add", desc := "(C)V" } : Jvm.MethodName)) ∈ kz_TT := kz_g (kz_in2 (List.mem_of_getElem? (i := 145) rfl)) rfl
theorem wt_386 : (Jvm.Cond.code ({ cls := "StackAssembler$Text", name := "add", desc := "(C)V" } : Jvm.MethodName) prog_13_method_3_code (2 : Nat) (Option.none : Option Jvm.ClassFile.FieldType)) ∈ kz_TT := kz_g (kz_in2 (List.mem_of_getElem? (i := 146) rfl)) rfl
theorem wt_388 : (Jvm.Cond.instanceMethod ({ cls := "StackAssembler", name := "wipe", desc := "()V" } : Jvm.MethodName)) ∈ kz_TT := kz_g (kz_in2 (List.mem_of_getElem? (i := 148) rfl)) rfl
theorem wt_389 : (Jvm.Cond.selects "StackAssembler" ({ cls := "StackAssembler", name := "wipe", desc := "()V" } : Jvm.MethodName) ({ cls := "StackAssembler", name := "wipe", desc := "()V" } : Jvm.MethodName)) ∈ kz_TT := kz_g (kz_in2 (List.mem_of_getElem? (i := 149) rfl)) rfl
theorem wt_390 : (Jvm.Cond.code ({ cls := "StackAssembler", name := "wipe", desc := "()V" } : Jvm.MethodName) prog_1_method_3_code (1 : Nat) (Option.none : Option Jvm.ClassFile.FieldType)) ∈ kz_TT := kz_g (kz_in2 (List.mem_of_getElem? (i := 150) rfl)) rfl
theorem wt_392 : (Jvm.Cond.instanceMethod ({ cls := "StackAssembler", name := "character", desc := "(I)C" } : Jvm.MethodName)) ∈ kz_TT := kz_g (kz_in2 (List.mem_of_getElem? (i := 152) rfl)) rfl
theorem wt_393 : (Jvm.Cond.selects "StackAssembler" ({ cls := "StackAssembler", name := "character", desc := "(I)C" } : Jvm.MethodName) ({ cls := "StackAssembler", name := "character", desc := "(I)C" } : Jvm.MethodName)) ∈ kz_TT := kz_g (kz_in2 (List.mem_of_getElem? (i := 153) rfl)) rfl
theorem wt_394 : (Jvm.Cond.code ({ cls := "StackAssembler", name := "character", desc := "(I)C" } : Jvm.MethodName) prog_1_method_4_code (2 : Nat) (Option.some Jvm.ClassFile.FieldType.char)) ∈ kz_TT := kz_g (kz_in2 (List.mem_of_getElem? (i := 154) rfl)) rfl
theorem wt_395 : (Jvm.Cond.methodLink "StackAssembler" (71 : Nat) ({ cls := "StackAssembler$Text", name := "at", desc := "(I)C" } : Jvm.MethodName)) ∈ kz_TT := kz_g (kz_in2 (List.mem_of_getElem? (i := 155) rfl)) rfl
theorem wt_396 : (Jvm.Cond.instanceMethod ({ cls := "StackAssembler$Text", name := "at", desc := "(I)C" } : Jvm.MethodName)) ∈ kz_TT := kz_g (kz_in2 (List.mem_of_getElem? (i := 156) rfl)) rfl
theorem wt_397 : (Jvm.Cond.selects "StackAssembler$Text" ({ cls := "StackAssembler$Text", name := "at", desc := "(I)C" } : Jvm.MethodName) ({ cls := "StackAssembler$Text", name := "at", desc := "(I)C" } : Jvm.MethodName)) ∈ kz_TT := kz_g (kz_in2 (List.mem_of_getElem? (i := 157) rfl)) rfl
theorem wt_398 : (Jvm.Cond.code ({ cls := "StackAssembler$Text", name := "at", desc := "(I)C" } : Jvm.MethodName) prog_13_method_2_code (2 : Nat) (Option.some Jvm.ClassFile.FieldType.char)) ∈ kz_TT := kz_g (kz_in2 (List.mem_of_getElem? (i := 158) rfl)) rfl
theorem wt_400 : (Jvm.Cond.instanceMethod ({ cls := "StackAssembler", name := "encode", desc := "()I" } : Jvm.MethodName)) ∈ kz_TT := kz_g (kz_in2 (List.mem_of_getElem? (i := 160) rfl)) rfl
theorem wt_401 : (Jvm.Cond.selects "StackAssembler" ({ cls := "StackAssembler", name := "encode", desc := "()I" } : Jvm.MethodName) ({ cls := "StackAssembler", name := "encode", desc := "()I" } : Jvm.MethodName)) ∈ kz_TT := kz_g (kz_in2 (List.mem_of_getElem? (i := 161) rfl)) rfl
theorem wt_402 : (Jvm.Cond.code ({ cls := "StackAssembler", name := "encode", desc := "()I" } : Jvm.MethodName) prog_1_method_6_code (1 : Nat) (Option.some Jvm.ClassFile.FieldType.int)) ∈ kz_TT := kz_g (kz_in2 (List.mem_of_getElem? (i := 162) rfl)) rfl
theorem wt_403 : (Jvm.Cond.methodLink "StackAssembler" (110 : Nat) ({ cls := "StackAssembler$Encoder", name := "write", desc := "(LStackAssembler$Module;)V" } : Jvm.MethodName)) ∈ kz_TT := kz_g (kz_in2 (List.mem_of_getElem? (i := 163) rfl)) rfl
theorem wt_404 : (Jvm.Cond.instanceMethod ({ cls := "StackAssembler$Encoder", name := "write", desc := "(LStackAssembler$Module;)V" } : Jvm.MethodName)) ∈ kz_TT := kz_g (kz_in2 (List.mem_of_getElem? (i := 164) rfl)) rfl
theorem wt_405 : (Jvm.Cond.selects "StackAssembler$Encoder" ({ cls := "StackAssembler$Encoder", name := "write", desc := "(LStackAssembler$Module;)V" } : Jvm.MethodName) ({ cls := "StackAssembler$Encoder", name := "write", desc := "(LStackAssembler$Module;)V" } : Jvm.MethodName)) ∈ kz_TT := kz_g (kz_in2 (List.mem_of_getElem? (i := 165) rfl)) rfl
theorem wt_406 : (Jvm.Cond.code ({ cls := "StackAssembler$Encoder", name := "write", desc := "(LStackAssembler$Module;)V" } : Jvm.MethodName) prog_4_method_3_code (3 : Nat) (Option.none : Option Jvm.ClassFile.FieldType)) ∈ kz_TT := kz_g (kz_in2 (List.mem_of_getElem? (i := 166) rfl)) rfl
theorem wt_407 : (Jvm.Cond.fieldLink "StackAssembler$Encoder" (23 : Nat) "StackAssembler$Encoder" "HEADER" "[I") ∈ kz_TT := kz_g (kz_in2 (List.mem_of_getElem? (i := 167) rfl)) rfl
theorem wt_409 : (Jvm.Cond.methodLink "StackAssembler$Encoder" (26 : Nat) ({ cls := "StackAssembler$Encoder", name := "add", desc := "(I)V" } : Jvm.MethodName)) ∈ kz_TT := kz_g (kz_in2 (List.mem_of_getElem? (i := 169) rfl)) rfl
theorem wt_411 : (Jvm.Cond.instanceMethod ({ cls := "StackAssembler$Encoder", name := "add", desc := "(I)V" } : Jvm.MethodName)) ∈ kz_TT := kz_g (kz_in2 (List.mem_of_getElem? (i := 171) rfl)) rfl
theorem wt_412 : (Jvm.Cond.code ({ cls := "StackAssembler$Encoder", name := "add", desc := "(I)V" } : Jvm.MethodName) prog_4_method_16_code (2 : Nat) (Option.none : Option Jvm.ClassFile.FieldType)) ∈ kz_TT := kz_g (kz_in2 (List.mem_of_getElem? (i := 172) rfl)) rfl
theorem wt_413 : (Jvm.Cond.methodLink "StackAssembler$Encoder" (33 : Nat) ({ cls := "StackAssembler$Encoder", name := "addSignatures", desc := "(LStackAssembler$Module;)V" } : Jvm.MethodName)) ∈ kz_TT := kz_g (kz_in2 (List.mem_of_getElem? (i := 173) rfl)) rfl
theorem wt_415 : (Jvm.Cond.instanceMethod ({ cls := "StackAssembler$Encoder", name := "addSignatures", desc := "(LStackAssembler$Module;)V" } : Jvm.MethodName)) ∈ kz_TT := kz_g (kz_in2 (List.mem_of_getElem? (i := 175) rfl)) rfl
theorem wt_416 : (Jvm.Cond.code ({ cls := "StackAssembler$Encoder", name := "addSignatures", desc := "(LStackAssembler$Module;)V" } : Jvm.MethodName) prog_4_method_4_code (5 : Nat) (Option.none : Option Jvm.ClassFile.FieldType)) ∈ kz_TT := kz_g (kz_in2 (List.mem_of_getElem? (i := 176) rfl)) rfl
theorem wt_417 : (Jvm.Cond.methodLink "StackAssembler$Encoder" (43 : Nat) ({ cls := "StackAssembler$Encoder", name := "numberSignatures", desc := "(LStackAssembler$Module;)I" } : Jvm.MethodName)) ∈ kz_TT := kz_g (kz_in2 (List.mem_of_getElem? (i := 177) rfl)) rfl
theorem wt_419 : (Jvm.Cond.instanceMethod ({ cls := "StackAssembler$Encoder", name := "numberSignatures", desc := "(LStackAssembler$Module;)I" } : Jvm.MethodName)) ∈ kz_TT := kz_g (kz_in2 (List.mem_of_getElem? (i := 179) rfl)) rfl
theorem wt_420 : (Jvm.Cond.code ({ cls := "StackAssembler$Encoder", name := "numberSignatures", desc := "(LStackAssembler$Module;)I" } : Jvm.MethodName) prog_4_method_5_code (5 : Nat) (Option.some Jvm.ClassFile.FieldType.int)) ∈ kz_TT := kz_g (kz_in2 (List.mem_of_getElem? (i := 180) rfl)) rfl
theorem wt_421 : (Jvm.Cond.methodLink "StackAssembler$Encoder" (62 : Nat) ({ cls := "StackAssembler$Function", name := "isCalledLike", desc := "(LStackAssembler$Function;)Z" } : Jvm.MethodName)) ∈ kz_TT := kz_g (kz_in2 (List.mem_of_getElem? (i := 181) rfl)) rfl
theorem wt_422 : (Jvm.Cond.instanceMethod ({ cls := "StackAssembler$Function", name := "isCalledLike", desc := "(LStackAssembler$Function;)Z" } : Jvm.MethodName)) ∈ kz_TT := kz_g (kz_in2 (List.mem_of_getElem? (i := 182) rfl)) rfl
theorem wt_423 : (Jvm.Cond.selects "StackAssembler$Function" ({ cls := "StackAssembler$Function", name := "isCalledLike", desc := "(LStackAssembler$Function;)Z" } : Jvm.MethodName) ({ cls := "StackAssembler$Function", name := "isCalledLike", desc := "(LStackAssembler$Function;)Z" } : Jvm.MethodName)) ∈ kz_TT := kz_g (kz_in2 (List.mem_of_getElem? (i := 183) rfl)) rfl
theorem wt_424 : (Jvm.Cond.code ({ cls := "StackAssembler$Function", name := "isCalledLike", desc := "(LStackAssembler$Function;)Z" } : Jvm.MethodName) prog_6_method_6_code (4 : Nat) (Option.some Jvm.ClassFile.FieldType.boolean)) ∈ kz_TT := kz_g (kz_in2 (List.mem_of_getElem? (i := 184) rfl)) rfl
theorem wt_425 : (Jvm.Cond.methodLink "StackAssembler$Encoder" (47 : Nat) ({ cls := "StackAssembler$Encoder", name := "addUnsigned", desc := "(J)V" } : Jvm.MethodName)) ∈ kz_TT := kz_g (kz_in2 (List.mem_of_getElem? (i := 185) rfl)) rfl
theorem wt_427 : (Jvm.Cond.instanceMethod ({ cls := "StackAssembler$Encoder", name := "addUnsigned", desc := "(J)V" } : Jvm.MethodName)) ∈ kz_TT := kz_g (kz_in2 (List.mem_of_getElem? (i := 187) rfl)) rfl
theorem wt_428 : (Jvm.Cond.code ({ cls := "StackAssembler$Encoder", name := "addUnsigned", desc := "(J)V" } : Jvm.MethodName) prog_4_method_14_code (6 : Nat) (Option.none : Option Jvm.ClassFile.FieldType)) ∈ kz_TT := kz_g (kz_in2 (List.mem_of_getElem? (i := 188) rfl)) rfl
theorem wt_429 : (Jvm.Cond.constantLong "StackAssembler$Encoder" (128 : Nat) (127 : Int64)) ∈ kz_TT := kz_g (kz_in2 (List.mem_of_getElem? (i := 189) rfl)) rfl
theorem wt_430 : (Jvm.Cond.methodLink "StackAssembler$Encoder" (55 : Nat) ({ cls := "StackAssembler$Encoder", name := "addSignature", desc := "(LStackAssembler$Function;)V" } : Jvm.MethodName)) ∈ kz_TT := kz_g (kz_in2 (List.mem_of_getElem? (i := 190) rfl)) rfl
theorem wt_432 : (Jvm.Cond.instanceMethod ({ cls := "StackAssembler$Encoder", name := "addSignature", desc := "(LStackAssembler$Function;)V" } : Jvm.MethodName)) ∈ kz_TT := kz_g (kz_in2 (List.mem_of_getElem? (i := 192) rfl)) rfl
theorem wt_433 : (Jvm.Cond.code ({ cls := "StackAssembler$Encoder", name := "addSignature", desc := "(LStackAssembler$Function;)V" } : Jvm.MethodName) prog_4_method_6_code (3 : Nat) (Option.none : Option Jvm.ClassFile.FieldType)) ∈ kz_TT := kz_g (kz_in2 (List.mem_of_getElem? (i := 193) rfl)) rfl
theorem wt_434 : (Jvm.Cond.methodLink "StackAssembler$Encoder" (74 : Nat) ({ cls := "StackAssembler$Encoder", name := "addType", desc := "(I)V" } : Jvm.MethodName)) ∈ kz_TT := kz_g (kz_in2 (List.mem_of_getElem? (i := 194) rfl)) rfl
theorem wt_436 : (Jvm.Cond.instanceMethod ({ cls := "StackAssembler$Encoder", name := "addType", desc := "(I)V" } : Jvm.MethodName)) ∈ kz_TT := kz_g (kz_in2 (List.mem_of_getElem? (i := 196) rfl)) rfl
theorem wt_437 : (Jvm.Cond.code ({ cls := "StackAssembler$Encoder", name := "addType", desc := "(I)V" } : Jvm.MethodName) prog_4_method_13_code (2 : Nat) (Option.none : Option Jvm.ClassFile.FieldType)) ∈ kz_TT := kz_g (kz_in2 (List.mem_of_getElem? (i := 197) rfl)) rfl
theorem wt_438 : (Jvm.Cond.methodLink "StackAssembler$Encoder" (59 : Nat) ({ cls := "StackAssembler$Encoder", name := "putSizeAhead", desc := "(I)V" } : Jvm.MethodName)) ∈ kz_TT := kz_g (kz_in2 (List.mem_of_getElem? (i := 198) rfl)) rfl
theorem wt_440 : (Jvm.Cond.instanceMethod ({ cls := "StackAssembler$Encoder", name := "putSizeAhead", desc := "(I)V" } : Jvm.MethodName)) ∈ kz_TT := kz_g (kz_in2 (List.mem_of_getElem? (i := 200) rfl)) rfl
theorem wt_441 : (Jvm.Cond.code ({ cls := "StackAssembler$Encoder", name := "putSizeAhead", desc := "(I)V" } : Jvm.MethodName) prog_4_method_17_code (6 : Nat) (Option.none : Option Jvm.ClassFile.FieldType)) ∈ kz_TT := kz_g (kz_in2 (List.mem_of_getElem? (i := 201) rfl)) rfl
theorem wt_442 : (Jvm.Cond.methodLink "StackAssembler$Encoder" (37 : Nat) ({ cls := "StackAssembler$Encoder", name := "addSignatureNumbers", desc := "(LStackAssembler$Module;)V" } : Jvm.MethodName)) ∈ kz_TT := kz_g (kz_in2 (List.mem_of_getElem? (i := 202) rfl)) rfl
theorem wt_444 : (Jvm.Cond.instanceMethod ({ cls := "StackAssembler$Encoder", name := "addSignatureNumbers", desc := "(LStackAssembler$Module;)V" } : Jvm.MethodName)) ∈ kz_TT := kz_g (kz_in2 (List.mem_of_getElem? (i := 204) rfl)) rfl
theorem wt_445 : (Jvm.Cond.code ({ cls := "StackAssembler$Encoder", name := "addSignatureNumbers", desc := "(LStackAssembler$Module;)V" } : Jvm.MethodName) prog_4_method_7_code (4 : Nat) (Option.none : Option Jvm.ClassFile.FieldType)) ∈ kz_TT := kz_g (kz_in2 (List.mem_of_getElem? (i := 205) rfl)) rfl
theorem wt_446 : (Jvm.Cond.methodLink "StackAssembler$Encoder" (40 : Nat) ({ cls := "StackAssembler$Encoder", name := "addBodies", desc := "(LStackAssembler$Module;)V" } : Jvm.MethodName)) ∈ kz_TT := kz_g (kz_in2 (List.mem_of_getElem? (i := 206) rfl)) rfl
theorem wt_448 : (Jvm.Cond.instanceMethod ({ cls := "StackAssembler$Encoder", name := "addBodies", desc := "(LStackAssembler$Module;)V" } : Jvm.MethodName)) ∈ kz_TT := kz_g (kz_in2 (List.mem_of_getElem? (i := 208) rfl)) rfl
theorem wt_449 : (Jvm.Cond.code ({ cls := "StackAssembler$Encoder", name := "addBodies", desc := "(LStackAssembler$Module;)V" } : Jvm.MethodName) prog_4_method_8_code (4 : Nat) (Option.none : Option Jvm.ClassFile.FieldType)) ∈ kz_TT := kz_g (kz_in2 (List.mem_of_getElem? (i := 209) rfl)) rfl
theorem wt_450 : (Jvm.Cond.methodLink "StackAssembler$Encoder" (80 : Nat) ({ cls := "StackAssembler$Encoder", name := "addBody", desc := "(LStackAssembler$Module;LStackAssembler$Function;)V" } : Jvm.MethodName)) ∈ kz_TT := kz_g (kz_in2 (List.mem_of_getElem? (i := 210) rfl)) rfl
theorem wt_452 : (Jvm.Cond.instanceMethod ({ cls := "StackAssembler$Encoder", name := "addBody", desc := "(LStackAssembler$Module;LStackAssembler$Function;)V" } : Jvm.MethodName)) ∈ kz_TT := kz_g (kz_in2 (List.mem_of_getElem? (i := 212) rfl)) rfl
theorem wt_453 : (Jvm.Cond.code ({ cls := "StackAssembler$Encoder", name := "addBody", desc := "(LStackAssembler$Module;LStackAssembler$Function;)V" } : Jvm.MethodName) prog_4_method_9_code (6 : Nat) (Option.none : Option Jvm.ClassFile.FieldType)) ∈ kz_TT := kz_g (kz_in2 (List.mem_of_getElem? (i := 213) rfl)) rfl
theorem wt_454 : (Jvm.Cond.methodLink "StackAssembler$Encoder" (84 : Nat) ({ cls := "StackAssembler$Encoder", name := "addRuns", desc := "(LStackAssembler$Function;)V" } : Jvm.MethodName)) ∈ kz_TT := kz_g (kz_in2 (List.mem_of_getElem? (i := 214) rfl)) rfl
theorem wt_456 : (Jvm.Cond.instanceMethod ({ cls := "StackAssembler$Encoder", name := "addRuns", desc := "(LStackAssembler$Function;)V" } : Jvm.MethodName)) ∈ kz_TT := kz_g (kz_in2 (List.mem_of_getElem? (i := 216) rfl)) rfl
theorem wt_457 : (Jvm.Cond.code ({ cls := "StackAssembler$Encoder", name := "addRuns", desc := "(LStackAssembler$Function;)V" } : Jvm.MethodName) prog_4_method_10_code (5 : Nat) (Option.none : Option Jvm.ClassFile.FieldType)) ∈ kz_TT := kz_g (kz_in2 (List.mem_of_getElem? (i := 217) rfl)) rfl
theorem wt_458 : (Jvm.Cond.methodLink "StackAssembler$Encoder" (114 : Nat) ({ cls := "StackAssembler$Function", name := "hasSlot", desc := "(J)Z" } : Jvm.MethodName)) ∈ kz_TT := kz_g (kz_in2 (List.mem_of_getElem? (i := 218) rfl)) rfl
theorem wt_459 : (Jvm.Cond.instanceMethod ({ cls := "StackAssembler$Function", name := "hasSlot", desc := "(J)Z" } : Jvm.MethodName)) ∈ kz_TT := kz_g (kz_in2 (List.mem_of_getElem? (i := 219) rfl)) rfl
theorem wt_460 : (Jvm.Cond.selects "StackAssembler$Function" ({ cls := "StackAssembler$Function", name := "hasSlot", desc := "(J)Z" } : Jvm.MethodName) ({ cls := "StackAssembler$Function", name := "hasSlot", desc := "(J)Z" } : Jvm.MethodName)) ∈ kz_TT := kz_g (kz_in2 (List.mem_of_getElem? (i := 220) rfl)) rfl
theorem wt_461 : (Jvm.Cond.code ({ cls := "StackAssembler$Function", name := "hasSlot", desc := "(J)Z" } : Jvm.MethodName) prog_6_method_3_code (3 : Nat) (Option.some Jvm.ClassFile.FieldType.boolean)) ∈ kz_TT := kz_g (kz_in2 (List.mem_of_getElem? (i := 221) rfl)) rfl
theorem wt_462 : (Jvm.Cond.constantLong "StackAssembler$Function" (31 : Nat) (8 : Int64)) ∈ kz_TT := kz_g (kz_in2 (List.mem_of_getElem? (i := 222) rfl)) rfl
theorem wt_463 : (Jvm.Cond.methodLink "StackAssembler$Encoder" (118 : Nat) ({ cls := "StackAssembler$Encoder", name := "endsRun", desc := "(LStackAssembler$Function;I)Z" } : Jvm.MethodName)) ∈ kz_TT := kz_g (kz_in2 (List.mem_of_getElem? (i := 223) rfl)) rfl
theorem wt_464 : (Jvm.Cond.static ({ cls := "StackAssembler$Encoder", name := "endsRun", desc := "(LStackAssembler$Function;I)Z" } : Jvm.MethodName)) ∈ kz_TT := kz_g (kz_in2 (List.mem_of_getElem? (i := 224) rfl)) rfl
theorem wt_465 : (Jvm.Cond.code ({ cls := "StackAssembler$Encoder", name := "endsRun", desc := "(LStackAssembler$Function;I)Z" } : Jvm.MethodName) prog_4_method_11_code (2 : Nat) (Option.some Jvm.ClassFile.FieldType.boolean)) ∈ kz_TT := kz_g (kz_in2 (List.mem_of_getElem? (i := 225) rfl)) rfl
theorem wt_466 : (Jvm.Cond.methodLink "StackAssembler$Encoder" (106 : Nat) ({ cls := "StackAssembler$Encoder", name := "addOperand", desc := "(LStackAssembler$Op;J)V" } : Jvm.MethodName)) ∈ kz_TT := kz_g (kz_in2 (List.mem_of_getElem? (i := 226) rfl)) rfl
theorem wt_468 : (Jvm.Cond.instanceMethod ({ cls := "StackAssembler$Encoder", name := "addOperand", desc := "(LStackAssembler$Op;J)V" } : Jvm.MethodName)) ∈ kz_TT := kz_g (kz_in2 (List.mem_of_getElem? (i := 228) rfl)) rfl
theorem wt_469 : (Jvm.Cond.code ({ cls := "StackAssembler$Encoder", name := "addOperand", desc := "(LStackAssembler$Op;J)V" } : Jvm.MethodName) prog_4_method_12_code (4 : Nat) (Option.none : Option Jvm.ClassFile.FieldType)) ∈ kz_TT := kz_g (kz_in2 (List.mem_of_getElem? (i := 229) rfl)) rfl
theorem wt_470 : (Jvm.Cond.methodLink "StackAssembler$Encoder" (125 : Nat) ({ cls := "StackAssembler$Encoder", name := "addSigned", desc := "(J)V" } : Jvm.MethodName)) ∈ kz_TT := kz_g (kz_in2 (List.mem_of_getElem? (i := 230) rfl)) rfl
theorem wt_472 : (Jvm.Cond.instanceMethod ({ cls := "StackAssembler$Encoder", name := "addSigned", desc := "(J)V" } : Jvm.MethodName)) ∈ kz_TT := kz_g (kz_in2 (List.mem_of_getElem? (i := 232) rfl)) rfl
theorem wt_473 : (Jvm.Cond.code ({ cls := "StackAssembler$Encoder", name := "addSigned", desc := "(J)V" } : Jvm.MethodName) prog_4_method_15_code (6 : Nat) (Option.none : Option Jvm.ClassFile.FieldType)) ∈ kz_TT := kz_g (kz_in2 (List.mem_of_getElem? (i := 233) rfl)) rfl
theorem wt_474 : (Jvm.Cond.constantLong "StackAssembler$Encoder" (130 : Nat) (-1 : Int64)) ∈ kz_TT := kz_g (kz_in2 (List.mem_of_getElem? (i := 234) rfl)) rfl
theorem wt_475 : (Jvm.Cond.fieldLink "StackAssembler$Encoder" (110 : Nat) "StackAssembler$Op" "END" "LStackAssembler$Op;") ∈ kz_TT := kz_g (kz_in2 (List.mem_of_getElem? (i := 235) rfl)) rfl
theorem wt_478 : (Jvm.Cond.instanceMethod ({ cls := "StackAssembler", name := "octet", desc := "(I)I" } : Jvm.MethodName)) ∈ kz_TT := kz_g (kz_in2 (List.mem_of_getElem? (i := 238) rfl)) rfl
theorem wt_479 : (Jvm.Cond.selects "StackAssembler" ({ cls := "StackAssembler", name := "octet", desc := "(I)I" } : Jvm.MethodName) ({ cls := "StackAssembler", name := "octet", desc := "(I)I" } : Jvm.MethodName)) ∈ kz_TT := kz_g (kz_in2 (List.mem_of_getElem? (i := 239) rfl)) rfl
theorem wt_480 : (Jvm.Cond.code ({ cls := "StackAssembler", name := "octet", desc := "(I)I" } : Jvm.MethodName) prog_1_method_7_code (2 : Nat) (Option.some Jvm.ClassFile.FieldType.int)) ∈ kz_TT := kz_g (kz_in3 (List.mem_of_getElem? (i := 0) rfl)) rfl
theorem wt_481 : (Jvm.Cond.methodLink "StackAssembler" (114 : Nat) ({ cls := "StackAssembler$Encoder", name := "at", desc := "(I)I" } : Jvm.MethodName)) ∈ kz_TT := kz_g (kz_in3 (List.mem_of_getElem? (i := 1) rfl)) rfl
theorem wt_482 : (Jvm.Cond.instanceMethod ({ cls := "StackAssembler$Encoder", name := "at", desc := "(I)I" } : Jvm.MethodName)) ∈ kz_TT := kz_g (kz_in3 (List.mem_of_getElem? (i := 2) rfl)) rfl
theorem wt_483 : (Jvm.Cond.selects "StackAssembler$Encoder" ({ cls := "StackAssembler$Encoder", name := "at", desc := "(I)I" } : Jvm.MethodName) ({ cls := "StackAssembler$Encoder", name := "at", desc := "(I)I" } : Jvm.MethodName)) ∈ kz_TT := kz_g (kz_in3 (List.mem_of_getElem? (i := 3) rfl)) rfl
theorem wt_484 : (Jvm.Cond.code ({ cls := "StackAssembler$Encoder", name := "at", desc := "(I)I" } : Jvm.MethodName) prog_4_method_2_code (2 : Nat) (Option.some Jvm.ClassFile.FieldType.int)) ∈ kz_TT := kz_g (kz_in3 (List.mem_of_getElem? (i := 4) rfl)) rfl
theorem wt_486 : (Jvm.Cond.instanceMethod ({ cls := "StackAssembler", name := "place", desc := "()I" } : Jvm.MethodName)) ∈ kz_TT := kz_g (kz_in3 (List.mem_of_getElem? (i := 6) rfl)) rfl
theorem wt_487 : (Jvm.Cond.selects "StackAssembler" ({ cls := "StackAssembler", name := "place", desc := "()I" } : Jvm.MethodName) ({ cls := "StackAssembler", name := "place", desc := "()I" } : Jvm.MethodName)) ∈ kz_TT := kz_g (kz_in3 (List.mem_of_getElem? (i := 7) rfl)) rfl
theorem wt_488 : (Jvm.Cond.code ({ cls := "StackAssembler", name := "place", desc := "()I" } : Jvm.MethodName) prog_1_method_9_code (1 : Nat) (Option.some Jvm.ClassFile.FieldType.int)) ∈ kz_TT := kz_g (kz_in3 (List.mem_of_getElem? (i := 8) rfl)) rfl
theorem wt_490 : (Jvm.Cond.instanceMethod ({ cls := "StackAssembler", name := "functions", desc := "()I" } : Jvm.MethodName)) ∈ kz_TT := kz_g (kz_in3 (List.mem_of_getElem? (i := 10) rfl)) rfl
theorem wt_491 : (Jvm.Cond.selects "StackAssembler" ({ cls := "StackAssembler", name := "functions", desc := "()I" } : Jvm.MethodName) ({ cls := "StackAssembler", name := "functions", desc := "()I" } : Jvm.MethodName)) ∈ kz_TT := kz_g (kz_in3 (List.mem_of_getElem? (i := 11) rfl)) rfl
theorem wt_492 : (Jvm.Cond.code ({ cls := "StackAssembler", name := "functions", desc := "()I" } : Jvm.MethodName) prog_1_method_10_code (1 : Nat) (Option.some Jvm.ClassFile.FieldType.int)) ∈ kz_TT := kz_g (kz_in3 (List.mem_of_getElem? (i := 12) rfl)) rfl
theorem wt_494 : (Jvm.Cond.instanceMethod ({ cls := "StackAssembler", name := "function", desc := "(II)I" } : Jvm.MethodName)) ∈ kz_TT := kz_g (kz_in3 (List.mem_of_getElem? (i := 14) rfl)) rfl
theorem wt_495 : (Jvm.Cond.selects "StackAssembler" ({ cls := "StackAssembler", name := "function", desc := "(II)I" } : Jvm.MethodName) ({ cls := "StackAssembler", name := "function", desc := "(II)I" } : Jvm.MethodName)) ∈ kz_TT := kz_g (kz_in3 (List.mem_of_getElem? (i := 15) rfl)) rfl
theorem wt_496 : (Jvm.Cond.code ({ cls := "StackAssembler", name := "function", desc := "(II)I" } : Jvm.MethodName) prog_1_method_11_code (4 : Nat) (Option.some Jvm.ClassFile.FieldType.int)) ∈ kz_TT := kz_g (kz_in3 (List.mem_of_getElem? (i := 16) rfl)) rfl
theorem wt_497 : (Jvm.Cond.methodLink "StackAssembler" (122 : Nat) ({ cls := "StackAssembler$Module", name := "hasFunction", desc := "(J)Z" } : Jvm.MethodName)) ∈ kz_TT := kz_g (kz_in3 (List.mem_of_getElem? (i := 17) rfl)) rfl
theorem wt_498 : (Jvm.Cond.instanceMethod ({ cls := "StackAssembler$Module", name := "hasFunction", desc := "(J)Z" } : Jvm.MethodName)) ∈ kz_TT := kz_g (kz_in3 (List.mem_of_getElem? (i := 18) rfl)) rfl
theorem wt_499 : (Jvm.Cond.selects "StackAssembler$Module" ({ cls := "StackAssembler$Module", name := "hasFunction", desc := "(J)Z" } : Jvm.MethodName) ({ cls := "StackAssembler$Module", name := "hasFunction", desc := "(J)Z" } : Jvm.MethodName)) ∈ kz_TT := kz_g (kz_in3 (List.mem_of_getElem? (i := 19) rfl)) rfl
theorem wt_500 : (Jvm.Cond.code ({ cls := "StackAssembler$Module", name := "hasFunction", desc := "(J)Z" } : Jvm.MethodName) prog_8_method_3_code (3 : Nat) (Option.some Jvm.ClassFile.FieldType.boolean)) ∈ kz_TT := kz_g (kz_in3 (List.mem_of_getElem? (i := 20) rfl)) rfl
theorem wt_501 : (Jvm.Cond.constantLong "StackAssembler$Module" (39 : Nat) (4 : Int64)) ∈ kz_TT := kz_g (kz_in3 (List.mem_of_getElem? (i := 21) rfl)) rfl
theorem wt_502 : (Jvm.Cond.methodLink "StackAssembler" (143 : Nat) ({ cls := "StackAssembler$Function", name := "hasSlot", desc := "(J)Z" } : Jvm.MethodName)) ∈ kz_TT := kz_g (kz_in3 (List.mem_of_getElem? (i := 22) rfl)) rfl
theorem wt_504 : (Jvm.Cond.instanceMethod ({ cls := "StackAssembler", name := "instruction", desc := "(II)I" } : Jvm.MethodName)) ∈ kz_TT := kz_g (kz_in3 (List.mem_of_getElem? (i := 24) rfl)) rfl
theorem wt_505 : (Jvm.Cond.selects "StackAssembler" ({ cls := "StackAssembler", name := "instruction", desc := "(II)I" } : Jvm.MethodName) ({ cls := "StackAssembler", name := "instruction", desc := "(II)I" } : Jvm.MethodName)) ∈ kz_TT := kz_g (kz_in3 (List.mem_of_getElem? (i := 25) rfl)) rfl
theorem wt_506 : (Jvm.Cond.code ({ cls := "StackAssembler", name := "instruction", desc := "(II)I" } : Jvm.MethodName) prog_1_method_12_code (3 : Nat) (Option.some Jvm.ClassFile.FieldType.int)) ∈ kz_TT := kz_g (kz_in3 (List.mem_of_getElem? (i := 26) rfl)) rfl
theorem wt_507 : (Jvm.Cond.methodLink "StackAssembler" (150 : Nat) ({ cls := "StackAssembler$Module", name := "hasInstruction", desc := "(II)Z" } : Jvm.MethodName)) ∈ kz_TT := kz_g (kz_in3 (List.mem_of_getElem? (i := 27) rfl)) rfl
theorem wt_508 : (Jvm.Cond.instanceMethod ({ cls := "StackAssembler$Module", name := "hasInstruction", desc := "(II)Z" } : Jvm.MethodName)) ∈ kz_TT := kz_g (kz_in3 (List.mem_of_getElem? (i := 28) rfl)) rfl
theorem wt_509 : (Jvm.Cond.selects "StackAssembler$Module" ({ cls := "StackAssembler$Module", name := "hasInstruction", desc := "(II)Z" } : Jvm.MethodName) ({ cls := "StackAssembler$Module", name := "hasInstruction", desc := "(II)Z" } : Jvm.MethodName)) ∈ kz_TT := kz_g (kz_in3 (List.mem_of_getElem? (i := 29) rfl)) rfl
theorem wt_510 : (Jvm.Cond.code ({ cls := "StackAssembler$Module", name := "hasInstruction", desc := "(II)Z" } : Jvm.MethodName) prog_8_method_4_code (3 : Nat) (Option.some Jvm.ClassFile.FieldType.boolean)) ∈ kz_TT := kz_g (kz_in3 (List.mem_of_getElem? (i := 30) rfl)) rfl
theorem wt_511 : (Jvm.Cond.methodLink "StackAssembler$Module" (41 : Nat) ({ cls := "StackAssembler$Module", name := "hasFunction", desc := "(J)Z" } : Jvm.MethodName)) ∈ kz_TT := kz_g (kz_in3 (List.mem_of_getElem? (i := 31) rfl)) rfl
theorem wt_513 : (Jvm.Cond.instanceMethod ({ cls := "StackAssembler", name := "immediate", desc := "(II)J" } : Jvm.MethodName)) ∈ kz_TT := kz_g (kz_in3 (List.mem_of_getElem? (i := 33) rfl)) rfl
theorem wt_514 : (Jvm.Cond.selects "StackAssembler" ({ cls := "StackAssembler", name := "immediate", desc := "(II)J" } : Jvm.MethodName) ({ cls := "StackAssembler", name := "immediate", desc := "(II)J" } : Jvm.MethodName)) ∈ kz_TT := kz_g (kz_in3 (List.mem_of_getElem? (i := 34) rfl)) rfl
theorem wt_515 : (Jvm.Cond.code ({ cls := "StackAssembler", name := "immediate", desc := "(II)J" } : Jvm.MethodName) prog_1_method_13_code (3 : Nat) (Option.some Jvm.ClassFile.FieldType.long)) ∈ kz_TT := kz_g (kz_in3 (List.mem_of_getElem? (i := 35) rfl)) rfl
theorem wt_527 : (Jvm.Cond.instanceMethod ({ cls := "StackAssembler$Reader", name := "read", desc := "(LStackAssembler$Text;LStackAssembler$Module;)I" } : Jvm.MethodName)) ∈ kz_TT := kz_g (kz_in3 (List.mem_of_getElem? (i := 47) rfl)) rfl
theorem wt_528 : (Jvm.Cond.selects "StackAssembler$Reader" ({ cls := "StackAssembler$Reader", name := "read", desc := "(LStackAssembler$Text;LStackAssembler$Module;)I" } : Jvm.MethodName) ({ cls := "StackAssembler$Reader", name := "read", desc := "(LStackAssembler$Text;LStackAssembler$Module;)I" } : Jvm.MethodName)) ∈ kz_TT := kz_g (kz_in3 (List.mem_of_getElem? (i := 48) rfl)) rfl
theorem wt_529 : (Jvm.Cond.code ({ cls := "StackAssembler$Reader", name := "read", desc := "(LStackAssembler$Text;LStackAssembler$Module;)I" } : Jvm.MethodName) prog_11_method_2_code (5 : Nat) (Option.some Jvm.ClassFile.FieldType.int)) ∈ kz_TT := kz_g (kz_in3 (List.mem_of_getElem? (i := 49) rfl)) rfl
theorem wt_530 : (Jvm.Cond.methodLink "StackAssembler$Reader" (38 : Nat) ({ cls := "StackAssembler$Scanner", name := "begin", desc := "(LStackAssembler$Text;)V" } : Jvm.MethodName)) ∈ kz_TT := kz_g (kz_in3 (List.mem_of_getElem? (i := 50) rfl)) rfl
theorem wt_531 : (Jvm.Cond.instanceMethod ({ cls := "StackAssembler$Scanner", name := "begin", desc := "(LStackAssembler$Text;)V" } : Jvm.MethodName)) ∈ kz_TT := kz_g (kz_in3 (List.mem_of_getElem? (i := 51) rfl)) rfl
theorem wt_532 : (Jvm.Cond.selects "StackAssembler$Scanner" ({ cls := "StackAssembler$Scanner", name := "begin", desc := "(LStackAssembler$Text;)V" } : Jvm.MethodName) ({ cls := "StackAssembler$Scanner", name := "begin", desc := "(LStackAssembler$Text;)V" } : Jvm.MethodName)) ∈ kz_TT := kz_g (kz_in3 (List.mem_of_getElem? (i := 52) rfl)) rfl
theorem wt_533 : (Jvm.Cond.code ({ cls := "StackAssembler$Scanner", name := "begin", desc := "(LStackAssembler$Text;)V" } : Jvm.MethodName) prog_12_method_2_code (2 : Nat) (Option.none : Option Jvm.ClassFile.FieldType)) ∈ kz_TT := kz_g (kz_in3 (List.mem_of_getElem? (i := 53) rfl)) rfl
theorem wt_534 : (Jvm.Cond.methodLink "StackAssembler$Reader" (41 : Nat) ({ cls := "StackAssembler$Module", name := "clear", desc := "()V" } : Jvm.MethodName)) ∈ kz_TT := kz_g (kz_in3 (List.mem_of_getElem? (i := 54) rfl)) rfl
theorem wt_535 : (Jvm.Cond.instanceMethod ({ cls := "StackAssembler$Module", name := "clear", desc := "()V" } : Jvm.MethodName)) ∈ kz_TT := kz_g (kz_in3 (List.mem_of_getElem? (i := 55) rfl)) rfl
theorem wt_536 : (Jvm.Cond.selects "StackAssembler$Module" ({ cls := "StackAssembler$Module", name := "clear", desc := "()V" } : Jvm.MethodName) ({ cls := "StackAssembler$Module", name := "clear", desc := "()V" } : Jvm.MethodName)) ∈ kz_TT := kz_g (kz_in3 (List.mem_of_getElem? (i := 56) rfl)) rfl
theorem wt_537 : (Jvm.Cond.code ({ cls := "StackAssembler$Module", name := "clear", desc := "()V" } : Jvm.MethodName) prog_8_method_2_code (1 : Nat) (Option.none : Option Jvm.ClassFile.FieldType)) ∈ kz_TT := kz_g (kz_in3 (List.mem_of_getElem? (i := 57) rfl)) rfl
theorem wt_538 : (Jvm.Cond.methodLink "StackAssembler$Reader" (50 : Nat) ({ cls := "StackAssembler$Level", name := "begin", desc := "(I)V" } : Jvm.MethodName)) ∈ kz_TT := kz_g (kz_in3 (List.mem_of_getElem? (i := 58) rfl)) rfl
theorem wt_539 : (Jvm.Cond.instanceMethod ({ cls := "StackAssembler$Level", name := "begin", desc := "(I)V" } : Jvm.MethodName)) ∈ kz_TT := kz_g (kz_in3 (List.mem_of_getElem? (i := 59) rfl)) rfl
theorem wt_540 : (Jvm.Cond.selects "StackAssembler$Level" ({ cls := "StackAssembler$Level", name := "begin", desc := "(I)V" } : Jvm.MethodName) ({ cls := "StackAssembler$Level", name := "begin", desc := "(I)V" } : Jvm.MethodName)) ∈ kz_TT := kz_g (kz_in3 (List.mem_of_getElem? (i := 60) rfl)) rfl
theorem wt_541 : (Jvm.Cond.code ({ cls := "StackAssembler$Level", name := "begin", desc := "(I)V" } : Jvm.MethodName) prog_7_method_2_code (2 : Nat) (Option.none : Option Jvm.ClassFile.FieldType)) ∈ kz_TT := kz_g (kz_in3 (List.mem_of_getElem? (i := 61) rfl)) rfl
theorem wt_542 : (Jvm.Cond.methodLink "StackAssembler$Reader" (60 : Nat) ({ cls := "StackAssembler$Scanner", name := "next", desc := "()V" } : Jvm.MethodName)) ∈ kz_TT := kz_g (kz_in3 (List.mem_of_getElem? (i := 62) rfl)) rfl
theorem wt_543 : (Jvm.Cond.instanceMethod ({ cls := "StackAssembler$Scanner", name := "next", desc := "()V" } : Jvm.MethodName)) ∈ kz_TT := kz_g (kz_in3 (List.mem_of_getElem? (i := 63) rfl)) rfl
theorem wt_544 : (Jvm.Cond.selects "StackAssembler$Scanner" ({ cls := "StackAssembler$Scanner", name := "next", desc := "()V" } : Jvm.MethodName) ({ cls := "StackAssembler$Scanner", name := "next", desc := "()V" } : Jvm.MethodName)) ∈ kz_TT := kz_g (kz_in3 (List.mem_of_getElem? (i := 64) rfl)) rfl
theorem wt_545 : (Jvm.Cond.code ({ cls := "StackAssembler$Scanner", name := "next", desc := "()V" } : Jvm.MethodName) prog_12_method_3_code (2 : Nat) (Option.none : Option Jvm.ClassFile.FieldType)) ∈ kz_TT := kz_g (kz_in3 (List.mem_of_getElem? (i := 65) rfl)) rfl
theorem wt_546 : (Jvm.Cond.methodLink "StackAssembler$Scanner" (25 : Nat) ({ cls := "StackAssembler$Scanner", name := "behindGaps", desc := "(I)I" } : Jvm.MethodName)) ∈ kz_TT := kz_g (kz_in3 (List.mem_of_getElem? (i := 66) rfl)) rfl
theorem wt_548 : (Jvm.Cond.instanceMethod ({ cls := "StackAssembler$Scanner", name := "behindGaps", desc := "(I)I" } : Jvm.MethodName)) ∈ kz_TT := kz_g (kz_in3 (List.mem_of_getElem? (i := 68) rfl)) rfl
theorem wt_549 : (Jvm.Cond.code ({ cls := "StackAssembler$Scanner", name := "behindGaps", desc := "(I)I" } : Jvm.MethodName) prog_12_method_4_code (5 : Nat) (Option.some Jvm.ClassFile.FieldType.int)) ∈ kz_TT := kz_g (kz_in3 (List.mem_of_getElem? (i := 69) rfl)) rfl
theorem wt_550 : (Jvm.Cond.methodLink "StackAssembler$Scanner" (53 : Nat) ({ cls := "StackAssembler$Scanner", name := "behindGap", desc := "(I)I" } : Jvm.MethodName)) ∈ kz_TT := kz_g (kz_in3 (List.mem_of_getElem? (i := 70) rfl)) rfl
theorem wt_552 : (Jvm.Cond.instanceMethod ({ cls := "StackAssembler$Scanner", name := "behindGap", desc := "(I)I" } : Jvm.MethodName)) ∈ kz_TT := kz_g (kz_in3 (List.mem_of_getElem? (i := 72) rfl)) rfl
theorem wt_553 : (Jvm.Cond.code ({ cls := "StackAssembler$Scanner", name := "behindGap", desc := "(I)I" } : Jvm.MethodName) prog_12_method_5_code (4 : Nat) (Option.some Jvm.ClassFile.FieldType.int)) ∈ kz_TT := kz_g (kz_in3 (List.mem_of_getElem? (i := 73) rfl)) rfl
theorem wt_554 : (Jvm.Cond.methodLink "StackAssembler$Scanner" (29 : Nat) ({ cls := "StackAssembler$Text", name := "at", desc := "(I)C" } : Jvm.MethodName)) ∈ kz_TT := kz_g (kz_in3 (List.mem_of_getElem? (i := 74) rfl)) rfl
theorem wt_555 : (Jvm.Cond.methodLink "StackAssembler$Scanner" (56 : Nat) ({ cls := "StackAssembler$Scanner", name := "behindLine", desc := "(I)I" } : Jvm.MethodName)) ∈ kz_TT := kz_g (kz_in3 (List.mem_of_getElem? (i := 75) rfl)) rfl
theorem wt_557 : (Jvm.Cond.instanceMethod ({ cls := "StackAssembler$Scanner", name := "behindLine", desc := "(I)I" } : Jvm.MethodName)) ∈ kz_TT := kz_g (kz_in3 (List.mem_of_getElem? (i := 77) rfl)) rfl
theorem wt_558 : (Jvm.Cond.code ({ cls := "StackAssembler$Scanner", name := "behindLine", desc := "(I)I" } : Jvm.MethodName) prog_12_method_6_code (3 : Nat) (Option.some Jvm.ClassFile.FieldType.int)) ∈ kz_TT := kz_g (kz_in3 (List.mem_of_getElem? (i := 78) rfl)) rfl
theorem wt_559 : (Jvm.Cond.methodLink "StackAssembler$Scanner" (59 : Nat) ({ cls := "StackAssembler$Scanner", name := "behindComment", desc := "(I)I" } : Jvm.MethodName)) ∈ kz_TT := kz_g (kz_in3 (List.mem_of_getElem? (i := 79) rfl)) rfl
theorem wt_561 : (Jvm.Cond.instanceMethod ({ cls := "StackAssembler$Scanner", name := "behindComment", desc := "(I)I" } : Jvm.MethodName)) ∈ kz_TT := kz_g (kz_in3 (List.mem_of_getElem? (i := 81) rfl)) rfl
theorem wt_562 : (Jvm.Cond.code ({ cls := "StackAssembler$Scanner", name := "behindComment", desc := "(I)I" } : Jvm.MethodName) prog_12_method_7_code (6 : Nat) (Option.some Jvm.ClassFile.FieldType.int)) ∈ kz_TT := kz_g (kz_in3 (List.mem_of_getElem? (i := 82) rfl)) rfl
theorem wt_563 : (Jvm.Cond.methodLink "StackAssembler$Scanner" (38 : Nat) ({ cls := "StackAssembler$Scanner", name := "isOfWord", desc := "(C)Z" } : Jvm.MethodName)) ∈ kz_TT := kz_g (kz_in3 (List.mem_of_getElem? (i := 83) rfl)) rfl
theorem wt_564 : (Jvm.Cond.static ({ cls := "StackAssembler$Scanner", name := "isOfWord", desc := "(C)Z" } : Jvm.MethodName)) ∈ kz_TT := kz_g (kz_in3 (List.mem_of_getElem? (i := 84) rfl)) rfl
theorem wt_565 : (Jvm.Cond.code ({ cls := "StackAssembler$Scanner", name := "isOfWord", desc := "(C)Z" } : Jvm.MethodName) prog_12_method_9_code (2 : Nat) (Option.some Jvm.ClassFile.FieldType.boolean)) ∈ kz_TT := kz_g (kz_in3 (List.mem_of_getElem? (i := 85) rfl)) rfl
theorem wt_566 : (Jvm.Cond.methodLink "StackAssembler$Scanner" (42 : Nat) ({ cls := "StackAssembler$Scanner", name := "behindWord", desc := "(I)I" } : Jvm.MethodName)) ∈ kz_TT := kz_g (kz_in3 (List.mem_of_getElem? (i := 86) rfl)) rfl
theorem wt_568 : (Jvm.Cond.instanceMethod ({ cls := "StackAssembler$Scanner", name := "behindWord", desc := "(I)I" } : Jvm.MethodName)) ∈ kz_TT := kz_g (kz_in3 (List.mem_of_getElem? (i := 88) rfl)) rfl
theorem wt_569 : (Jvm.Cond.code ({ cls := "StackAssembler$Scanner", name := "behindWord", desc := "(I)I" } : Jvm.MethodName) prog_12_method_8_code (3 : Nat) (Option.some Jvm.ClassFile.FieldType.int)) ∈ kz_TT := kz_g (kz_in3 (List.mem_of_getElem? (i := 89) rfl)) rfl
theorem wt_570 : (Jvm.Cond.methodLink "StackAssembler$Scanner" (45 : Nat) ({ cls := "StackAssembler$Scanner", name := "findOp", desc := "()LStackAssembler$Op;" } : Jvm.MethodName)) ∈ kz_TT := kz_g (kz_in3 (List.mem_of_getElem? (i := 90) rfl)) rfl
theorem wt_572 : (Jvm.Cond.instanceMethod ({ cls := "StackAssembler$Scanner", name := "findOp", desc := "()LStackAssembler$Op;" } : Jvm.MethodName)) ∈ kz_TT := kz_g (kz_in3 (List.mem_of_getElem? (i := 92) rfl)) rfl
theorem wt_573 : (Jvm.Cond.code ({ cls := "StackAssembler$Scanner", name := "findOp", desc := "()LStackAssembler$Op;" } : Jvm.MethodName) prog_12_method_14_code (2 : Nat) (Option.some (Jvm.ClassFile.FieldType.object "StackAssembler$Op"))) ∈ kz_TT := kz_g (kz_in3 (List.mem_of_getElem? (i := 93) rfl)) rfl
theorem wt_576 : (Jvm.Cond.methodLink "StackAssembler$Scanner" (72 : Nat) ({ cls := "StackAssembler$Scanner", name := "is", desc := "(Ljava/lang/String;)Z" } : Jvm.MethodName)) ∈ kz_TT := kz_g (kz_in3 (List.mem_of_getElem? (i := 96) rfl)) rfl
theorem wt_577 : (Jvm.Cond.instanceMethod ({ cls := "StackAssembler$Scanner", name := "is", desc := "(Ljava/lang/String;)Z" } : Jvm.MethodName)) ∈ kz_TT := kz_g (kz_in3 (List.mem_of_getElem? (i := 97) rfl)) rfl
theorem wt_578 : (Jvm.Cond.selects "StackAssembler$Scanner" ({ cls := "StackAssembler$Scanner", name := "is", desc := "(Ljava/lang/String;)Z" } : Jvm.MethodName) ({ cls := "StackAssembler$Scanner", name := "is", desc := "(Ljava/lang/String;)Z" } : Jvm.MethodName)) ∈ kz_TT := kz_g (kz_in3 (List.mem_of_getElem? (i := 98) rfl)) rfl
theorem wt_579 : (Jvm.Cond.code ({ cls := "StackAssembler$Scanner", name := "is", desc := "(Ljava/lang/String;)Z" } : Jvm.MethodName) prog_12_method_11_code (3 : Nat) (Option.some Jvm.ClassFile.FieldType.boolean)) ∈ kz_TT := kz_g (kz_in3 (List.mem_of_getElem? (i := 99) rfl)) rfl
theorem wt_580 : (Jvm.Cond.methodLink "StackAssembler$Scanner" (62 : Nat) ({ cls := "java/lang/String", name := "length", desc := "()I" } : Jvm.MethodName)) ∈ kz_TT := kz_g (kz_in3 (List.mem_of_getElem? (i := 100) rfl)) rfl
theorem wt_581 : (Jvm.Cond.instanceMethod ({ cls := "java/lang/String", name := "length", desc := "()I" } : Jvm.MethodName)) ∈ kz_TT := kz_g (kz_in3 (List.mem_of_getElem? (i := 101) rfl)) rfl
theorem wt_582 : (Jvm.Cond.selects "java/lang/String" ({ cls := "java/lang/String", name := "length", desc := "()I" } : Jvm.MethodName) ({ cls := "java/lang/String", name := "length", desc := "()I" } : Jvm.MethodName)) ∈ kz_TT := kz_g (kz_in3 (List.mem_of_getElem? (i := 102) rfl)) rfl
theorem wt_583 : (Jvm.Cond.code ({ cls := "java/lang/String", name := "length", desc := "()I" } : Jvm.MethodName) prog_23_method_54_code (1 : Nat) (Option.some Jvm.ClassFile.FieldType.int)) ∈ kz_TT := kz_g (kz_in3 (List.mem_of_getElem? (i := 103) rfl)) rfl
theorem wt_584 : (Jvm.Cond.methodLink "java/lang/String" (335 : Nat) ({ cls := "java/lang/String", name := "coder", desc := "()B" } : Jvm.MethodName)) ∈ kz_TT := kz_g (kz_in3 (List.mem_of_getElem? (i := 104) rfl)) rfl
theorem wt_585 : (Jvm.Cond.instanceMethod ({ cls := "java/lang/String", name := "coder", desc := "()B" } : Jvm.MethodName)) ∈ kz_TT := kz_g (kz_in3 (List.mem_of_getElem? (i := 105) rfl)) rfl
theorem wt_586 : (Jvm.Cond.selects "java/lang/String" ({ cls := "java/lang/String", name := "coder", desc := "()B" } : Jvm.MethodName) ({ cls := "java/lang/String", name := "coder", desc := "()B" } : Jvm.MethodName)) ∈ kz_TT := kz_g (kz_in3 (List.mem_of_getElem? (i := 106) rfl)) rfl
theorem wt_587 : (Jvm.Cond.code ({ cls := "java/lang/String", name := "coder", desc := "()B" } : Jvm.MethodName) prog_23_method_152_code (1 : Nat) (Option.some Jvm.ClassFile.FieldType.byte)) ∈ kz_TT := kz_g (kz_in3 (List.mem_of_getElem? (i := 107) rfl)) rfl
theorem wt_588 : (Jvm.Cond.fieldLink "java/lang/String" (38 : Nat) "java/lang/String" "COMPACT_STRINGS" "Z") ∈ kz_TT := kz_g (kz_in3 (List.mem_of_getElem? (i := 108) rfl)) rfl
theorem wt_590 : (Jvm.Cond.methodLink "StackAssembler$Scanner" (67 : Nat) ({ cls := "java/lang/String", name := "charAt", desc := "(I)C" } : Jvm.MethodName)) ∈ kz_TT := kz_g (kz_in3 (List.mem_of_getElem? (i := 110) rfl)) rfl
theorem wt_591 : (Jvm.Cond.instanceMethod ({ cls := "java/lang/String", name := "charAt", desc := "(I)C" } : Jvm.MethodName)) ∈ kz_TT := kz_g (kz_in3 (List.mem_of_getElem? (i := 111) rfl)) rfl
theorem wt_592 : (Jvm.Cond.selects "java/lang/String" ({ cls := "java/lang/String", name := "charAt", desc := "(I)C" } : Jvm.MethodName) ({ cls := "java/lang/String", name := "charAt", desc := "(I)C" } : Jvm.MethodName)) ∈ kz_TT := kz_g (kz_in3 (List.mem_of_getElem? (i := 112) rfl)) rfl
theorem wt_593 : (Jvm.Cond.code ({ cls := "java/lang/String", name := "charAt", desc := "(I)C" } : Jvm.MethodName) prog_23_method_56_code (2 : Nat) (Option.some Jvm.ClassFile.FieldType.char)) ∈ kz_TT := kz_g (kz_in3 (List.mem_of_getElem? (i := 113) rfl)) rfl
theorem wt_594 : (Jvm.Cond.methodLink "java/lang/String" (492 : Nat) ({ cls := "java/lang/String", name := "isLatin1", desc := "()Z" } : Jvm.MethodName)) ∈ kz_TT := kz_g (kz_in3 (List.mem_of_getElem? (i := 114) rfl)) rfl
theorem wt_595 : (Jvm.Cond.instanceMethod ({ cls := "java/lang/String", name := "isLatin1", desc := "()Z" } : Jvm.MethodName)) ∈ kz_TT := kz_g (kz_in3 (List.mem_of_getElem? (i := 115) rfl)) rfl
theorem wt_596 : (Jvm.Cond.selects "java/lang/String" ({ cls := "java/lang/String", name := "isLatin1", desc := "()Z" } : Jvm.MethodName) ({ cls := "java/lang/String", name := "isLatin1", desc := "()Z" } : Jvm.MethodName)) ∈ kz_TT := kz_g (kz_in3 (List.mem_of_getElem? (i := 116) rfl)) rfl
theorem wt_597 : (Jvm.Cond.code ({ cls := "java/lang/String", name := "isLatin1", desc := "()Z" } : Jvm.MethodName) prog_23_method_154_code (1 : Nat) (Option.some Jvm.ClassFile.FieldType.boolean)) ∈ kz_TT := kz_g (kz_in3 (List.mem_of_getElem? (i := 117) rfl)) rfl
theorem wt_598 : (Jvm.Cond.methodLink "java/lang/String" (495 : Nat) ({ cls := "java/lang/StringLatin1", name := "charAt", desc := "([BI)C" } : Jvm.MethodName)) ∈ kz_TT := kz_g (kz_in3 (List.mem_of_getElem? (i := 118) rfl)) rfl
theorem wt_599 : (Jvm.Cond.static ({ cls := "java/lang/StringLatin1", name := "charAt", desc := "([BI)C" } : Jvm.MethodName)) ∈ kz_TT := kz_g (kz_in3 (List.mem_of_getElem? (i := 119) rfl)) rfl
theorem wt_600 : (Jvm.Cond.code ({ cls := "java/lang/StringLatin1", name := "charAt", desc := "([BI)C" } : Jvm.MethodName) prog_24_method_2_code (2 : Nat) (Option.some Jvm.ClassFile.FieldType.char)) ∈ kz_TT := kz_g (kz_in3 (List.mem_of_getElem? (i := 120) rfl)) rfl
theorem wt_601 : (Jvm.Cond.methodLink "java/lang/StringLatin1" (9 : Nat) ({ cls := "java/lang/String", name := "checkIndex", desc := "(II)V" } : Jvm.MethodName)) ∈ kz_TT := kz_g (kz_in3 (List.mem_of_getElem? (i := 121) rfl)) rfl
theorem wt_602 : (Jvm.Cond.static ({ cls := "java/lang/String", name := "checkIndex", desc := "(II)V" } : Jvm.MethodName)) ∈ kz_TT := kz_g (kz_in3 (List.mem_of_getElem? (i := 122) rfl)) rfl
theorem wt_603 : (Jvm.Cond.code ({ cls := "java/lang/String", name := "checkIndex", desc := "(II)V" } : Jvm.MethodName) prog_23_method_155_code (2 : Nat) (Option.none : Option Jvm.ClassFile.FieldType)) ∈ kz_TT := kz_g (kz_in3 (List.mem_of_getElem? (i := 123) rfl)) rfl
theorem wt_604 : (Jvm.Cond.fieldLink "java/lang/String" (1053 : Nat) "jdk/internal/util/Preconditions" "SIOOBE_FORMATTER" "Ljava/util/function/BiFunction;") ∈ kz_TT := kz_g (kz_in3 (List.mem_of_getElem? (i := 124) rfl)) rfl
theorem wt_606 : (Jvm.Cond.methodLink "java/lang/String" (1059 : Nat) ({ cls := "jdk/internal/util/Preconditions", name := "checkIndex", desc := "(IILjava/util/function/BiFunction;)I" } : Jvm.MethodName)) ∈ kz_TT := kz_g (kz_in3 (List.mem_of_getElem? (i := 126) rfl)) rfl
theorem wt_607 : (Jvm.Cond.static ({ cls := "jdk/internal/util/Preconditions", name := "checkIndex", desc := "(IILjava/util/function/BiFunction;)I" } : Jvm.MethodName)) ∈ kz_TT := kz_g (kz_in3 (List.mem_of_getElem? (i := 127) rfl)) rfl
theorem wt_608 : (Jvm.Cond.code ({ cls := "jdk/internal/util/Preconditions", name := "checkIndex", desc := "(IILjava/util/function/BiFunction;)I" } : Jvm.MethodName) prog_28_method_11_code (3 : Nat) (Option.some Jvm.ClassFile.FieldType.int)) ∈ kz_TT := kz_g (kz_in3 (List.mem_of_getElem? (i := 128) rfl)) rfl
theorem wt_628 : (Jvm.Cond.methodLink "StackAssembler$Reader" (69 : Nat) ({ cls := "StackAssembler$Reader", name := "judge", desc := "(LStackAssembler$Level;)I" } : Jvm.MethodName)) ∈ kz_TT := kz_g (kz_in3 (List.mem_of_getElem? (i := 148) rfl)) rfl
theorem wt_630 : (Jvm.Cond.instanceMethod ({ cls := "StackAssembler$Reader", name := "judge", desc := "(LStackAssembler$Level;)I" } : Jvm.MethodName)) ∈ kz_TT := kz_g (kz_in3 (List.mem_of_getElem? (i := 150) rfl)) rfl
theorem wt_631 : (Jvm.Cond.code ({ cls := "StackAssembler$Reader", name := "judge", desc := "(LStackAssembler$Level;)I" } : Jvm.MethodName) prog_11_method_3_code (2 : Nat) (Option.some Jvm.ClassFile.FieldType.int)) ∈ kz_TT := kz_g (kz_in3 (List.mem_of_getElem? (i := 151) rfl)) rfl
theorem wt_632 : (Jvm.Cond.methodLink "StackAssembler$Reader" (80 : Nat) ({ cls := "StackAssembler$Reader", name := "inOperand", desc := "(LStackAssembler$Level;)I" } : Jvm.MethodName)) ∈ kz_TT := kz_g (kz_in3 (List.mem_of_getElem? (i := 152) rfl)) rfl
theorem wt_634 : (Jvm.Cond.instanceMethod ({ cls := "StackAssembler$Reader", name := "inOperand", desc := "(LStackAssembler$Level;)I" } : Jvm.MethodName)) ∈ kz_TT := kz_g (kz_in3 (List.mem_of_getElem? (i := 154) rfl)) rfl
theorem wt_635 : (Jvm.Cond.code ({ cls := "StackAssembler$Reader", name := "inOperand", desc := "(LStackAssembler$Level;)I" } : Jvm.MethodName) prog_11_method_23_code (4 : Nat) (Option.some Jvm.ClassFile.FieldType.int)) ∈ kz_TT := kz_g (kz_in3 (List.mem_of_getElem? (i := 155) rfl)) rfl
theorem wt_636 : (Jvm.Cond.methodLink "StackAssembler$Reader" (259 : Nat) ({ cls := "StackAssembler$Reader", name := "readOperand", desc := "(I)Z" } : Jvm.MethodName)) ∈ kz_TT := kz_g (kz_in3 (List.mem_of_getElem? (i := 156) rfl)) rfl
theorem wt_638 : (Jvm.Cond.instanceMethod ({ cls := "StackAssembler$Reader", name := "readOperand", desc := "(I)Z" } : Jvm.MethodName)) ∈ kz_TT := kz_g (kz_in3 (List.mem_of_getElem? (i := 158) rfl)) rfl
theorem wt_639 : (Jvm.Cond.code ({ cls := "StackAssembler$Reader", name := "readOperand", desc := "(I)Z" } : Jvm.MethodName) prog_11_method_24_code (3 : Nat) (Option.some Jvm.ClassFile.FieldType.boolean)) ∈ kz_TT := kz_g (kz_in3 (List.mem_of_getElem? (i := 159) rfl)) rfl
theorem wt_640 : (Jvm.Cond.constantLong "StackAssembler$Reader" (265 : Nat) (2147483648 : Int64)) ∈ kz_TT := kz_g (kz_in3 (List.mem_of_getElem? (i := 160) rfl)) rfl
theorem wt_641 : (Jvm.Cond.constantLong "StackAssembler$Reader" (267 : Nat) (4294967295 : Int64)) ∈ kz_TT := kz_g (kz_in3 (List.mem_of_getElem? (i := 161) rfl)) rfl
theorem wt_642 : (Jvm.Cond.methodLink "StackAssembler$Reader" (269 : Nat) ({ cls := "StackAssembler$Reader", name := "readNumber", desc := "(JJ)Z" } : Jvm.MethodName)) ∈ kz_TT := kz_g (kz_in3 (List.mem_of_getElem? (i := 162) rfl)) rfl
theorem wt_644 : (Jvm.Cond.instanceMethod ({ cls := "StackAssembler$Reader", name := "readNumber", desc := "(JJ)Z" } : Jvm.MethodName)) ∈ kz_TT := kz_g (kz_in3 (List.mem_of_getElem? (i := 164) rfl)) rfl
theorem wt_645 : (Jvm.Cond.code ({ cls := "StackAssembler$Reader", name := "readNumber", desc := "(JJ)Z" } : Jvm.MethodName) prog_11_method_25_code (10 : Nat) (Option.some Jvm.ClassFile.FieldType.boolean)) ∈ kz_TT := kz_g (kz_in3 (List.mem_of_getElem? (i := 165) rfl)) rfl
theorem wt_646 : (Jvm.Cond.methodLink "StackAssembler$Reader" (294 : Nat) ({ cls := "StackAssembler$Scanner", name := "beginsWith", desc := "(C)Z" } : Jvm.MethodName)) ∈ kz_TT := kz_g (kz_in3 (List.mem_of_getElem? (i := 166) rfl)) rfl
theorem wt_647 : (Jvm.Cond.instanceMethod ({ cls := "StackAssembler$Scanner", name := "beginsWith", desc := "(C)Z" } : Jvm.MethodName)) ∈ kz_TT := kz_g (kz_in3 (List.mem_of_getElem? (i := 167) rfl)) rfl
theorem wt_648 : (Jvm.Cond.selects "StackAssembler$Scanner" ({ cls := "StackAssembler$Scanner", name := "beginsWith", desc := "(C)Z" } : Jvm.MethodName) ({ cls := "StackAssembler$Scanner", name := "beginsWith", desc := "(C)Z" } : Jvm.MethodName)) ∈ kz_TT := kz_g (kz_in3 (List.mem_of_getElem? (i := 168) rfl)) rfl
theorem wt_649 : (Jvm.Cond.code ({ cls := "StackAssembler$Scanner", name := "beginsWith", desc := "(C)Z" } : Jvm.MethodName) prog_12_method_15_code (2 : Nat) (Option.some Jvm.ClassFile.FieldType.boolean)) ∈ kz_TT := kz_g (kz_in3 (List.mem_of_getElem? (i := 169) rfl)) rfl
theorem wt_650 : (Jvm.Cond.methodLink "StackAssembler$Reader" (277 : Nat) ({ cls := "StackAssembler$Scanner", name := "readDigits", desc := "(I)Z" } : Jvm.MethodName)) ∈ kz_TT := kz_g (kz_in3 (List.mem_of_getElem? (i := 170) rfl)) rfl
theorem wt_651 : (Jvm.Cond.instanceMethod ({ cls := "StackAssembler$Scanner", name := "readDigits", desc := "(I)Z" } : Jvm.MethodName)) ∈ kz_TT := kz_g (kz_in3 (List.mem_of_getElem? (i := 171) rfl)) rfl
theorem wt_652 : (Jvm.Cond.selects "StackAssembler$Scanner" ({ cls := "StackAssembler$Scanner", name := "readDigits", desc := "(I)Z" } : Jvm.MethodName) ({ cls := "StackAssembler$Scanner", name := "readDigits", desc := "(I)Z" } : Jvm.MethodName)) ∈ kz_TT := kz_g (kz_in3 (List.mem_of_getElem? (i := 172) rfl)) rfl
theorem wt_653 : (Jvm.Cond.code ({ cls := "StackAssembler$Scanner", name := "readDigits", desc := "(I)Z" } : Jvm.MethodName) prog_12_method_16_code (4 : Nat) (Option.some Jvm.ClassFile.FieldType.boolean)) ∈ kz_TT := kz_g (kz_in3 (List.mem_of_getElem? (i := 173) rfl)) rfl
theorem wt_654 : (Jvm.Cond.constantLong "StackAssembler$Scanner" (92 : Nat) (1844674407370955161 : Int64)) ∈ kz_TT := kz_g (kz_in3 (List.mem_of_getElem? (i := 174) rfl)) rfl
theorem wt_655 : (Jvm.Cond.methodLink "StackAssembler$Scanner" (94 : Nat) ({ cls := "java/lang/Long", name := "compareUnsigned", desc := "(JJ)I" } : Jvm.MethodName)) ∈ kz_TT := kz_g (kz_in3 (List.mem_of_getElem? (i := 175) rfl)) rfl
theorem wt_656 : (Jvm.Cond.static ({ cls := "java/lang/Long", name := "compareUnsigned", desc := "(JJ)I" } : Jvm.MethodName)) ∈ kz_TT := kz_g (kz_in3 (List.mem_of_getElem? (i := 176) rfl)) rfl
theorem wt_657 : (Jvm.Cond.code ({ cls := "java/lang/Long", name := "compareUnsigned", desc := "(JJ)I" } : Jvm.MethodName) prog_20_method_43_code (4 : Nat) (Option.some Jvm.ClassFile.FieldType.int)) ∈ kz_TT := kz_g (kz_in3 (List.mem_of_getElem? (i := 177) rfl)) rfl
theorem wt_658 : (Jvm.Cond.constantLong "java/lang/Long" (168 : Nat) (-9223372036854775808 : Int64)) ∈ kz_TT := kz_g (kz_in3 (List.mem_of_getElem? (i := 178) rfl)) rfl
theorem wt_659 : (Jvm.Cond.methodLink "java/lang/Long" (302 : Nat) ({ cls := "java/lang/Long", name := "compare", desc := "(JJ)I" } : Jvm.MethodName)) ∈ kz_TT := kz_g (kz_in3 (List.mem_of_getElem? (i := 179) rfl)) rfl
theorem wt_660 : (Jvm.Cond.static ({ cls := "java/lang/Long", name := "compare", desc := "(JJ)I" } : Jvm.MethodName)) ∈ kz_TT := kz_g (kz_in3 (List.mem_of_getElem? (i := 180) rfl)) rfl
theorem wt_661 : (Jvm.Cond.code ({ cls := "java/lang/Long", name := "compare", desc := "(JJ)I" } : Jvm.MethodName) prog_20_method_42_code (4 : Nat) (Option.some Jvm.ClassFile.FieldType.int)) ∈ kz_TT := kz_g (kz_in3 (List.mem_of_getElem? (i := 181) rfl)) rfl
theorem wt_662 : (Jvm.Cond.constantLong "StackAssembler$Scanner" (100 : Nat) (10 : Int64)) ∈ kz_TT := kz_g (kz_in3 (List.mem_of_getElem? (i := 182) rfl)) rfl
theorem wt_663 : (Jvm.Cond.methodLink "StackAssembler$Reader" (285 : Nat) ({ cls := "java/lang/Long", name := "compareUnsigned", desc := "(JJ)I" } : Jvm.MethodName)) ∈ kz_TT := kz_g (kz_in3 (List.mem_of_getElem? (i := 183) rfl)) rfl
theorem wt_664 : (Jvm.Cond.constantLong "StackAssembler$Reader" (273 : Nat) (-9223372036854775808 : Int64)) ∈ kz_TT := kz_g (kz_in3 (List.mem_of_getElem? (i := 184) rfl)) rfl
theorem wt_665 : (Jvm.Cond.constantLong "StackAssembler$Reader" (275 : Nat) (-1 : Int64)) ∈ kz_TT := kz_g (kz_in3 (List.mem_of_getElem? (i := 185) rfl)) rfl
theorem wt_666 : (Jvm.Cond.methodLink "StackAssembler$Reader" (181 : Nat) ({ cls := "StackAssembler$Scanner", name := "isName", desc := "()Z" } : Jvm.MethodName)) ∈ kz_TT := kz_g (kz_in3 (List.mem_of_getElem? (i := 186) rfl)) rfl
theorem wt_667 : (Jvm.Cond.instanceMethod ({ cls := "StackAssembler$Scanner", name := "isName", desc := "()Z" } : Jvm.MethodName)) ∈ kz_TT := kz_g (kz_in3 (List.mem_of_getElem? (i := 187) rfl)) rfl
theorem wt_668 : (Jvm.Cond.selects "StackAssembler$Scanner" ({ cls := "StackAssembler$Scanner", name := "isName", desc := "()Z" } : Jvm.MethodName) ({ cls := "StackAssembler$Scanner", name := "isName", desc := "()Z" } : Jvm.MethodName)) ∈ kz_TT := kz_g (kz_in3 (List.mem_of_getElem? (i := 188) rfl)) rfl
theorem wt_669 : (Jvm.Cond.code ({ cls := "StackAssembler$Scanner", name := "isName", desc := "()Z" } : Jvm.MethodName) prog_12_method_12_code (1 : Nat) (Option.some Jvm.ClassFile.FieldType.boolean)) ∈ kz_TT := kz_g (kz_in3 (List.mem_of_getElem? (i := 189) rfl)) rfl
theorem wt_670 : (Jvm.Cond.constantLong "StackAssembler$Reader" (283 : Nat) (4294967296 : Int64)) ∈ kz_TT := kz_g (kz_in3 (List.mem_of_getElem? (i := 190) rfl)) rfl
theorem wt_671 : (Jvm.Cond.methodLink "StackAssembler$Reader" (291 : Nat) ({ cls := "StackAssembler$Reader", name := "labelNamed", desc := "()I" } : Jvm.MethodName)) ∈ kz_TT := kz_g (kz_in3 (List.mem_of_getElem? (i := 191) rfl)) rfl
theorem wt_673 : (Jvm.Cond.instanceMethod ({ cls := "StackAssembler$Reader", name := "labelNamed", desc := "()I" } : Jvm.MethodName)) ∈ kz_TT := kz_g (kz_in3 (List.mem_of_getElem? (i := 193) rfl)) rfl
theorem wt_674 : (Jvm.Cond.code ({ cls := "StackAssembler$Reader", name := "labelNamed", desc := "()I" } : Jvm.MethodName) prog_11_method_26_code (4 : Nat) (Option.some Jvm.ClassFile.FieldType.int)) ∈ kz_TT := kz_g (kz_in3 (List.mem_of_getElem? (i := 194) rfl)) rfl
theorem wt_675 : (Jvm.Cond.methodLink "StackAssembler$Reader" (244 : Nat) ({ cls := "StackAssembler$Level", name := "isBlock", desc := "()Z" } : Jvm.MethodName)) ∈ kz_TT := kz_g (kz_in3 (List.mem_of_getElem? (i := 195) rfl)) rfl
theorem wt_676 : (Jvm.Cond.instanceMethod ({ cls := "StackAssembler$Level", name := "isBlock", desc := "()Z" } : Jvm.MethodName)) ∈ kz_TT := kz_g (kz_in3 (List.mem_of_getElem? (i := 196) rfl)) rfl
theorem wt_677 : (Jvm.Cond.selects "StackAssembler$Level" ({ cls := "StackAssembler$Level", name := "isBlock", desc := "()Z" } : Jvm.MethodName) ({ cls := "StackAssembler$Level", name := "isBlock", desc := "()Z" } : Jvm.MethodName)) ∈ kz_TT := kz_g (kz_in3 (List.mem_of_getElem? (i := 197) rfl)) rfl
theorem wt_678 : (Jvm.Cond.code ({ cls := "StackAssembler$Level", name := "isBlock", desc := "()Z" } : Jvm.MethodName) prog_7_method_3_code (1 : Nat) (Option.some Jvm.ClassFile.FieldType.boolean)) ∈ kz_TT := kz_g (kz_in3 (List.mem_of_getElem? (i := 198) rfl)) rfl
theorem wt_679 : (Jvm.Cond.methodLink "StackAssembler$Reader" (227 : Nat) ({ cls := "StackAssembler$Scanner", name := "same", desc := "(II)Z" } : Jvm.MethodName)) ∈ kz_TT := kz_g (kz_in3 (List.mem_of_getElem? (i := 199) rfl)) rfl
theorem wt_680 : (Jvm.Cond.instanceMethod ({ cls := "StackAssembler$Scanner", name := "same", desc := "(II)Z" } : Jvm.MethodName)) ∈ kz_TT := kz_g (kz_in3 (List.mem_of_getElem? (i := 200) rfl)) rfl
theorem wt_681 : (Jvm.Cond.selects "StackAssembler$Scanner" ({ cls := "StackAssembler$Scanner", name := "same", desc := "(II)Z" } : Jvm.MethodName) ({ cls := "StackAssembler$Scanner", name := "same", desc := "(II)Z" } : Jvm.MethodName)) ∈ kz_TT := kz_g (kz_in3 (List.mem_of_getElem? (i := 201) rfl)) rfl
theorem wt_682 : (Jvm.Cond.code ({ cls := "StackAssembler$Scanner", name := "same", desc := "(II)Z" } : Jvm.MethodName) prog_12_method_10_code (6 : Nat) (Option.some Jvm.ClassFile.FieldType.boolean)) ∈ kz_TT := kz_g (kz_in3 (List.mem_of_getElem? (i := 202) rfl)) rfl
theorem wt_683 : (Jvm.Cond.methodLink "StackAssembler$Reader" (184 : Nat) ({ cls := "StackAssembler$Reader", name := "slotNamed", desc := "()I" } : Jvm.MethodName)) ∈ kz_TT := kz_g (kz_in3 (List.mem_of_getElem? (i := 203) rfl)) rfl
theorem wt_685 : (Jvm.Cond.instanceMethod ({ cls := "StackAssembler$Reader", name := "slotNamed", desc := "()I" } : Jvm.MethodName)) ∈ kz_TT := kz_g (kz_in3 (List.mem_of_getElem? (i := 205) rfl)) rfl
theorem wt_686 : (Jvm.Cond.code ({ cls := "StackAssembler$Reader", name := "slotNamed", desc := "()I" } : Jvm.MethodName) prog_11_method_27_code (3 : Nat) (Option.some Jvm.ClassFile.FieldType.int)) ∈ kz_TT := kz_g (kz_in3 (List.mem_of_getElem? (i := 206) rfl)) rfl
theorem wt_687 : (Jvm.Cond.methodLink "StackAssembler$Reader" (190 : Nat) ({ cls := "StackAssembler$Module", name := "latest", desc := "()LStackAssembler$Function;" } : Jvm.MethodName)) ∈ kz_TT := kz_g (kz_in3 (List.mem_of_getElem? (i := 207) rfl)) rfl
theorem wt_688 : (Jvm.Cond.methodLink "StackAssembler$Reader" (210 : Nat) ({ cls := "StackAssembler$Reader", name := "setLatestOperand", desc := "(J)V" } : Jvm.MethodName)) ∈ kz_TT := kz_g (kz_in3 (List.mem_of_getElem? (i := 208) rfl)) rfl
theorem wt_690 : (Jvm.Cond.instanceMethod ({ cls := "StackAssembler$Reader", name := "setLatestOperand", desc := "(J)V" } : Jvm.MethodName)) ∈ kz_TT := kz_g (kz_in3 (List.mem_of_getElem? (i := 210) rfl)) rfl
theorem wt_691 : (Jvm.Cond.code ({ cls := "StackAssembler$Reader", name := "setLatestOperand", desc := "(J)V" } : Jvm.MethodName) prog_11_method_18_code (3 : Nat) (Option.none : Option Jvm.ClassFile.FieldType)) ∈ kz_TT := kz_g (kz_in3 (List.mem_of_getElem? (i := 211) rfl)) rfl
theorem wt_692 : (Jvm.Cond.methodLink "StackAssembler$Reader" (84 : Nat) ({ cls := "StackAssembler$Reader", name := "inText", desc := "(LStackAssembler$Level;)I" } : Jvm.MethodName)) ∈ kz_TT := kz_g (kz_in3 (List.mem_of_getElem? (i := 212) rfl)) rfl
theorem wt_694 : (Jvm.Cond.instanceMethod ({ cls := "StackAssembler$Reader", name := "inText", desc := "(LStackAssembler$Level;)I" } : Jvm.MethodName)) ∈ kz_TT := kz_g (kz_in3 (List.mem_of_getElem? (i := 214) rfl)) rfl
theorem wt_695 : (Jvm.Cond.code ({ cls := "StackAssembler$Reader", name := "inText", desc := "(LStackAssembler$Level;)I" } : Jvm.MethodName) prog_11_method_7_code (2 : Nat) (Option.some Jvm.ClassFile.FieldType.int)) ∈ kz_TT := kz_g (kz_in3 (List.mem_of_getElem? (i := 215) rfl)) rfl
theorem wt_696 : (Jvm.Cond.methodLink "StackAssembler$Reader" (118 : Nat) ({ cls := "StackAssembler$Reader", name := "open", desc := "()I" } : Jvm.MethodName)) ∈ kz_TT := kz_g (kz_in3 (List.mem_of_getElem? (i := 216) rfl)) rfl
theorem wt_698 : (Jvm.Cond.instanceMethod ({ cls := "StackAssembler$Reader", name := "open", desc := "()I" } : Jvm.MethodName)) ∈ kz_TT := kz_g (kz_in3 (List.mem_of_getElem? (i := 218) rfl)) rfl
theorem wt_699 : (Jvm.Cond.code ({ cls := "StackAssembler$Reader", name := "open", desc := "()I" } : Jvm.MethodName) prog_11_method_5_code (1 : Nat) (Option.some Jvm.ClassFile.FieldType.int)) ∈ kz_TT := kz_g (kz_in3 (List.mem_of_getElem? (i := 219) rfl)) rfl
theorem wt_700 : (Jvm.Cond.methodLink "StackAssembler$Reader" (105 : Nat) ({ cls := "StackAssembler$Reader", name := "push", desc := "(I)Z" } : Jvm.MethodName)) ∈ kz_TT := kz_g (kz_in3 (List.mem_of_getElem? (i := 220) rfl)) rfl
theorem wt_702 : (Jvm.Cond.instanceMethod ({ cls := "StackAssembler$Reader", name := "push", desc := "(I)Z" } : Jvm.MethodName)) ∈ kz_TT := kz_g (kz_in3 (List.mem_of_getElem? (i := 222) rfl)) rfl
theorem wt_703 : (Jvm.Cond.code ({ cls := "StackAssembler$Reader", name := "push", desc := "(I)Z" } : Jvm.MethodName) prog_11_method_4_code (2 : Nat) (Option.some Jvm.ClassFile.FieldType.boolean)) ∈ kz_TT := kz_g (kz_in3 (List.mem_of_getElem? (i := 223) rfl)) rfl
theorem wt_704 : (Jvm.Cond.methodLink "StackAssembler$Reader" (87 : Nat) ({ cls := "StackAssembler$Reader", name := "behindOpening", desc := "(LStackAssembler$Level;)I" } : Jvm.MethodName)) ∈ kz_TT := kz_g (kz_in3 (List.mem_of_getElem? (i := 224) rfl)) rfl
theorem wt_706 : (Jvm.Cond.instanceMethod ({ cls := "StackAssembler$Reader", name := "behindOpening", desc := "(LStackAssembler$Level;)I" } : Jvm.MethodName)) ∈ kz_TT := kz_g (kz_in3 (List.mem_of_getElem? (i := 226) rfl)) rfl
theorem wt_707 : (Jvm.Cond.code ({ cls := "StackAssembler$Reader", name := "behindOpening", desc := "(LStackAssembler$Level;)I" } : Jvm.MethodName) prog_11_method_9_code (3 : Nat) (Option.some Jvm.ClassFile.FieldType.int)) ∈ kz_TT := kz_g (kz_in3 (List.mem_of_getElem? (i := 227) rfl)) rfl
theorem wt_708 : (Jvm.Cond.methodLink "StackAssembler$Reader" (109 : Nat) ({ cls := "java/lang/Math", name := "max", desc := "(II)I" } : Jvm.MethodName)) ∈ kz_TT := kz_g (kz_in3 (List.mem_of_getElem? (i := 228) rfl)) rfl
theorem wt_710 : (Jvm.Cond.methodLink "StackAssembler$Reader" (125 : Nat) ({ cls := "StackAssembler$Scanner", name := "is", desc := "(Ljava/lang/String;)Z" } : Jvm.MethodName)) ∈ kz_TT := kz_g (kz_in3 (List.mem_of_getElem? (i := 230) rfl)) rfl
theorem wt_711 : (Jvm.Cond.methodLink "StackAssembler$Reader" (129 : Nat) ({ cls := "StackAssembler$Reader", name := "beginFunction", desc := "(LStackAssembler$Level;)I" } : Jvm.MethodName)) ∈ kz_TT := kz_g (kz_in3 (List.mem_of_getElem? (i := 231) rfl)) rfl
theorem wt_713 : (Jvm.Cond.instanceMethod ({ cls := "StackAssembler$Reader", name := "beginFunction", desc := "(LStackAssembler$Level;)I" } : Jvm.MethodName)) ∈ kz_TT := kz_g (kz_in3 (List.mem_of_getElem? (i := 233) rfl)) rfl
theorem wt_714 : (Jvm.Cond.code ({ cls := "StackAssembler$Reader", name := "beginFunction", desc := "(LStackAssembler$Level;)I" } : Jvm.MethodName) prog_11_method_10_code (2 : Nat) (Option.some Jvm.ClassFile.FieldType.int)) ∈ kz_TT := kz_g (kz_in3 (List.mem_of_getElem? (i := 234) rfl)) rfl
theorem wt_716 : (Jvm.Cond.methodLink "StackAssembler$Reader" (141 : Nat) ({ cls := "StackAssembler$Module", name := "addFunction", desc := "()Z" } : Jvm.MethodName)) ∈ kz_TT := kz_g (kz_in3 (List.mem_of_getElem? (i := 236) rfl)) rfl
theorem wt_717 : (Jvm.Cond.instanceMethod ({ cls := "StackAssembler$Module", name := "addFunction", desc := "()Z" } : Jvm.MethodName)) ∈ kz_TT := kz_g (kz_in3 (List.mem_of_getElem? (i := 237) rfl)) rfl
theorem wt_718 : (Jvm.Cond.selects "StackAssembler$Module" ({ cls := "StackAssembler$Module", name := "addFunction", desc := "()Z" } : Jvm.MethodName) ({ cls := "StackAssembler$Module", name := "addFunction", desc := "()Z" } : Jvm.MethodName)) ∈ kz_TT := kz_g (kz_in3 (List.mem_of_getElem? (i := 238) rfl)) rfl
theorem wt_719 : (Jvm.Cond.code ({ cls := "StackAssembler$Module", name := "addFunction", desc := "()Z" } : Jvm.MethodName) prog_8_method_6_code (1 : Nat) (Option.some Jvm.ClassFile.FieldType.boolean)) ∈ kz_TT := kz_g (kz_in3 (List.mem_of_getElem? (i := 239) rfl)) rfl
theorem wt_720 : (Jvm.Cond.methodLink "StackAssembler$Module" (60 : Nat) ({ cls := "StackAssembler$Module", name := "latest", desc := "()LStackAssembler$Function;" } : Jvm.MethodName)) ∈ kz_TT := kz_g (kz_in4 (List.mem_of_getElem? (i := 0) rfl)) rfl
theorem wt_721 : (Jvm.Cond.methodLink "StackAssembler$Module" (64 : Nat) ({ cls := "StackAssembler$Function", name := "begin", desc := "(I)V" } : Jvm.MethodName)) ∈ kz_TT := kz_g (kz_in4 (List.mem_of_getElem? (i := 1) rfl)) rfl
theorem wt_722 : (Jvm.Cond.instanceMethod ({ cls := "StackAssembler$Function", name := "begin", desc := "(I)V" } : Jvm.MethodName)) ∈ kz_TT := kz_g (kz_in4 (List.mem_of_getElem? (i := 2) rfl)) rfl
theorem wt_723 : (Jvm.Cond.selects "StackAssembler$Function" ({ cls := "StackAssembler$Function", name := "begin", desc := "(I)V" } : Jvm.MethodName) ({ cls := "StackAssembler$Function", name := "begin", desc := "(I)V" } : Jvm.MethodName)) ∈ kz_TT := kz_g (kz_in4 (List.mem_of_getElem? (i := 3) rfl)) rfl
theorem wt_724 : (Jvm.Cond.code ({ cls := "StackAssembler$Function", name := "begin", desc := "(I)V" } : Jvm.MethodName) prog_6_method_2_code (2 : Nat) (Option.none : Option Jvm.ClassFile.FieldType)) ∈ kz_TT := kz_g (kz_in4 (List.mem_of_getElem? (i := 4) rfl)) rfl
theorem wt_725 : (Jvm.Cond.methodLink "StackAssembler$Reader" (145 : Nat) ({ cls := "StackAssembler$Reader", name := "setFunctionName", desc := "(I)V" } : Jvm.MethodName)) ∈ kz_TT := kz_g (kz_in4 (List.mem_of_getElem? (i := 5) rfl)) rfl
theorem wt_727 : (Jvm.Cond.instanceMethod ({ cls := "StackAssembler$Reader", name := "setFunctionName", desc := "(I)V" } : Jvm.MethodName)) ∈ kz_TT := kz_g (kz_in4 (List.mem_of_getElem? (i := 7) rfl)) rfl
theorem wt_728 : (Jvm.Cond.code ({ cls := "StackAssembler$Reader", name := "setFunctionName", desc := "(I)V" } : Jvm.MethodName) prog_11_method_21_code (3 : Nat) (Option.none : Option Jvm.ClassFile.FieldType)) ∈ kz_TT := kz_g (kz_in4 (List.mem_of_getElem? (i := 8) rfl)) rfl
theorem wt_729 : (Jvm.Cond.methodLink "StackAssembler$Reader" (132 : Nat) ({ cls := "StackAssembler$Reader", name := "beginFolded", desc := "(LStackAssembler$Level;)I" } : Jvm.MethodName)) ∈ kz_TT := kz_g (kz_in4 (List.mem_of_getElem? (i := 9) rfl)) rfl
theorem wt_731 : (Jvm.Cond.instanceMethod ({ cls := "StackAssembler$Reader", name := "beginFolded", desc := "(LStackAssembler$Level;)I" } : Jvm.MethodName)) ∈ kz_TT := kz_g (kz_in4 (List.mem_of_getElem? (i := 11) rfl)) rfl
theorem wt_732 : (Jvm.Cond.code ({ cls := "StackAssembler$Reader", name := "beginFolded", desc := "(LStackAssembler$Level;)I" } : Jvm.MethodName) prog_11_method_12_code (3 : Nat) (Option.some Jvm.ClassFile.FieldType.int)) ∈ kz_TT := kz_g (kz_in4 (List.mem_of_getElem? (i := 12) rfl)) rfl
theorem wt_733 : (Jvm.Cond.methodLink "StackAssembler$Reader" (158 : Nat) ({ cls := "StackAssembler$Op", name := "isPlain", desc := "()Z" } : Jvm.MethodName)) ∈ kz_TT := kz_g (kz_in4 (List.mem_of_getElem? (i := 13) rfl)) rfl
theorem wt_734 : (Jvm.Cond.instanceMethod ({ cls := "StackAssembler$Op", name := "isPlain", desc := "()Z" } : Jvm.MethodName)) ∈ kz_TT := kz_g (kz_in4 (List.mem_of_getElem? (i := 14) rfl)) rfl
theorem wt_735 : (Jvm.Cond.selects "StackAssembler$Op" ({ cls := "StackAssembler$Op", name := "isPlain", desc := "()Z" } : Jvm.MethodName) ({ cls := "StackAssembler$Op", name := "isPlain", desc := "()Z" } : Jvm.MethodName)) ∈ kz_TT := kz_g (kz_in4 (List.mem_of_getElem? (i := 15) rfl)) rfl
theorem wt_736 : (Jvm.Cond.code ({ cls := "StackAssembler$Op", name := "isPlain", desc := "()Z" } : Jvm.MethodName) prog_9_method_6_code (1 : Nat) (Option.some Jvm.ClassFile.FieldType.boolean)) ∈ kz_TT := kz_g (kz_in4 (List.mem_of_getElem? (i := 16) rfl)) rfl
theorem wt_737 : (Jvm.Cond.methodLink "StackAssembler$Op" (138 : Nat) ({ cls := "StackAssembler$Op", name := "opensBlock", desc := "()Z" } : Jvm.MethodName)) ∈ kz_TT := kz_g (kz_in4 (List.mem_of_getElem? (i := 17) rfl)) rfl
theorem wt_738 : (Jvm.Cond.instanceMethod ({ cls := "StackAssembler$Op", name := "opensBlock", desc := "()Z" } : Jvm.MethodName)) ∈ kz_TT := kz_g (kz_in4 (List.mem_of_getElem? (i := 18) rfl)) rfl
theorem wt_739 : (Jvm.Cond.selects "StackAssembler$Op" ({ cls := "StackAssembler$Op", name := "opensBlock", desc := "()Z" } : Jvm.MethodName) ({ cls := "StackAssembler$Op", name := "opensBlock", desc := "()Z" } : Jvm.MethodName)) ∈ kz_TT := kz_g (kz_in4 (List.mem_of_getElem? (i := 19) rfl)) rfl
theorem wt_740 : (Jvm.Cond.code ({ cls := "StackAssembler$Op", name := "opensBlock", desc := "()Z" } : Jvm.MethodName) prog_9_method_5_code (1 : Nat) (Option.some Jvm.ClassFile.FieldType.boolean)) ∈ kz_TT := kz_g (kz_in4 (List.mem_of_getElem? (i := 20) rfl)) rfl
theorem wt_741 : (Jvm.Cond.fieldLink "StackAssembler$Op" (21 : Nat) "StackAssembler$Op" "ELSE" "LStackAssembler$Op;") ∈ kz_TT := kz_g (kz_in4 (List.mem_of_getElem? (i := 21) rfl)) rfl
theorem wt_743 : (Jvm.Cond.fieldLink "StackAssembler$Op" (24 : Nat) "StackAssembler$Op" "END" "LStackAssembler$Op;") ∈ kz_TT := kz_g (kz_in4 (List.mem_of_getElem? (i := 23) rfl)) rfl
theorem wt_744 : (Jvm.Cond.methodLink "StackAssembler$Reader" (164 : Nat) ({ cls := "StackAssembler$Op", name := "awaitsOperand", desc := "()Z" } : Jvm.MethodName)) ∈ kz_TT := kz_g (kz_in4 (List.mem_of_getElem? (i := 24) rfl)) rfl
theorem wt_745 : (Jvm.Cond.instanceMethod ({ cls := "StackAssembler$Op", name := "awaitsOperand", desc := "()Z" } : Jvm.MethodName)) ∈ kz_TT := kz_g (kz_in4 (List.mem_of_getElem? (i := 25) rfl)) rfl
theorem wt_746 : (Jvm.Cond.selects "StackAssembler$Op" ({ cls := "StackAssembler$Op", name := "awaitsOperand", desc := "()Z" } : Jvm.MethodName) ({ cls := "StackAssembler$Op", name := "awaitsOperand", desc := "()Z" } : Jvm.MethodName)) ∈ kz_TT := kz_g (kz_in4 (List.mem_of_getElem? (i := 26) rfl)) rfl
theorem wt_747 : (Jvm.Cond.code ({ cls := "StackAssembler$Op", name := "awaitsOperand", desc := "()Z" } : Jvm.MethodName) prog_9_method_7_code (1 : Nat) (Option.some Jvm.ClassFile.FieldType.boolean)) ∈ kz_TT := kz_g (kz_in4 (List.mem_of_getElem? (i := 27) rfl)) rfl
theorem wt_748 : (Jvm.Cond.methodLink "StackAssembler$Reader" (135 : Nat) ({ cls := "StackAssembler$Reader", name := "beginPart", desc := "(LStackAssembler$Level;LStackAssembler$Level;)I" } : Jvm.MethodName)) ∈ kz_TT := kz_g (kz_in4 (List.mem_of_getElem? (i := 28) rfl)) rfl
theorem wt_750 : (Jvm.Cond.instanceMethod ({ cls := "StackAssembler$Reader", name := "beginPart", desc := "(LStackAssembler$Level;LStackAssembler$Level;)I" } : Jvm.MethodName)) ∈ kz_TT := kz_g (kz_in4 (List.mem_of_getElem? (i := 30) rfl)) rfl
theorem wt_751 : (Jvm.Cond.code ({ cls := "StackAssembler$Reader", name := "beginPart", desc := "(LStackAssembler$Level;LStackAssembler$Level;)I" } : Jvm.MethodName) prog_11_method_11_code (4 : Nat) (Option.some Jvm.ClassFile.FieldType.int)) ∈ kz_TT := kz_g (kz_in4 (List.mem_of_getElem? (i := 31) rfl)) rfl
theorem wt_755 : (Jvm.Cond.methodLink "StackAssembler$Reader" (90 : Nat) ({ cls := "StackAssembler$Reader", name := "inModule", desc := "()I" } : Jvm.MethodName)) ∈ kz_TT := kz_g (kz_in4 (List.mem_of_getElem? (i := 35) rfl)) rfl
theorem wt_757 : (Jvm.Cond.instanceMethod ({ cls := "StackAssembler$Reader", name := "inModule", desc := "()I" } : Jvm.MethodName)) ∈ kz_TT := kz_g (kz_in4 (List.mem_of_getElem? (i := 37) rfl)) rfl
theorem wt_758 : (Jvm.Cond.code ({ cls := "StackAssembler$Reader", name := "inModule", desc := "()I" } : Jvm.MethodName) prog_11_method_8_code (1 : Nat) (Option.some Jvm.ClassFile.FieldType.int)) ∈ kz_TT := kz_g (kz_in4 (List.mem_of_getElem? (i := 38) rfl)) rfl
theorem wt_759 : (Jvm.Cond.methodLink "StackAssembler$Reader" (121 : Nat) ({ cls := "StackAssembler$Reader", name := "close", desc := "()I" } : Jvm.MethodName)) ∈ kz_TT := kz_g (kz_in4 (List.mem_of_getElem? (i := 39) rfl)) rfl
theorem wt_761 : (Jvm.Cond.instanceMethod ({ cls := "StackAssembler$Reader", name := "close", desc := "()I" } : Jvm.MethodName)) ∈ kz_TT := kz_g (kz_in4 (List.mem_of_getElem? (i := 41) rfl)) rfl
theorem wt_762 : (Jvm.Cond.code ({ cls := "StackAssembler$Reader", name := "close", desc := "()I" } : Jvm.MethodName) prog_11_method_6_code (1 : Nat) (Option.some Jvm.ClassFile.FieldType.int)) ∈ kz_TT := kz_g (kz_in4 (List.mem_of_getElem? (i := 42) rfl)) rfl
theorem wt_763 : (Jvm.Cond.methodLink "StackAssembler$Reader" (93 : Nat) ({ cls := "StackAssembler$Reader", name := "inDeclaration", desc := "(LStackAssembler$Level;)I" } : Jvm.MethodName)) ∈ kz_TT := kz_g (kz_in4 (List.mem_of_getElem? (i := 43) rfl)) rfl
theorem wt_765 : (Jvm.Cond.instanceMethod ({ cls := "StackAssembler$Reader", name := "inDeclaration", desc := "(LStackAssembler$Level;)I" } : Jvm.MethodName)) ∈ kz_TT := kz_g (kz_in4 (List.mem_of_getElem? (i := 45) rfl)) rfl
theorem wt_766 : (Jvm.Cond.code ({ cls := "StackAssembler$Reader", name := "inDeclaration", desc := "(LStackAssembler$Level;)I" } : Jvm.MethodName) prog_11_method_14_code (3 : Nat) (Option.some Jvm.ClassFile.FieldType.int)) ∈ kz_TT := kz_g (kz_in4 (List.mem_of_getElem? (i := 46) rfl)) rfl
theorem wt_767 : (Jvm.Cond.methodLink "StackAssembler$Reader" (174 : Nat) ({ cls := "StackAssembler$Scanner", name := "valueType", desc := "()I" } : Jvm.MethodName)) ∈ kz_TT := kz_g (kz_in4 (List.mem_of_getElem? (i := 47) rfl)) rfl
theorem wt_768 : (Jvm.Cond.instanceMethod ({ cls := "StackAssembler$Scanner", name := "valueType", desc := "()I" } : Jvm.MethodName)) ∈ kz_TT := kz_g (kz_in4 (List.mem_of_getElem? (i := 48) rfl)) rfl
theorem wt_769 : (Jvm.Cond.selects "StackAssembler$Scanner" ({ cls := "StackAssembler$Scanner", name := "valueType", desc := "()I" } : Jvm.MethodName) ({ cls := "StackAssembler$Scanner", name := "valueType", desc := "()I" } : Jvm.MethodName)) ∈ kz_TT := kz_g (kz_in4 (List.mem_of_getElem? (i := 49) rfl)) rfl
theorem wt_770 : (Jvm.Cond.code ({ cls := "StackAssembler$Scanner", name := "valueType", desc := "()I" } : Jvm.MethodName) prog_12_method_13_code (1 : Nat) (Option.some Jvm.ClassFile.FieldType.int)) ∈ kz_TT := kz_g (kz_in4 (List.mem_of_getElem? (i := 50) rfl)) rfl
theorem wt_773 : (Jvm.Cond.methodLink "StackAssembler$Reader" (177 : Nat) ({ cls := "StackAssembler$Reader", name := "declare", desc := "(LStackAssembler$Level;I)Z" } : Jvm.MethodName)) ∈ kz_TT := kz_g (kz_in4 (List.mem_of_getElem? (i := 53) rfl)) rfl
theorem wt_775 : (Jvm.Cond.instanceMethod ({ cls := "StackAssembler$Reader", name := "declare", desc := "(LStackAssembler$Level;I)Z" } : Jvm.MethodName)) ∈ kz_TT := kz_g (kz_in4 (List.mem_of_getElem? (i := 55) rfl)) rfl
theorem wt_776 : (Jvm.Cond.code ({ cls := "StackAssembler$Reader", name := "declare", desc := "(LStackAssembler$Level;I)Z" } : Jvm.MethodName) prog_11_method_15_code (5 : Nat) (Option.some Jvm.ClassFile.FieldType.boolean)) ∈ kz_TT := kz_g (kz_in4 (List.mem_of_getElem? (i := 56) rfl)) rfl
theorem wt_777 : (Jvm.Cond.methodLink "StackAssembler$Reader" (199 : Nat) ({ cls := "StackAssembler$Function", name := "addParameter", desc := "(I)Z" } : Jvm.MethodName)) ∈ kz_TT := kz_g (kz_in4 (List.mem_of_getElem? (i := 57) rfl)) rfl
theorem wt_778 : (Jvm.Cond.instanceMethod ({ cls := "StackAssembler$Function", name := "addParameter", desc := "(I)Z" } : Jvm.MethodName)) ∈ kz_TT := kz_g (kz_in4 (List.mem_of_getElem? (i := 58) rfl)) rfl
theorem wt_779 : (Jvm.Cond.selects "StackAssembler$Function" ({ cls := "StackAssembler$Function", name := "addParameter", desc := "(I)Z" } : Jvm.MethodName) ({ cls := "StackAssembler$Function", name := "addParameter", desc := "(I)Z" } : Jvm.MethodName)) ∈ kz_TT := kz_g (kz_in4 (List.mem_of_getElem? (i := 59) rfl)) rfl
theorem wt_780 : (Jvm.Cond.code ({ cls := "StackAssembler$Function", name := "addParameter", desc := "(I)Z" } : Jvm.MethodName) prog_6_method_4_code (2 : Nat) (Option.some Jvm.ClassFile.FieldType.boolean)) ∈ kz_TT := kz_g (kz_in4 (List.mem_of_getElem? (i := 60) rfl)) rfl
theorem wt_781 : (Jvm.Cond.methodLink "StackAssembler$Function" (33 : Nat) ({ cls := "StackAssembler$Function", name := "addLocal", desc := "(I)Z" } : Jvm.MethodName)) ∈ kz_TT := kz_g (kz_in4 (List.mem_of_getElem? (i := 61) rfl)) rfl
theorem wt_782 : (Jvm.Cond.instanceMethod ({ cls := "StackAssembler$Function", name := "addLocal", desc := "(I)Z" } : Jvm.MethodName)) ∈ kz_TT := kz_g (kz_in4 (List.mem_of_getElem? (i := 62) rfl)) rfl
theorem wt_783 : (Jvm.Cond.selects "StackAssembler$Function" ({ cls := "StackAssembler$Function", name := "addLocal", desc := "(I)Z" } : Jvm.MethodName) ({ cls := "StackAssembler$Function", name := "addLocal", desc := "(I)Z" } : Jvm.MethodName)) ∈ kz_TT := kz_g (kz_in4 (List.mem_of_getElem? (i := 63) rfl)) rfl
theorem wt_784 : (Jvm.Cond.code ({ cls := "StackAssembler$Function", name := "addLocal", desc := "(I)Z" } : Jvm.MethodName) prog_6_method_5_code (2 : Nat) (Option.some Jvm.ClassFile.FieldType.boolean)) ∈ kz_TT := kz_g (kz_in4 (List.mem_of_getElem? (i := 64) rfl)) rfl
theorem wt_785 : (Jvm.Cond.methodLink "StackAssembler$Reader" (202 : Nat) ({ cls := "StackAssembler$Function", name := "addLocal", desc := "(I)Z" } : Jvm.MethodName)) ∈ kz_TT := kz_g (kz_in4 (List.mem_of_getElem? (i := 65) rfl)) rfl
theorem wt_786 : (Jvm.Cond.methodLink "StackAssembler$Reader" (96 : Nat) ({ cls := "StackAssembler$Reader", name := "inResult", desc := "(LStackAssembler$Level;)I" } : Jvm.MethodName)) ∈ kz_TT := kz_g (kz_in4 (List.mem_of_getElem? (i := 66) rfl)) rfl
theorem wt_788 : (Jvm.Cond.instanceMethod ({ cls := "StackAssembler$Reader", name := "inResult", desc := "(LStackAssembler$Level;)I" } : Jvm.MethodName)) ∈ kz_TT := kz_g (kz_in4 (List.mem_of_getElem? (i := 68) rfl)) rfl
theorem wt_789 : (Jvm.Cond.code ({ cls := "StackAssembler$Reader", name := "inResult", desc := "(LStackAssembler$Level;)I" } : Jvm.MethodName) prog_11_method_16_code (3 : Nat) (Option.some Jvm.ClassFile.FieldType.int)) ∈ kz_TT := kz_g (kz_in4 (List.mem_of_getElem? (i := 69) rfl)) rfl
theorem wt_790 : (Jvm.Cond.methodLink "StackAssembler$Reader" (205 : Nat) ({ cls := "StackAssembler$Reader", name := "setResult", desc := "(I)V" } : Jvm.MethodName)) ∈ kz_TT := kz_g (kz_in4 (List.mem_of_getElem? (i := 70) rfl)) rfl
theorem wt_792 : (Jvm.Cond.instanceMethod ({ cls := "StackAssembler$Reader", name := "setResult", desc := "(I)V" } : Jvm.MethodName)) ∈ kz_TT := kz_g (kz_in4 (List.mem_of_getElem? (i := 72) rfl)) rfl
theorem wt_793 : (Jvm.Cond.code ({ cls := "StackAssembler$Reader", name := "setResult", desc := "(I)V" } : Jvm.MethodName) prog_11_method_17_code (3 : Nat) (Option.none : Option Jvm.ClassFile.FieldType)) ∈ kz_TT := kz_g (kz_in4 (List.mem_of_getElem? (i := 73) rfl)) rfl
theorem wt_794 : (Jvm.Cond.methodLink "StackAssembler$Reader" (99 : Nat) ({ cls := "StackAssembler$Reader", name := "inFolded", desc := "(LStackAssembler$Level;)I" } : Jvm.MethodName)) ∈ kz_TT := kz_g (kz_in4 (List.mem_of_getElem? (i := 74) rfl)) rfl
theorem wt_796 : (Jvm.Cond.instanceMethod ({ cls := "StackAssembler$Reader", name := "inFolded", desc := "(LStackAssembler$Level;)I" } : Jvm.MethodName)) ∈ kz_TT := kz_g (kz_in4 (List.mem_of_getElem? (i := 76) rfl)) rfl
theorem wt_797 : (Jvm.Cond.code ({ cls := "StackAssembler$Reader", name := "inFolded", desc := "(LStackAssembler$Level;)I" } : Jvm.MethodName) prog_11_method_13_code (2 : Nat) (Option.some Jvm.ClassFile.FieldType.int)) ∈ kz_TT := kz_g (kz_in4 (List.mem_of_getElem? (i := 77) rfl)) rfl
theorem wt_798 : (Jvm.Cond.methodLink "StackAssembler$Reader" (170 : Nat) ({ cls := "StackAssembler$Module", name := "add", desc := "(LStackAssembler$Op;J)Z" } : Jvm.MethodName)) ∈ kz_TT := kz_g (kz_in4 (List.mem_of_getElem? (i := 78) rfl)) rfl
theorem wt_799 : (Jvm.Cond.instanceMethod ({ cls := "StackAssembler$Module", name := "add", desc := "(LStackAssembler$Op;J)Z" } : Jvm.MethodName)) ∈ kz_TT := kz_g (kz_in4 (List.mem_of_getElem? (i := 79) rfl)) rfl
theorem wt_800 : (Jvm.Cond.selects "StackAssembler$Module" ({ cls := "StackAssembler$Module", name := "add", desc := "(LStackAssembler$Op;J)Z" } : Jvm.MethodName) ({ cls := "StackAssembler$Module", name := "add", desc := "(LStackAssembler$Op;J)Z" } : Jvm.MethodName)) ∈ kz_TT := kz_g (kz_in4 (List.mem_of_getElem? (i := 80) rfl)) rfl
theorem wt_801 : (Jvm.Cond.code ({ cls := "StackAssembler$Module", name := "add", desc := "(LStackAssembler$Op;J)Z" } : Jvm.MethodName) prog_8_method_7_code (4 : Nat) (Option.some Jvm.ClassFile.FieldType.boolean)) ∈ kz_TT := kz_g (kz_in4 (List.mem_of_getElem? (i := 81) rfl)) rfl
theorem wt_802 : (Jvm.Cond.methodLink "StackAssembler$Reader" (102 : Nat) ({ cls := "StackAssembler$Reader", name := "inBody", desc := "(LStackAssembler$Level;)I" } : Jvm.MethodName)) ∈ kz_TT := kz_g (kz_in4 (List.mem_of_getElem? (i := 82) rfl)) rfl
theorem wt_804 : (Jvm.Cond.instanceMethod ({ cls := "StackAssembler$Reader", name := "inBody", desc := "(LStackAssembler$Level;)I" } : Jvm.MethodName)) ∈ kz_TT := kz_g (kz_in4 (List.mem_of_getElem? (i := 84) rfl)) rfl
theorem wt_805 : (Jvm.Cond.code ({ cls := "StackAssembler$Reader", name := "inBody", desc := "(LStackAssembler$Level;)I" } : Jvm.MethodName) prog_11_method_19_code (3 : Nat) (Option.some Jvm.ClassFile.FieldType.int)) ∈ kz_TT := kz_g (kz_in4 (List.mem_of_getElem? (i := 85) rfl)) rfl
theorem wt_806 : (Jvm.Cond.methodLink "StackAssembler$Reader" (221 : Nat) ({ cls := "StackAssembler$Reader", name := "instructionIn", desc := "(LStackAssembler$Level;)I" } : Jvm.MethodName)) ∈ kz_TT := kz_g (kz_in4 (List.mem_of_getElem? (i := 86) rfl)) rfl
theorem wt_808 : (Jvm.Cond.instanceMethod ({ cls := "StackAssembler$Reader", name := "instructionIn", desc := "(LStackAssembler$Level;)I" } : Jvm.MethodName)) ∈ kz_TT := kz_g (kz_in4 (List.mem_of_getElem? (i := 88) rfl)) rfl
theorem wt_809 : (Jvm.Cond.code ({ cls := "StackAssembler$Reader", name := "instructionIn", desc := "(LStackAssembler$Level;)I" } : Jvm.MethodName) prog_11_method_22_code (3 : Nat) (Option.some Jvm.ClassFile.FieldType.int)) ∈ kz_TT := kz_g (kz_in4 (List.mem_of_getElem? (i := 89) rfl)) rfl
theorem wt_810 : (Jvm.Cond.fieldLink "StackAssembler$Reader" (238 : Nat) "StackAssembler$Op" "ELSE" "LStackAssembler$Op;") ∈ kz_TT := kz_g (kz_in4 (List.mem_of_getElem? (i := 90) rfl)) rfl
theorem wt_811 : (Jvm.Cond.fieldLink "StackAssembler$Reader" (241 : Nat) "StackAssembler$Op" "END" "LStackAssembler$Op;") ∈ kz_TT := kz_g (kz_in4 (List.mem_of_getElem? (i := 91) rfl)) rfl
theorem wt_812 : (Jvm.Cond.methodLink "StackAssembler$Reader" (247 : Nat) ({ cls := "StackAssembler$Op", name := "opensBlock", desc := "()Z" } : Jvm.MethodName)) ∈ kz_TT := kz_g (kz_in4 (List.mem_of_getElem? (i := 92) rfl)) rfl
theorem wt_813 : (Jvm.Cond.fieldLink "StackAssembler$Reader" (250 : Nat) "StackAssembler$Op" "IF" "LStackAssembler$Op;") ∈ kz_TT := kz_g (kz_in4 (List.mem_of_getElem? (i := 93) rfl)) rfl
theorem wt_815 : (Jvm.Cond.methodLink "StackAssembler$Reader" (224 : Nat) ({ cls := "StackAssembler$Reader", name := "giveName", desc := "(LStackAssembler$Level;)I" } : Jvm.MethodName)) ∈ kz_TT := kz_g (kz_in4 (List.mem_of_getElem? (i := 95) rfl)) rfl
theorem wt_817 : (Jvm.Cond.instanceMethod ({ cls := "StackAssembler$Reader", name := "giveName", desc := "(LStackAssembler$Level;)I" } : Jvm.MethodName)) ∈ kz_TT := kz_g (kz_in4 (List.mem_of_getElem? (i := 97) rfl)) rfl
theorem wt_818 : (Jvm.Cond.code ({ cls := "StackAssembler$Reader", name := "giveName", desc := "(LStackAssembler$Level;)I" } : Jvm.MethodName) prog_11_method_20_code (3 : Nat) (Option.some Jvm.ClassFile.FieldType.int)) ∈ kz_TT := kz_g (kz_in4 (List.mem_of_getElem? (i := 98) rfl)) rfl
theorem wt_819 : (Jvm.Cond.methodLink "StackAssembler$Reader" (231 : Nat) ({ cls := "StackAssembler$Reader", name := "functionNamed", desc := "(I)I" } : Jvm.MethodName)) ∈ kz_TT := kz_g (kz_in4 (List.mem_of_getElem? (i := 99) rfl)) rfl
theorem wt_821 : (Jvm.Cond.instanceMethod ({ cls := "StackAssembler$Reader", name := "functionNamed", desc := "(I)I" } : Jvm.MethodName)) ∈ kz_TT := kz_g (kz_in4 (List.mem_of_getElem? (i := 101) rfl)) rfl
theorem wt_822 : (Jvm.Cond.code ({ cls := "StackAssembler$Reader", name := "functionNamed", desc := "(I)I" } : Jvm.MethodName) prog_11_method_28_code (3 : Nat) (Option.some Jvm.ClassFile.FieldType.int)) ∈ kz_TT := kz_g (kz_in4 (List.mem_of_getElem? (i := 102) rfl)) rfl
theorem wt_823 : (Jvm.Cond.methodLink "StackAssembler$Reader" (76 : Nat) ({ cls := "StackAssembler$Reader", name := "findFunctions", desc := "()I" } : Jvm.MethodName)) ∈ kz_TT := kz_g (kz_in4 (List.mem_of_getElem? (i := 103) rfl)) rfl
theorem wt_825 : (Jvm.Cond.instanceMethod ({ cls := "StackAssembler$Reader", name := "findFunctions", desc := "()I" } : Jvm.MethodName)) ∈ kz_TT := kz_g (kz_in4 (List.mem_of_getElem? (i := 105) rfl)) rfl
theorem wt_826 : (Jvm.Cond.code ({ cls := "StackAssembler$Reader", name := "findFunctions", desc := "()I" } : Jvm.MethodName) prog_11_method_29_code (5 : Nat) (Option.some Jvm.ClassFile.FieldType.int)) ∈ kz_TT := kz_g (kz_in4 (List.mem_of_getElem? (i := 106) rfl)) rfl
theorem wt_827 : (Jvm.Cond.fieldLink "StackAssembler$Reader" (298 : Nat) "StackAssembler$Op" "CALL" "LStackAssembler$Op;") ∈ kz_TT := kz_g (kz_in4 (List.mem_of_getElem? (i := 107) rfl)) rfl
theorem wt_829 : (Jvm.Cond.methodLink "StackAssembler$Reader" (301 : Nat) ({ cls := "java/lang/Math", name := "min", desc := "(II)I" } : Jvm.MethodName)) ∈ kz_TT := kz_g (kz_in4 (List.mem_of_getElem? (i := 109) rfl)) rfl
theorem wt_831 : (Jvm.Cond.instanceMethod ({ cls := "StackAssembler$Checker", name := "accepts", desc := "(LStackAssembler$Module;)Z" } : Jvm.MethodName)) ∈ kz_TT := kz_g (kz_in4 (List.mem_of_getElem? (i := 111) rfl)) rfl
theorem wt_832 : (Jvm.Cond.selects "StackAssembler$Checker" ({ cls := "StackAssembler$Checker", name := "accepts", desc := "(LStackAssembler$Module;)Z" } : Jvm.MethodName) ({ cls := "StackAssembler$Checker", name := "accepts", desc := "(LStackAssembler$Module;)Z" } : Jvm.MethodName)) ∈ kz_TT := kz_g (kz_in4 (List.mem_of_getElem? (i := 112) rfl)) rfl
theorem wt_833 : (Jvm.Cond.code ({ cls := "StackAssembler$Checker", name := "accepts", desc := "(LStackAssembler$Module;)Z" } : Jvm.MethodName) prog_3_method_2_code (4 : Nat) (Option.some Jvm.ClassFile.FieldType.boolean)) ∈ kz_TT := kz_g (kz_in4 (List.mem_of_getElem? (i := 113) rfl)) rfl
theorem wt_834 : (Jvm.Cond.methodLink "StackAssembler$Checker" (48 : Nat) ({ cls := "StackAssembler$Checker", name := "checkFunction", desc := "()I" } : Jvm.MethodName)) ∈ kz_TT := kz_g (kz_in4 (List.mem_of_getElem? (i := 114) rfl)) rfl
theorem wt_836 : (Jvm.Cond.instanceMethod ({ cls := "StackAssembler$Checker", name := "checkFunction", desc := "()I" } : Jvm.MethodName)) ∈ kz_TT := kz_g (kz_in4 (List.mem_of_getElem? (i := 116) rfl)) rfl
theorem wt_837 : (Jvm.Cond.code ({ cls := "StackAssembler$Checker", name := "checkFunction", desc := "()I" } : Jvm.MethodName) prog_3_method_3_code (2 : Nat) (Option.some Jvm.ClassFile.FieldType.int)) ∈ kz_TT := kz_g (kz_in4 (List.mem_of_getElem? (i := 117) rfl)) rfl
theorem wt_838 : (Jvm.Cond.methodLink "StackAssembler$Checker" (66 : Nat) ({ cls := "StackAssembler$Frame", name := "begin", desc := "(III)V" } : Jvm.MethodName)) ∈ kz_TT := kz_g (kz_in4 (List.mem_of_getElem? (i := 118) rfl)) rfl
theorem wt_839 : (Jvm.Cond.instanceMethod ({ cls := "StackAssembler$Frame", name := "begin", desc := "(III)V" } : Jvm.MethodName)) ∈ kz_TT := kz_g (kz_in4 (List.mem_of_getElem? (i := 119) rfl)) rfl
theorem wt_840 : (Jvm.Cond.selects "StackAssembler$Frame" ({ cls := "StackAssembler$Frame", name := "begin", desc := "(III)V" } : Jvm.MethodName) ({ cls := "StackAssembler$Frame", name := "begin", desc := "(III)V" } : Jvm.MethodName)) ∈ kz_TT := kz_g (kz_in4 (List.mem_of_getElem? (i := 120) rfl)) rfl
theorem wt_841 : (Jvm.Cond.code ({ cls := "StackAssembler$Frame", name := "begin", desc := "(III)V" } : Jvm.MethodName) prog_5_method_2_code (4 : Nat) (Option.none : Option Jvm.ClassFile.FieldType)) ∈ kz_TT := kz_g (kz_in4 (List.mem_of_getElem? (i := 121) rfl)) rfl
theorem wt_842 : (Jvm.Cond.methodLink "StackAssembler$Checker" (84 : Nat) ({ cls := "StackAssembler$Checker", name := "check", desc := "(LStackAssembler$Op;J)V" } : Jvm.MethodName)) ∈ kz_TT := kz_g (kz_in4 (List.mem_of_getElem? (i := 122) rfl)) rfl
theorem wt_844 : (Jvm.Cond.instanceMethod ({ cls := "StackAssembler$Checker", name := "check", desc := "(LStackAssembler$Op;J)V" } : Jvm.MethodName)) ∈ kz_TT := kz_g (kz_in4 (List.mem_of_getElem? (i := 124) rfl)) rfl
theorem wt_845 : (Jvm.Cond.code ({ cls := "StackAssembler$Checker", name := "check", desc := "(LStackAssembler$Op;J)V" } : Jvm.MethodName) prog_3_method_4_code (4 : Nat) (Option.none : Option Jvm.ClassFile.FieldType)) ∈ kz_TT := kz_g (kz_in4 (List.mem_of_getElem? (i := 125) rfl)) rfl
theorem wt_846 : (Jvm.Cond.fieldLink "StackAssembler$Checker" (91 : Nat) "StackAssembler$1" "$SwitchMap$StackAssembler$Op" "[I") ∈ kz_TT := kz_g (kz_in4 (List.mem_of_getElem? (i := 126) rfl)) rfl
theorem wt_848 : (Jvm.Cond.methodLink "StackAssembler$Checker" (96 : Nat) ({ cls := "StackAssembler$Op", name := "ordinal", desc := "()I" } : Jvm.MethodName)) ∈ kz_TT := kz_g (kz_in4 (List.mem_of_getElem? (i := 128) rfl)) rfl
theorem wt_849 : (Jvm.Cond.sameMethod "StackAssembler$Op" "java/lang/Enum" "ordinal" "()I") ∈ kz_TT := kz_g (kz_in4 (List.mem_of_getElem? (i := 129) rfl)) rfl
theorem wt_851 : (Jvm.Cond.selects "StackAssembler$Op" ({ cls := "StackAssembler$Op", name := "ordinal", desc := "()I" } : Jvm.MethodName) ({ cls := "java/lang/Enum", name := "ordinal", desc := "()I" } : Jvm.MethodName)) ∈ kz_TT := kz_g (kz_in4 (List.mem_of_getElem? (i := 131) rfl)) rfl
theorem wt_852 : (Jvm.Cond.instanceMethod ({ cls := "java/lang/Enum", name := "ordinal", desc := "()I" } : Jvm.MethodName)) ∈ kz_TT := kz_g (kz_in4 (List.mem_of_getElem? (i := 132) rfl)) rfl
theorem wt_853 : (Jvm.Cond.code ({ cls := "java/lang/Enum", name := "ordinal", desc := "()I" } : Jvm.MethodName) prog_16_method_2_code (1 : Nat) (Option.some Jvm.ClassFile.FieldType.int)) ∈ kz_TT := kz_g (kz_in4 (List.mem_of_getElem? (i := 133) rfl)) rfl
theorem wt_854 : (Jvm.Cond.methodLink "StackAssembler$Checker" (101 : Nat) ({ cls := "StackAssembler$Checker", name := "beginFrame", desc := "(LStackAssembler$Op;I)V" } : Jvm.MethodName)) ∈ kz_TT := kz_g (kz_in4 (List.mem_of_getElem? (i := 134) rfl)) rfl
theorem wt_856 : (Jvm.Cond.instanceMethod ({ cls := "StackAssembler$Checker", name := "beginFrame", desc := "(LStackAssembler$Op;I)V" } : Jvm.MethodName)) ∈ kz_TT := kz_g (kz_in4 (List.mem_of_getElem? (i := 136) rfl)) rfl
theorem wt_857 : (Jvm.Cond.code ({ cls := "StackAssembler$Checker", name := "beginFrame", desc := "(LStackAssembler$Op;I)V" } : Jvm.MethodName) prog_3_method_6_code (3 : Nat) (Option.none : Option Jvm.ClassFile.FieldType)) ∈ kz_TT := kz_g (kz_in4 (List.mem_of_getElem? (i := 137) rfl)) rfl
theorem wt_858 : (Jvm.Cond.fieldLink "StackAssembler$Checker" (151 : Nat) "StackAssembler$Op" "IF" "LStackAssembler$Op;") ∈ kz_TT := kz_g (kz_in4 (List.mem_of_getElem? (i := 138) rfl)) rfl
theorem wt_859 : (Jvm.Cond.methodLink "StackAssembler$Checker" (125 : Nat) ({ cls := "StackAssembler$Checker", name := "take", desc := "(I)I" } : Jvm.MethodName)) ∈ kz_TT := kz_g (kz_in4 (List.mem_of_getElem? (i := 139) rfl)) rfl
theorem wt_861 : (Jvm.Cond.instanceMethod ({ cls := "StackAssembler$Checker", name := "take", desc := "(I)I" } : Jvm.MethodName)) ∈ kz_TT := kz_g (kz_in4 (List.mem_of_getElem? (i := 141) rfl)) rfl
theorem wt_862 : (Jvm.Cond.code ({ cls := "StackAssembler$Checker", name := "take", desc := "(I)I" } : Jvm.MethodName) prog_3_method_16_code (4 : Nat) (Option.some Jvm.ClassFile.FieldType.int)) ∈ kz_TT := kz_g (kz_in4 (List.mem_of_getElem? (i := 142) rfl)) rfl
theorem wt_863 : (Jvm.Cond.fieldLink "StackAssembler$Checker" (155 : Nat) "StackAssembler$Op" "LOOP" "LStackAssembler$Op;") ∈ kz_TT := kz_g (kz_in4 (List.mem_of_getElem? (i := 143) rfl)) rfl
theorem wt_865 : (Jvm.Cond.methodLink "StackAssembler$Checker" (88 : Nat) ({ cls := "StackAssembler$Checker", name := "endFrame", desc := "()V" } : Jvm.MethodName)) ∈ kz_TT := kz_g (kz_in4 (List.mem_of_getElem? (i := 145) rfl)) rfl
theorem wt_867 : (Jvm.Cond.instanceMethod ({ cls := "StackAssembler$Checker", name := "endFrame", desc := "()V" } : Jvm.MethodName)) ∈ kz_TT := kz_g (kz_in4 (List.mem_of_getElem? (i := 147) rfl)) rfl
theorem wt_868 : (Jvm.Cond.code ({ cls := "StackAssembler$Checker", name := "endFrame", desc := "()V" } : Jvm.MethodName) prog_3_method_7_code (1 : Nat) (Option.none : Option Jvm.ClassFile.FieldType)) ∈ kz_TT := kz_g (kz_in4 (List.mem_of_getElem? (i := 148) rfl)) rfl
theorem wt_869 : (Jvm.Cond.methodLink "StackAssembler$Checker" (114 : Nat) ({ cls := "StackAssembler$Checker", name := "takeResult", desc := "(I)V" } : Jvm.MethodName)) ∈ kz_TT := kz_g (kz_in4 (List.mem_of_getElem? (i := 149) rfl)) rfl
theorem wt_871 : (Jvm.Cond.instanceMethod ({ cls := "StackAssembler$Checker", name := "takeResult", desc := "(I)V" } : Jvm.MethodName)) ∈ kz_TT := kz_g (kz_in4 (List.mem_of_getElem? (i := 151) rfl)) rfl
theorem wt_872 : (Jvm.Cond.code ({ cls := "StackAssembler$Checker", name := "takeResult", desc := "(I)V" } : Jvm.MethodName) prog_3_method_15_code (2 : Nat) (Option.none : Option Jvm.ClassFile.FieldType)) ∈ kz_TT := kz_g (kz_in4 (List.mem_of_getElem? (i := 152) rfl)) rfl
theorem wt_873 : (Jvm.Cond.methodLink "StackAssembler$Checker" (105 : Nat) ({ cls := "StackAssembler$Checker", name := "restartFrame", desc := "()V" } : Jvm.MethodName)) ∈ kz_TT := kz_g (kz_in4 (List.mem_of_getElem? (i := 153) rfl)) rfl
theorem wt_875 : (Jvm.Cond.instanceMethod ({ cls := "StackAssembler$Checker", name := "restartFrame", desc := "()V" } : Jvm.MethodName)) ∈ kz_TT := kz_g (kz_in4 (List.mem_of_getElem? (i := 155) rfl)) rfl
theorem wt_876 : (Jvm.Cond.code ({ cls := "StackAssembler$Checker", name := "restartFrame", desc := "()V" } : Jvm.MethodName) prog_3_method_8_code (2 : Nat) (Option.none : Option Jvm.ClassFile.FieldType)) ∈ kz_TT := kz_g (kz_in4 (List.mem_of_getElem? (i := 156) rfl)) rfl
theorem wt_877 : (Jvm.Cond.methodLink "StackAssembler$Checker" (108 : Nat) ({ cls := "StackAssembler$Checker", name := "leaveFrame", desc := "()V" } : Jvm.MethodName)) ∈ kz_TT := kz_g (kz_in4 (List.mem_of_getElem? (i := 157) rfl)) rfl
theorem wt_879 : (Jvm.Cond.instanceMethod ({ cls := "StackAssembler$Checker", name := "leaveFrame", desc := "()V" } : Jvm.MethodName)) ∈ kz_TT := kz_g (kz_in4 (List.mem_of_getElem? (i := 159) rfl)) rfl
theorem wt_880 : (Jvm.Cond.code ({ cls := "StackAssembler$Checker", name := "leaveFrame", desc := "()V" } : Jvm.MethodName) prog_3_method_9_code (2 : Nat) (Option.none : Option Jvm.ClassFile.FieldType)) ∈ kz_TT := kz_g (kz_in4 (List.mem_of_getElem? (i := 160) rfl)) rfl
theorem wt_881 : (Jvm.Cond.methodLink "StackAssembler$Checker" (166 : Nat) ({ cls := "java/lang/Math", name := "max", desc := "(II)I" } : Jvm.MethodName)) ∈ kz_TT := kz_g (kz_in4 (List.mem_of_getElem? (i := 161) rfl)) rfl
theorem wt_882 : (Jvm.Cond.methodLink "StackAssembler$Checker" (148 : Nat) ({ cls := "StackAssembler$Checker", name := "put", desc := "(I)V" } : Jvm.MethodName)) ∈ kz_TT := kz_g (kz_in4 (List.mem_of_getElem? (i := 162) rfl)) rfl
theorem wt_884 : (Jvm.Cond.instanceMethod ({ cls := "StackAssembler$Checker", name := "put", desc := "(I)V" } : Jvm.MethodName)) ∈ kz_TT := kz_g (kz_in4 (List.mem_of_getElem? (i := 164) rfl)) rfl
theorem wt_885 : (Jvm.Cond.code ({ cls := "StackAssembler$Checker", name := "put", desc := "(I)V" } : Jvm.MethodName) prog_3_method_17_code (2 : Nat) (Option.none : Option Jvm.ClassFile.FieldType)) ∈ kz_TT := kz_g (kz_in4 (List.mem_of_getElem? (i := 165) rfl)) rfl
theorem wt_886 : (Jvm.Cond.methodLink "StackAssembler$Checker" (111 : Nat) ({ cls := "StackAssembler$Checker", name := "checkBranch", desc := "(LStackAssembler$Op;J)V" } : Jvm.MethodName)) ∈ kz_TT := kz_g (kz_in4 (List.mem_of_getElem? (i := 166) rfl)) rfl
theorem wt_888 : (Jvm.Cond.instanceMethod ({ cls := "StackAssembler$Checker", name := "checkBranch", desc := "(LStackAssembler$Op;J)V" } : Jvm.MethodName)) ∈ kz_TT := kz_g (kz_in4 (List.mem_of_getElem? (i := 168) rfl)) rfl
theorem wt_889 : (Jvm.Cond.code ({ cls := "StackAssembler$Checker", name := "checkBranch", desc := "(LStackAssembler$Op;J)V" } : Jvm.MethodName) prog_3_method_11_code (5 : Nat) (Option.none : Option Jvm.ClassFile.FieldType)) ∈ kz_TT := kz_g (kz_in4 (List.mem_of_getElem? (i := 169) rfl)) rfl
theorem wt_890 : (Jvm.Cond.fieldLink "StackAssembler$Checker" (172 : Nat) "StackAssembler$Op" "BR_IF" "LStackAssembler$Op;") ∈ kz_TT := kz_g (kz_in4 (List.mem_of_getElem? (i := 170) rfl)) rfl
theorem wt_892 : (Jvm.Cond.methodLink "StackAssembler$Checker" (118 : Nat) ({ cls := "StackAssembler$Checker", name := "makeUnreachable", desc := "()V" } : Jvm.MethodName)) ∈ kz_TT := kz_g (kz_in4 (List.mem_of_getElem? (i := 172) rfl)) rfl
theorem wt_894 : (Jvm.Cond.instanceMethod ({ cls := "StackAssembler$Checker", name := "makeUnreachable", desc := "()V" } : Jvm.MethodName)) ∈ kz_TT := kz_g (kz_in4 (List.mem_of_getElem? (i := 174) rfl)) rfl
theorem wt_895 : (Jvm.Cond.code ({ cls := "StackAssembler$Checker", name := "makeUnreachable", desc := "()V" } : Jvm.MethodName) prog_3_method_10_code (1 : Nat) (Option.none : Option Jvm.ClassFile.FieldType)) ∈ kz_TT := kz_g (kz_in4 (List.mem_of_getElem? (i := 175) rfl)) rfl
theorem wt_896 : (Jvm.Cond.methodLink "StackAssembler$Checker" (121 : Nat) ({ cls := "StackAssembler$Checker", name := "checkCall", desc := "(J)V" } : Jvm.MethodName)) ∈ kz_TT := kz_g (kz_in4 (List.mem_of_getElem? (i := 176) rfl)) rfl
theorem wt_898 : (Jvm.Cond.instanceMethod ({ cls := "StackAssembler$Checker", name := "checkCall", desc := "(J)V" } : Jvm.MethodName)) ∈ kz_TT := kz_g (kz_in4 (List.mem_of_getElem? (i := 178) rfl)) rfl
theorem wt_899 : (Jvm.Cond.code ({ cls := "StackAssembler$Checker", name := "checkCall", desc := "(J)V" } : Jvm.MethodName) prog_3_method_12_code (5 : Nat) (Option.none : Option Jvm.ClassFile.FieldType)) ∈ kz_TT := kz_g (kz_in4 (List.mem_of_getElem? (i := 179) rfl)) rfl
theorem wt_900 : (Jvm.Cond.methodLink "StackAssembler$Checker" (178 : Nat) ({ cls := "StackAssembler$Module", name := "hasFunction", desc := "(J)Z" } : Jvm.MethodName)) ∈ kz_TT := kz_g (kz_in4 (List.mem_of_getElem? (i := 180) rfl)) rfl
theorem wt_901 : (Jvm.Cond.methodLink "StackAssembler$Checker" (185 : Nat) ({ cls := "java/lang/Math", name := "min", desc := "(II)I" } : Jvm.MethodName)) ∈ kz_TT := kz_g (kz_in4 (List.mem_of_getElem? (i := 181) rfl)) rfl
theorem wt_902 : (Jvm.Cond.methodLink "StackAssembler$Checker" (129 : Nat) ({ cls := "StackAssembler$Checker", name := "checkSelect", desc := "()V" } : Jvm.MethodName)) ∈ kz_TT := kz_g (kz_in4 (List.mem_of_getElem? (i := 182) rfl)) rfl
theorem wt_904 : (Jvm.Cond.instanceMethod ({ cls := "StackAssembler$Checker", name := "checkSelect", desc := "()V" } : Jvm.MethodName)) ∈ kz_TT := kz_g (kz_in4 (List.mem_of_getElem? (i := 184) rfl)) rfl
theorem wt_905 : (Jvm.Cond.code ({ cls := "StackAssembler$Checker", name := "checkSelect", desc := "()V" } : Jvm.MethodName) prog_3_method_14_code (3 : Nat) (Option.none : Option Jvm.ClassFile.FieldType)) ∈ kz_TT := kz_g (kz_in4 (List.mem_of_getElem? (i := 185) rfl)) rfl
theorem wt_906 : (Jvm.Cond.methodLink "StackAssembler$Checker" (132 : Nat) ({ cls := "StackAssembler$Checker", name := "checkSlot", desc := "(LStackAssembler$Op;J)V" } : Jvm.MethodName)) ∈ kz_TT := kz_g (kz_in4 (List.mem_of_getElem? (i := 186) rfl)) rfl
theorem wt_908 : (Jvm.Cond.instanceMethod ({ cls := "StackAssembler$Checker", name := "checkSlot", desc := "(LStackAssembler$Op;J)V" } : Jvm.MethodName)) ∈ kz_TT := kz_g (kz_in4 (List.mem_of_getElem? (i := 188) rfl)) rfl
theorem wt_909 : (Jvm.Cond.code ({ cls := "StackAssembler$Checker", name := "checkSlot", desc := "(LStackAssembler$Op;J)V" } : Jvm.MethodName) prog_3_method_13_code (5 : Nat) (Option.none : Option Jvm.ClassFile.FieldType)) ∈ kz_TT := kz_g (kz_in4 (List.mem_of_getElem? (i := 189) rfl)) rfl
theorem wt_910 : (Jvm.Cond.methodLink "StackAssembler$Checker" (191 : Nat) ({ cls := "StackAssembler$Function", name := "hasSlot", desc := "(J)Z" } : Jvm.MethodName)) ∈ kz_TT := kz_g (kz_in4 (List.mem_of_getElem? (i := 190) rfl)) rfl
theorem wt_911 : (Jvm.Cond.fieldLink "StackAssembler$Checker" (194 : Nat) "StackAssembler$Op" "LOCAL_GET" "LStackAssembler$Op;") ∈ kz_TT := kz_g (kz_in4 (List.mem_of_getElem? (i := 191) rfl)) rfl
theorem wt_913 : (Jvm.Cond.fieldLink "StackAssembler$Checker" (197 : Nat) "StackAssembler$Op" "LOCAL_SET" "LStackAssembler$Op;") ∈ kz_TT := kz_g (kz_in4 (List.mem_of_getElem? (i := 193) rfl)) rfl
theorem wt_915 : (Jvm.Cond.methodLink "StackAssembler$Checker" (135 : Nat) ({ cls := "StackAssembler$Checker", name := "checkSimple", desc := "(LStackAssembler$Op;)V" } : Jvm.MethodName)) ∈ kz_TT := kz_g (kz_in4 (List.mem_of_getElem? (i := 195) rfl)) rfl
theorem wt_917 : (Jvm.Cond.instanceMethod ({ cls := "StackAssembler$Checker", name := "checkSimple", desc := "(LStackAssembler$Op;)V" } : Jvm.MethodName)) ∈ kz_TT := kz_g (kz_in4 (List.mem_of_getElem? (i := 197) rfl)) rfl
theorem wt_918 : (Jvm.Cond.code ({ cls := "StackAssembler$Checker", name := "checkSimple", desc := "(LStackAssembler$Op;)V" } : Jvm.MethodName) prog_3_method_5_code (3 : Nat) (Option.none : Option Jvm.ClassFile.FieldType)) ∈ kz_TT := kz_g (kz_in4 (List.mem_of_getElem? (i := 198) rfl)) rfl
theorem wt_1026 : (Jvm.Cond.instanceMethod ({ cls := "StackAssembler$Printer", name := "write", desc := "(LStackAssembler$Module;LStackAssembler$Text;)V" } : Jvm.MethodName)) ∈ kz_TT := kz_g (kz_in5 (List.mem_of_getElem? (i := 66) rfl)) rfl
theorem wt_1027 : (Jvm.Cond.selects "StackAssembler$Printer" ({ cls := "StackAssembler$Printer", name := "write", desc := "(LStackAssembler$Module;LStackAssembler$Text;)V" } : Jvm.MethodName) ({ cls := "StackAssembler$Printer", name := "write", desc := "(LStackAssembler$Module;LStackAssembler$Text;)V" } : Jvm.MethodName)) ∈ kz_TT := kz_g (kz_in5 (List.mem_of_getElem? (i := 67) rfl)) rfl
theorem wt_1028 : (Jvm.Cond.code ({ cls := "StackAssembler$Printer", name := "write", desc := "(LStackAssembler$Module;LStackAssembler$Text;)V" } : Jvm.MethodName) prog_10_method_2_code (4 : Nat) (Option.none : Option Jvm.ClassFile.FieldType)) ∈ kz_TT := kz_g (kz_in5 (List.mem_of_getElem? (i := 68) rfl)) rfl
theorem wt_1030 : (Jvm.Cond.methodLink "StackAssembler$Printer" (23 : Nat) ({ cls := "StackAssembler$Text", name := "addAll", desc := "(Ljava/lang/String;)V" } : Jvm.MethodName)) ∈ kz_TT := kz_g (kz_in5 (List.mem_of_getElem? (i := 70) rfl)) rfl
theorem wt_1031 : (Jvm.Cond.instanceMethod ({ cls := "StackAssembler$Text", name := "addAll", desc := "(Ljava/lang/String;)V" } : Jvm.MethodName)) ∈ kz_TT := kz_g (kz_in5 (List.mem_of_getElem? (i := 71) rfl)) rfl
theorem wt_1032 : (Jvm.Cond.selects "StackAssembler$Text" ({ cls := "StackAssembler$Text", name := "addAll", desc := "(Ljava/lang/String;)V" } : Jvm.MethodName) ({ cls := "StackAssembler$Text", name := "addAll", desc := "(Ljava/lang/String;)V" } : Jvm.MethodName)) ∈ kz_TT := kz_g (kz_in5 (List.mem_of_getElem? (i := 72) rfl)) rfl
theorem wt_1033 : (Jvm.Cond.code ({ cls := "StackAssembler$Text", name := "addAll", desc := "(Ljava/lang/String;)V" } : Jvm.MethodName) prog_13_method_4_code (3 : Nat) (Option.none : Option Jvm.ClassFile.FieldType)) ∈ kz_TT := kz_g (kz_in5 (List.mem_of_getElem? (i := 73) rfl)) rfl
theorem wt_1034 : (Jvm.Cond.methodLink "StackAssembler$Text" (19 : Nat) ({ cls := "java/lang/String", name := "length", desc := "()I" } : Jvm.MethodName)) ∈ kz_TT := kz_g (kz_in5 (List.mem_of_getElem? (i := 74) rfl)) rfl
theorem wt_1035 : (Jvm.Cond.methodLink "StackAssembler$Text" (24 : Nat) ({ cls := "java/lang/String", name := "charAt", desc := "(I)C" } : Jvm.MethodName)) ∈ kz_TT := kz_g (kz_in5 (List.mem_of_getElem? (i := 75) rfl)) rfl
theorem wt_1036 : (Jvm.Cond.methodLink "StackAssembler$Printer" (36 : Nat) ({ cls := "StackAssembler$Printer", name := "writeFunction", desc := "(LStackAssembler$Module;LStackAssembler$Function;)V" } : Jvm.MethodName)) ∈ kz_TT := kz_g (kz_in5 (List.mem_of_getElem? (i := 76) rfl)) rfl
theorem wt_1038 : (Jvm.Cond.instanceMethod ({ cls := "StackAssembler$Printer", name := "writeFunction", desc := "(LStackAssembler$Module;LStackAssembler$Function;)V" } : Jvm.MethodName)) ∈ kz_TT := kz_g (kz_in5 (List.mem_of_getElem? (i := 78) rfl)) rfl
theorem wt_1039 : (Jvm.Cond.code ({ cls := "StackAssembler$Printer", name := "writeFunction", desc := "(LStackAssembler$Module;LStackAssembler$Function;)V" } : Jvm.MethodName) prog_10_method_3_code (4 : Nat) (Option.none : Option Jvm.ClassFile.FieldType)) ∈ kz_TT := kz_g (kz_in5 (List.mem_of_getElem? (i := 79) rfl)) rfl
theorem wt_1042 : (Jvm.Cond.methodLink "StackAssembler$Printer" (53 : Nat) ({ cls := "StackAssembler$Printer", name := "writeSlots", desc := "(Ljava/lang/String;LStackAssembler$Function;II)V" } : Jvm.MethodName)) ∈ kz_TT := kz_g (kz_in5 (List.mem_of_getElem? (i := 82) rfl)) rfl
theorem wt_1044 : (Jvm.Cond.instanceMethod ({ cls := "StackAssembler$Printer", name := "writeSlots", desc := "(Ljava/lang/String;LStackAssembler$Function;II)V" } : Jvm.MethodName)) ∈ kz_TT := kz_g (kz_in5 (List.mem_of_getElem? (i := 84) rfl)) rfl
theorem wt_1045 : (Jvm.Cond.code ({ cls := "StackAssembler$Printer", name := "writeSlots", desc := "(Ljava/lang/String;LStackAssembler$Function;II)V" } : Jvm.MethodName) prog_10_method_4_code (6 : Nat) (Option.none : Option Jvm.ClassFile.FieldType)) ∈ kz_TT := kz_g (kz_in5 (List.mem_of_getElem? (i := 85) rfl)) rfl
theorem wt_1046 : (Jvm.Cond.methodLink "StackAssembler$Printer" (87 : Nat) ({ cls := "StackAssembler$Function", name := "hasSlot", desc := "(J)Z" } : Jvm.MethodName)) ∈ kz_TT := kz_g (kz_in5 (List.mem_of_getElem? (i := 86) rfl)) rfl
theorem wt_1047 : (Jvm.Cond.methodLink "StackAssembler$Printer" (40 : Nat) ({ cls := "StackAssembler$Text", name := "add", desc := "(C)V" } : Jvm.MethodName)) ∈ kz_TT := kz_g (kz_in5 (List.mem_of_getElem? (i := 87) rfl)) rfl
theorem wt_1048 : (Jvm.Cond.methodLink "StackAssembler$Printer" (95 : Nat) ({ cls := "StackAssembler$Printer", name := "writeType", desc := "(I)V" } : Jvm.MethodName)) ∈ kz_TT := kz_g (kz_in5 (List.mem_of_getElem? (i := 88) rfl)) rfl
theorem wt_1050 : (Jvm.Cond.instanceMethod ({ cls := "StackAssembler$Printer", name := "writeType", desc := "(I)V" } : Jvm.MethodName)) ∈ kz_TT := kz_g (kz_in5 (List.mem_of_getElem? (i := 90) rfl)) rfl
theorem wt_1051 : (Jvm.Cond.code ({ cls := "StackAssembler$Printer", name := "writeType", desc := "(I)V" } : Jvm.MethodName) prog_10_method_6_code (2 : Nat) (Option.none : Option Jvm.ClassFile.FieldType)) ∈ kz_TT := kz_g (kz_in5 (List.mem_of_getElem? (i := 91) rfl)) rfl
theorem wt_1054 : (Jvm.Cond.methodLink "StackAssembler$Printer" (60 : Nat) ({ cls := "StackAssembler$Printer", name := "writeResult", desc := "(I)V" } : Jvm.MethodName)) ∈ kz_TT := kz_g (kz_in5 (List.mem_of_getElem? (i := 94) rfl)) rfl
theorem wt_1056 : (Jvm.Cond.instanceMethod ({ cls := "StackAssembler$Printer", name := "writeResult", desc := "(I)V" } : Jvm.MethodName)) ∈ kz_TT := kz_g (kz_in5 (List.mem_of_getElem? (i := 96) rfl)) rfl
theorem wt_1057 : (Jvm.Cond.code ({ cls := "StackAssembler$Printer", name := "writeResult", desc := "(I)V" } : Jvm.MethodName) prog_10_method_5_code (2 : Nat) (Option.none : Option Jvm.ClassFile.FieldType)) ∈ kz_TT := kz_g (kz_in5 (List.mem_of_getElem? (i := 97) rfl)) rfl
theorem wt_1060 : (Jvm.Cond.methodLink "StackAssembler$Printer" (83 : Nat) ({ cls := "StackAssembler$Printer", name := "writeInstruction", desc := "(LStackAssembler$Op;J)V" } : Jvm.MethodName)) ∈ kz_TT := kz_g (kz_in5 (List.mem_of_getElem? (i := 100) rfl)) rfl
theorem wt_1062 : (Jvm.Cond.instanceMethod ({ cls := "StackAssembler$Printer", name := "writeInstruction", desc := "(LStackAssembler$Op;J)V" } : Jvm.MethodName)) ∈ kz_TT := kz_g (kz_in5 (List.mem_of_getElem? (i := 102) rfl)) rfl
theorem wt_1063 : (Jvm.Cond.code ({ cls := "StackAssembler$Printer", name := "writeInstruction", desc := "(LStackAssembler$Op;J)V" } : Jvm.MethodName) prog_10_method_7_code (4 : Nat) (Option.none : Option Jvm.ClassFile.FieldType)) ∈ kz_TT := kz_g (kz_in5 (List.mem_of_getElem? (i := 103) rfl)) rfl
theorem wt_1064 : (Jvm.Cond.methodLink "StackAssembler$Printer" (110 : Nat) ({ cls := "StackAssembler$Op", name := "awaitsOperand", desc := "()Z" } : Jvm.MethodName)) ∈ kz_TT := kz_g (kz_in5 (List.mem_of_getElem? (i := 104) rfl)) rfl
theorem wt_1065 : (Jvm.Cond.methodLink "StackAssembler$Printer" (114 : Nat) ({ cls := "StackAssembler$Text", name := "addNumber", desc := "(J)V" } : Jvm.MethodName)) ∈ kz_TT := kz_g (kz_in5 (List.mem_of_getElem? (i := 105) rfl)) rfl
theorem wt_1066 : (Jvm.Cond.instanceMethod ({ cls := "StackAssembler$Text", name := "addNumber", desc := "(J)V" } : Jvm.MethodName)) ∈ kz_TT := kz_g (kz_in5 (List.mem_of_getElem? (i := 106) rfl)) rfl
theorem wt_1067 : (Jvm.Cond.selects "StackAssembler$Text" ({ cls := "StackAssembler$Text", name := "addNumber", desc := "(J)V" } : Jvm.MethodName) ({ cls := "StackAssembler$Text", name := "addNumber", desc := "(J)V" } : Jvm.MethodName)) ∈ kz_TT := kz_g (kz_in5 (List.mem_of_getElem? (i := 107) rfl)) rfl
theorem wt_1068 : (Jvm.Cond.code ({ cls := "StackAssembler$Text", name := "addNumber", desc := "(J)V" } : Jvm.MethodName) prog_13_method_5_code (6 : Nat) (Option.none : Option Jvm.ClassFile.FieldType)) ∈ kz_TT := kz_g (kz_in5 (List.mem_of_getElem? (i := 108) rfl)) rfl
theorem wt_1069 : (Jvm.Cond.constantLong "StackAssembler$Text" (32 : Nat) (10 : Int64)) ∈ kz_TT := kz_g (kz_in5 (List.mem_of_getElem? (i := 109) rfl)) rfl
theorem wt_1070 : (Jvm.Cond.constantLong "StackAssembler$Text" (34 : Nat) (48 : Int64)) ∈ kz_TT := kz_g (kz_in5 (List.mem_of_getElem? (i := 110) rfl)) rfl
theorem wt_1071 : (Jvm.Cond.methodLink "StackAssembler$Text" (36 : Nat) ({ cls := "java/lang/Math", name := "abs", desc := "(J)J" } : Jvm.MethodName)) ∈ kz_TT := kz_g (kz_in5 (List.mem_of_getElem? (i := 111) rfl)) rfl
theorem wt_1072 : (Jvm.Cond.static ({ cls := "java/lang/Math", name := "abs", desc := "(J)J" } : Jvm.MethodName)) ∈ kz_TT := kz_g (kz_in5 (List.mem_of_getElem? (i := 112) rfl)) rfl
theorem wt_1073 : (Jvm.Cond.code ({ cls := "java/lang/Math", name := "abs", desc := "(J)J" } : Jvm.MethodName) prog_21_method_61_code (2 : Nat) (Option.some Jvm.ClassFile.FieldType.long)) ∈ kz_TT := kz_g (kz_in5 (List.mem_of_getElem? (i := 113) rfl)) rfl
theorem wt_1074 : (Jvm.Cond.methodLink "StackAssembler$Printer" (118 : Nat) ({ cls := "StackAssembler$Op", name := "opensBlock", desc := "()Z" } : Jvm.MethodName)) ∈ kz_TT := kz_g (kz_in5 (List.mem_of_getElem? (i := 114) rfl)) rfl
theorem wt_1079 : (Jvm.Cond.instanceMethod ({ cls := "StackAssemblerModel", name := "<init>", desc := "()V" } : Jvm.MethodName)) ∈ kz_TT := kz_g (kz_in5 (List.mem_of_getElem? (i := 119) rfl)) rfl
theorem wt_1080 : (Jvm.Cond.code ({ cls := "StackAssemblerModel", name := "<init>", desc := "()V" } : Jvm.MethodName) prog_15_method_1_code (1 : Nat) (Option.none : Option Jvm.ClassFile.FieldType)) ∈ kz_TT := kz_g (kz_in5 (List.mem_of_getElem? (i := 120) rfl)) rfl
theorem wt_1081 : (Jvm.Cond.methodLink "StackAssemblerModel" (1 : Nat) ({ cls := "java/lang/Object", name := "<init>", desc := "()V" } : Jvm.MethodName)) ∈ kz_TT := kz_g (kz_in5 (List.mem_of_getElem? (i := 121) rfl)) rfl
theorem wt_1082 : (Jvm.Cond.constantLong "StackAssemblerModel" (7 : Nat) (8461826529626908769 : Int64)) ∈ kz_TT := kz_g (kz_in5 (List.mem_of_getElem? (i := 122) rfl)) rfl
theorem wt_1083 : (Jvm.Cond.constantLong "StackAssemblerModel" (9 : Nat) (7237488 : Int64)) ∈ kz_TT := kz_g (kz_in5 (List.mem_of_getElem? (i := 123) rfl)) rfl
theorem wt_1084 : (Jvm.Cond.constantLong "StackAssemblerModel" (11 : Nat) (422726034283 : Int64)) ∈ kz_TT := kz_g (kz_in5 (List.mem_of_getElem? (i := 124) rfl)) rfl
theorem wt_1085 : (Jvm.Cond.constantLong "StackAssemblerModel" (13 : Nat) (1819242352 : Int64)) ∈ kz_TT := kz_g (kz_in5 (List.mem_of_getElem? (i := 125) rfl)) rfl
theorem wt_1086 : (Jvm.Cond.constantLong "StackAssemblerModel" (15 : Nat) (26982 : Int64)) ∈ kz_TT := kz_g (kz_in5 (List.mem_of_getElem? (i := 126) rfl)) rfl
theorem wt_1087 : (Jvm.Cond.constantLong "StackAssemblerModel" (17 : Nat) (1701606245 : Int64)) ∈ kz_TT := kz_g (kz_in5 (List.mem_of_getElem? (i := 127) rfl)) rfl
theorem wt_1088 : (Jvm.Cond.constantLong "StackAssemblerModel" (19 : Nat) (6647396 : Int64)) ∈ kz_TT := kz_g (kz_in5 (List.mem_of_getElem? (i := 128) rfl)) rfl
theorem wt_1089 : (Jvm.Cond.constantLong "StackAssemblerModel" (21 : Nat) (25202 : Int64)) ∈ kz_TT := kz_g (kz_in5 (List.mem_of_getElem? (i := 129) rfl)) rfl
theorem wt_1090 : (Jvm.Cond.constantLong "StackAssemblerModel" (23 : Nat) (422825650534 : Int64)) ∈ kz_TT := kz_g (kz_in5 (List.mem_of_getElem? (i := 130) rfl)) rfl
theorem wt_1091 : (Jvm.Cond.constantLong "StackAssemblerModel" (25 : Nat) (125780071117422 : Int64)) ∈ kz_TT := kz_g (kz_in5 (List.mem_of_getElem? (i := 131) rfl)) rfl
theorem wt_1092 : (Jvm.Cond.constantLong "StackAssemblerModel" (27 : Nat) (1667329132 : Int64)) ∈ kz_TT := kz_g (kz_in5 (List.mem_of_getElem? (i := 132) rfl)) rfl
theorem wt_1093 : (Jvm.Cond.constantLong "StackAssemblerModel" (29 : Nat) (1685221232 : Int64)) ∈ kz_TT := kz_g (kz_in5 (List.mem_of_getElem? (i := 133) rfl)) rfl
theorem wt_1094 : (Jvm.Cond.constantLong "StackAssemblerModel" (31 : Nat) (126879447475060 : Int64)) ∈ kz_TT := kz_g (kz_in5 (List.mem_of_getElem? (i := 134) rfl)) rfl
theorem wt_1095 : (Jvm.Cond.constantLong "StackAssemblerModel" (33 : Nat) (7813573148589057893 : Int64)) ∈ kz_TT := kz_g (kz_in5 (List.mem_of_getElem? (i := 135) rfl)) rfl
theorem wt_1096 : (Jvm.Cond.constantLong "StackAssemblerModel" (35 : Nat) (7813573148589060965 : Int64)) ∈ kz_TT := kz_g (kz_in5 (List.mem_of_getElem? (i := 136) rfl)) rfl
theorem wt_1097 : (Jvm.Cond.constantLong "StackAssemblerModel" (37 : Nat) (7813573148589061221 : Int64)) ∈ kz_TT := kz_g (kz_in5 (List.mem_of_getElem? (i := 137) rfl)) rfl
theorem wt_1098 : (Jvm.Cond.constantLong "StackAssemblerModel" (39 : Nat) (7580457772612808307 : Int64)) ∈ kz_TT := kz_g (kz_in5 (List.mem_of_getElem? (i := 138) rfl)) rfl
theorem wt_1099 : (Jvm.Cond.constantLong "StackAssemblerModel" (41 : Nat) (7581304396566195827 : Int64)) ∈ kz_TT := kz_g (kz_in5 (List.mem_of_getElem? (i := 139) rfl)) rfl
theorem wt_1100 : (Jvm.Cond.constantLong "StackAssemblerModel" (43 : Nat) (29611163174400378 : Int64)) ∈ kz_TT := kz_g (kz_in5 (List.mem_of_getElem? (i := 140) rfl)) rfl
theorem wt_1101 : (Jvm.Cond.constantLong "StackAssemblerModel" (45 : Nat) (115668606150001 : Int64)) ∈ kz_TT := kz_g (kz_in5 (List.mem_of_getElem? (i := 141) rfl)) rfl
theorem wt_1102 : (Jvm.Cond.constantLong "StackAssemblerModel" (47 : Nat) (7580457772764127091 : Int64)) ∈ kz_TT := kz_g (kz_in5 (List.mem_of_getElem? (i := 142) rfl)) rfl
theorem wt_1103 : (Jvm.Cond.constantLong "StackAssemblerModel" (49 : Nat) (29611163174134884 : Int64)) ∈ kz_TT := kz_g (kz_in5 (List.mem_of_getElem? (i := 143) rfl)) rfl
theorem wt_1104 : (Jvm.Cond.constantLong "StackAssemblerModel" (51 : Nat) (29611163175318882 : Int64)) ∈ kz_TT := kz_g (kz_in5 (List.mem_of_getElem? (i := 144) rfl)) rfl
theorem wt_1105 : (Jvm.Cond.constantLong "StackAssemblerModel" (53 : Nat) (29611163174925676 : Int64)) ∈ kz_TT := kz_g (kz_in5 (List.mem_of_getElem? (i := 145) rfl)) rfl
theorem wt_1106 : (Jvm.Cond.constantLong "StackAssemblerModel" (55 : Nat) (29614470299218298 : Int64)) ∈ kz_TT := kz_g (kz_in5 (List.mem_of_getElem? (i := 146) rfl)) rfl
theorem wt_1107 : (Jvm.Cond.constantLong "StackAssemblerModel" (57 : Nat) (115681524606321 : Int64)) ∈ kz_TT := kz_g (kz_in5 (List.mem_of_getElem? (i := 147) rfl)) rfl
theorem wt_1108 : (Jvm.Cond.constantLong "StackAssemblerModel" (59 : Nat) (29614470298952804 : Int64)) ∈ kz_TT := kz_g (kz_in5 (List.mem_of_getElem? (i := 148) rfl)) rfl
theorem wt_1109 : (Jvm.Cond.constantLong "StackAssemblerModel" (61 : Nat) (29614470299743596 : Int64)) ∈ kz_TT := kz_g (kz_in5 (List.mem_of_getElem? (i := 149) rfl)) rfl
theorem wt_1110 : (Jvm.Cond.constantLong "StackAssemblerModel" (63 : Nat) (7580457772948545904 : Int64)) ∈ kz_TT := kz_g (kz_in5 (List.mem_of_getElem? (i := 150) rfl)) rfl
theorem wt_1111 : (Jvm.Cond.constantLong "StackAssemblerModel" (65 : Nat) (7581304396600341605 : Int64)) ∈ kz_TT := kz_g (kz_in5 (List.mem_of_getElem? (i := 151) rfl)) rfl
theorem wt_1112 : (Jvm.Cond.constantLong "StackAssemblerModel" (73 : Nat) (6450277 : Int64)) ∈ kz_TT := kz_g (kz_in5 (List.mem_of_getElem? (i := 152) rfl)) rfl
theorem wt_1113 : (Jvm.Cond.constantLong "StackAssemblerModel" (75 : Nat) (116 : Int64)) ∈ kz_TT := kz_g (kz_in5 (List.mem_of_getElem? (i := 153) rfl)) rfl
theorem wt_1114 : (Jvm.Cond.constantLong "StackAssemblerModel" (77 : Nat) (101 : Int64)) ∈ kz_TT := kz_g (kz_in5 (List.mem_of_getElem? (i := 154) rfl)) rfl
theorem wt_1115 : (Jvm.Cond.constantLong "StackAssemblerModel" (79 : Nat) (1600730676 : Int64)) ∈ kz_TT := kz_g (kz_in5 (List.mem_of_getElem? (i := 155) rfl)) rfl
theorem wt_1116 : (Jvm.Cond.constantLong "StackAssemblerModel" (81 : Nat) (7954587747278282611 : Int64)) ∈ kz_TT := kz_g (kz_in5 (List.mem_of_getElem? (i := 156) rfl)) rfl
theorem wt_1117 : (Jvm.Cond.fieldLink "StackAssemblerModel" (67 : Nat) "StackAssemblerModel" "head" "[J") ∈ kz_TT := kz_g (kz_in5 (List.mem_of_getElem? (i := 157) rfl)) rfl
theorem wt_1118 : (Jvm.Cond.fieldLink "StackAssemblerModel" (83 : Nat) "StackAssemblerModel" "rest" "[J") ∈ kz_TT := kz_g (kz_in5 (List.mem_of_getElem? (i := 158) rfl)) rfl
theorem wt_1119 : (Jvm.Cond.fieldLink "StackAssemblerModel" (86 : Nat) "StackAssemblerModel" "codeOf" "[I") ∈ kz_TT := kz_g (kz_in5 (List.mem_of_getElem? (i := 159) rfl)) rfl
theorem wt_1120 : (Jvm.Cond.fieldLink "StackAssemblerModel" (206 : Nat) "StackAssemblerModel" "thrown" "I") ∈ kz_TT := kz_g (kz_in5 (List.mem_of_getElem? (i := 160) rfl)) rfl
theorem wt_1121 : (Jvm.Cond.fieldLink "StackAssemblerModel" (455 : Nat) "StackAssemblerModel" "place" "I") ∈ kz_TT := kz_g (kz_in5 (List.mem_of_getElem? (i := 161) rfl)) rfl
theorem wt_1122 : (Jvm.Cond.fieldLink "StackAssemblerModel" (210 : Nat) "StackAssemblerModel" "size" "I") ∈ kz_TT := kz_g (kz_in5 (List.mem_of_getElem? (i := 162) rfl)) rfl
theorem wt_1123 : (Jvm.Cond.fieldLink "StackAssemblerModel" (90 : Nat) "StackAssemblerModel" "text" "[C") ∈ kz_TT := kz_g (kz_in5 (List.mem_of_getElem? (i := 163) rfl)) rfl
theorem wt_1124 : (Jvm.Cond.fieldLink "StackAssemblerModel" (458 : Nat) "StackAssemblerModel" "functions" "I") ∈ kz_TT := kz_g (kz_in5 (List.mem_of_getElem? (i := 164) rfl)) rfl
theorem wt_1125 : (Jvm.Cond.fieldLink "StackAssemblerModel" (94 : Nat) "StackAssemblerModel" "parameters" "[I") ∈ kz_TT := kz_g (kz_in5 (List.mem_of_getElem? (i := 165) rfl)) rfl
theorem wt_1126 : (Jvm.Cond.fieldLink "StackAssemblerModel" (97 : Nat) "StackAssemblerModel" "variables" "[I") ∈ kz_TT := kz_g (kz_in5 (List.mem_of_getElem? (i := 166) rfl)) rfl
theorem wt_1127 : (Jvm.Cond.fieldLink "StackAssemblerModel" (100 : Nat) "StackAssemblerModel" "results" "[I") ∈ kz_TT := kz_g (kz_in5 (List.mem_of_getElem? (i := 167) rfl)) rfl
theorem wt_1128 : (Jvm.Cond.fieldLink "StackAssemblerModel" (103 : Nat) "StackAssemblerModel" "types" "[I") ∈ kz_TT := kz_g (kz_in5 (List.mem_of_getElem? (i := 168) rfl)) rfl
theorem wt_1129 : (Jvm.Cond.fieldLink "StackAssemblerModel" (106 : Nat) "StackAssemblerModel" "start" "[I") ∈ kz_TT := kz_g (kz_in5 (List.mem_of_getElem? (i := 169) rfl)) rfl
theorem wt_1130 : (Jvm.Cond.fieldLink "StackAssemblerModel" (109 : Nat) "StackAssemblerModel" "codes" "[I") ∈ kz_TT := kz_g (kz_in5 (List.mem_of_getElem? (i := 170) rfl)) rfl
theorem wt_1131 : (Jvm.Cond.fieldLink "StackAssemblerModel" (112 : Nat) "StackAssemblerModel" "values" "[J") ∈ kz_TT := kz_g (kz_in5 (List.mem_of_getElem? (i := 171) rfl)) rfl
theorem wt_1132 : (Jvm.Cond.fieldLink "StackAssemblerModel" (307 : Nat) "StackAssemblerModel" "newFunctions" "I") ∈ kz_TT := kz_g (kz_in5 (List.mem_of_getElem? (i := 172) rfl)) rfl
theorem wt_1133 : (Jvm.Cond.fieldLink "StackAssemblerModel" (115 : Nat) "StackAssemblerModel" "newParameters" "[I") ∈ kz_TT := kz_g (kz_in5 (List.mem_of_getElem? (i := 173) rfl)) rfl
theorem wt_1134 : (Jvm.Cond.fieldLink "StackAssemblerModel" (118 : Nat) "StackAssemblerModel" "newVariables" "[I") ∈ kz_TT := kz_g (kz_in5 (List.mem_of_getElem? (i := 174) rfl)) rfl
theorem wt_1135 : (Jvm.Cond.fieldLink "StackAssemblerModel" (121 : Nat) "StackAssemblerModel" "newResults" "[I") ∈ kz_TT := kz_g (kz_in5 (List.mem_of_getElem? (i := 175) rfl)) rfl
theorem wt_1136 : (Jvm.Cond.fieldLink "StackAssemblerModel" (124 : Nat) "StackAssemblerModel" "newTypes" "[I") ∈ kz_TT := kz_g (kz_in5 (List.mem_of_getElem? (i := 176) rfl)) rfl
theorem wt_1137 : (Jvm.Cond.fieldLink "StackAssemblerModel" (127 : Nat) "StackAssemblerModel" "newStart" "[I") ∈ kz_TT := kz_g (kz_in5 (List.mem_of_getElem? (i := 177) rfl)) rfl
theorem wt_1138 : (Jvm.Cond.fieldLink "StackAssemblerModel" (130 : Nat) "StackAssemblerModel" "newCodes" "[I") ∈ kz_TT := kz_g (kz_in5 (List.mem_of_getElem? (i := 178) rfl)) rfl
theorem wt_1139 : (Jvm.Cond.fieldLink "StackAssemblerModel" (133 : Nat) "StackAssemblerModel" "newValues" "[J") ∈ kz_TT := kz_g (kz_in5 (List.mem_of_getElem? (i := 179) rfl)) rfl
theorem wt_1140 : (Jvm.Cond.fieldLink "StackAssemblerModel" (304 : Nat) "StackAssemblerModel" "many" "I") ∈ kz_TT := kz_g (kz_in5 (List.mem_of_getElem? (i := 180) rfl)) rfl
theorem wt_1141 : (Jvm.Cond.fieldLink "StackAssemblerModel" (136 : Nat) "StackAssemblerModel" "functionName" "[I") ∈ kz_TT := kz_g (kz_in5 (List.mem_of_getElem? (i := 181) rfl)) rfl
theorem wt_1142 : (Jvm.Cond.fieldLink "StackAssemblerModel" (139 : Nat) "StackAssemblerModel" "functionLength" "[I") ∈ kz_TT := kz_g (kz_in5 (List.mem_of_getElem? (i := 182) rfl)) rfl
theorem wt_1143 : (Jvm.Cond.fieldLink "StackAssemblerModel" (142 : Nat) "StackAssemblerModel" "variableName" "[I") ∈ kz_TT := kz_g (kz_in5 (List.mem_of_getElem? (i := 183) rfl)) rfl
theorem wt_1144 : (Jvm.Cond.fieldLink "StackAssemblerModel" (145 : Nat) "StackAssemblerModel" "variableLength" "[I") ∈ kz_TT := kz_g (kz_in5 (List.mem_of_getElem? (i := 184) rfl)) rfl
theorem wt_1145 : (Jvm.Cond.fieldLink "StackAssemblerModel" (287 : Nat) "StackAssemblerModel" "calls" "I") ∈ kz_TT := kz_g (kz_in5 (List.mem_of_getElem? (i := 185) rfl)) rfl
theorem wt_1146 : (Jvm.Cond.fieldLink "StackAssemblerModel" (148 : Nat) "StackAssemblerModel" "callName" "[I") ∈ kz_TT := kz_g (kz_in5 (List.mem_of_getElem? (i := 186) rfl)) rfl
theorem wt_1147 : (Jvm.Cond.fieldLink "StackAssemblerModel" (151 : Nat) "StackAssemblerModel" "callLength" "[I") ∈ kz_TT := kz_g (kz_in5 (List.mem_of_getElem? (i := 187) rfl)) rfl
theorem wt_1148 : (Jvm.Cond.fieldLink "StackAssemblerModel" (154 : Nat) "StackAssemblerModel" "callTo" "[I") ∈ kz_TT := kz_g (kz_in5 (List.mem_of_getElem? (i := 188) rfl)) rfl
theorem wt_1149 : (Jvm.Cond.fieldLink "StackAssemblerModel" (217 : Nat) "StackAssemblerModel" "at" "I") ∈ kz_TT := kz_g (kz_in5 (List.mem_of_getElem? (i := 189) rfl)) rfl
theorem wt_1150 : (Jvm.Cond.fieldLink "StackAssemblerModel" (231 : Nat) "StackAssemblerModel" "kind" "I") ∈ kz_TT := kz_g (kz_in5 (List.mem_of_getElem? (i := 190) rfl)) rfl
theorem wt_1151 : (Jvm.Cond.fieldLink "StackAssemblerModel" (224 : Nat) "StackAssemblerModel" "from" "I") ∈ kz_TT := kz_g (kz_in5 (List.mem_of_getElem? (i := 191) rfl)) rfl
theorem wt_1152 : (Jvm.Cond.fieldLink "StackAssemblerModel" (247 : Nat) "StackAssemblerModel" "wide" "I") ∈ kz_TT := kz_g (kz_in5 (List.mem_of_getElem? (i := 192) rfl)) rfl
theorem wt_1153 : (Jvm.Cond.fieldLink "StackAssemblerModel" (240 : Nat) "StackAssemblerModel" "first" "J") ∈ kz_TT := kz_g (kz_in5 (List.mem_of_getElem? (i := 193) rfl)) rfl
theorem wt_1154 : (Jvm.Cond.fieldLink "StackAssemblerModel" (244 : Nat) "StackAssemblerModel" "second" "J") ∈ kz_TT := kz_g (kz_in5 (List.mem_of_getElem? (i := 194) rfl)) rfl
theorem wt_1155 : (Jvm.Cond.fieldLink "StackAssemblerModel" (250 : Nat) "StackAssemblerModel" "wrong" "I") ∈ kz_TT := kz_g (kz_in5 (List.mem_of_getElem? (i := 195) rfl)) rfl
theorem wt_1156 : (Jvm.Cond.fieldLink "StackAssemblerModel" (297 : Nat) "StackAssemblerModel" "opened" "I") ∈ kz_TT := kz_g (kz_in5 (List.mem_of_getElem? (i := 196) rfl)) rfl
theorem wt_1157 : (Jvm.Cond.fieldLink "StackAssemblerModel" (157 : Nat) "StackAssemblerModel" "openCode" "[I") ∈ kz_TT := kz_g (kz_in5 (List.mem_of_getElem? (i := 197) rfl)) rfl
theorem wt_1158 : (Jvm.Cond.fieldLink "StackAssemblerModel" (160 : Nat) "StackAssemblerModel" "folded" "[Z") ∈ kz_TT := kz_g (kz_in5 (List.mem_of_getElem? (i := 198) rfl)) rfl
theorem wt_1159 : (Jvm.Cond.fieldLink "StackAssemblerModel" (164 : Nat) "StackAssemblerModel" "hasElse" "[Z") ∈ kz_TT := kz_g (kz_in5 (List.mem_of_getElem? (i := 199) rfl)) rfl
theorem wt_1160 : (Jvm.Cond.fieldLink "StackAssemblerModel" (167 : Nat) "StackAssemblerModel" "openName" "[I") ∈ kz_TT := kz_g (kz_in5 (List.mem_of_getElem? (i := 200) rfl)) rfl
theorem wt_1161 : (Jvm.Cond.fieldLink "StackAssemblerModel" (170 : Nat) "StackAssemblerModel" "openLength" "[I") ∈ kz_TT := kz_g (kz_in5 (List.mem_of_getElem? (i := 201) rfl)) rfl
theorem wt_1162 : (Jvm.Cond.fieldLink "StackAssemblerModel" (173 : Nat) "StackAssemblerModel" "openValue" "[J") ∈ kz_TT := kz_g (kz_in5 (List.mem_of_getElem? (i := 202) rfl)) rfl
theorem wt_1163 : (Jvm.Cond.fieldLink "StackAssemblerModel" (176 : Nat) "StackAssemblerModel" "openCall" "[I") ∈ kz_TT := kz_g (kz_in5 (List.mem_of_getElem? (i := 203) rfl)) rfl
theorem wt_1164 : (Jvm.Cond.fieldLink "StackAssemblerModel" (263 : Nat) "StackAssemblerModel" "number" "J") ∈ kz_TT := kz_g (kz_in5 (List.mem_of_getElem? (i := 204) rfl)) rfl
theorem wt_1165 : (Jvm.Cond.fieldLink "StackAssemblerModel" (281 : Nat) "StackAssemblerModel" "calling" "I") ∈ kz_TT := kz_g (kz_in5 (List.mem_of_getElem? (i := 205) rfl)) rfl
theorem wt_1166 : (Jvm.Cond.fieldLink "StackAssemblerModel" (402 : Nat) "StackAssemblerModel" "top" "I") ∈ kz_TT := kz_g (kz_in5 (List.mem_of_getElem? (i := 206) rfl)) rfl
theorem wt_1167 : (Jvm.Cond.fieldLink "StackAssemblerModel" (179 : Nat) "StackAssemblerModel" "stack" "[I") ∈ kz_TT := kz_g (kz_in5 (List.mem_of_getElem? (i := 207) rfl)) rfl
theorem wt_1168 : (Jvm.Cond.fieldLink "StackAssemblerModel" (399 : Nat) "StackAssemblerModel" "frames" "I") ∈ kz_TT := kz_g (kz_in5 (List.mem_of_getElem? (i := 208) rfl)) rfl
theorem wt_1169 : (Jvm.Cond.fieldLink "StackAssemblerModel" (182 : Nat) "StackAssemblerModel" "label" "[I") ∈ kz_TT := kz_g (kz_in5 (List.mem_of_getElem? (i := 209) rfl)) rfl
theorem wt_1170 : (Jvm.Cond.fieldLink "StackAssemblerModel" (185 : Nat) "StackAssemblerModel" "frameResult" "[I") ∈ kz_TT := kz_g (kz_in5 (List.mem_of_getElem? (i := 210) rfl)) rfl
theorem wt_1171 : (Jvm.Cond.fieldLink "StackAssemblerModel" (188 : Nat) "StackAssemblerModel" "height" "[I") ∈ kz_TT := kz_g (kz_in5 (List.mem_of_getElem? (i := 211) rfl)) rfl
theorem wt_1172 : (Jvm.Cond.fieldLink "StackAssemblerModel" (191 : Nat) "StackAssemblerModel" "frameCode" "[I") ∈ kz_TT := kz_g (kz_in5 (List.mem_of_getElem? (i := 212) rfl)) rfl
theorem wt_1173 : (Jvm.Cond.fieldLink "StackAssemblerModel" (194 : Nat) "StackAssemblerModel" "dead" "[Z") ∈ kz_TT := kz_g (kz_in5 (List.mem_of_getElem? (i := 213) rfl)) rfl
theorem wt_1174 : (Jvm.Cond.fieldLink "StackAssemblerModel" (395 : Nat) "StackAssemblerModel" "invalid" "Z") ∈ kz_TT := kz_g (kz_in5 (List.mem_of_getElem? (i := 214) rfl)) rfl
theorem wt_1175 : (Jvm.Cond.fieldLink "StackAssemblerModel" (527 : Nat) "StackAssemblerModel" "octets" "I") ∈ kz_TT := kz_g (kz_in5 (List.mem_of_getElem? (i := 215) rfl)) rfl
theorem wt_1176 : (Jvm.Cond.fieldLink "StackAssemblerModel" (197 : Nat) "StackAssemblerModel" "octet" "[I") ∈ kz_TT := kz_g (kz_in5 (List.mem_of_getElem? (i := 216) rfl)) rfl
theorem wt_1177 : (Jvm.Cond.fieldLink "StackAssemblerModel" (476 : Nat) "StackAssemblerModel" "made" "I") ∈ kz_TT := kz_g (kz_in5 (List.mem_of_getElem? (i := 217) rfl)) rfl
theorem wt_1178 : (Jvm.Cond.fieldLink "StackAssemblerModel" (200 : Nat) "StackAssemblerModel" "part" "[I") ∈ kz_TT := kz_g (kz_in5 (List.mem_of_getElem? (i := 218) rfl)) rfl
theorem wt_1179 : (Jvm.Cond.fieldLink "StackAssemblerModel" (530 : Nat) "StackAssemblerModel" "printed" "I") ∈ kz_TT := kz_g (kz_in5 (List.mem_of_getElem? (i := 219) rfl)) rfl
theorem wt_1180 : (Jvm.Cond.fieldLink "StackAssemblerModel" (203 : Nat) "StackAssemblerModel" "print" "[C") ∈ kz_TT := kz_g (kz_in5 (List.mem_of_getElem? (i := 220) rfl)) rfl
theorem wt_1181 : (Jvm.Cond.laysFinal "StackAssemblerModel" "StackAssemblerModel" "head" "[J") ∈ kz_TT := kz_g (kz_in5 (List.mem_of_getElem? (i := 221) rfl)) rfl
theorem wt_1183 : (Jvm.Cond.laysFinal "StackAssemblerModel" "StackAssemblerModel" "rest" "[J") ∈ kz_TT := kz_g (kz_in5 (List.mem_of_getElem? (i := 223) rfl)) rfl
theorem wt_1185 : (Jvm.Cond.laysFinal "StackAssemblerModel" "StackAssemblerModel" "codeOf" "[I") ∈ kz_TT := kz_g (kz_in5 (List.mem_of_getElem? (i := 225) rfl)) rfl
theorem wt_1187 : (Jvm.Cond.lays "StackAssemblerModel" "StackAssemblerModel" "thrown" "I") ∈ kz_TT := kz_g (kz_in5 (List.mem_of_getElem? (i := 227) rfl)) rfl
theorem wt_1189 : (Jvm.Cond.lays "StackAssemblerModel" "StackAssemblerModel" "place" "I") ∈ kz_TT := kz_g (kz_in5 (List.mem_of_getElem? (i := 229) rfl)) rfl
theorem wt_1191 : (Jvm.Cond.lays "StackAssemblerModel" "StackAssemblerModel" "size" "I") ∈ kz_TT := kz_g (kz_in5 (List.mem_of_getElem? (i := 231) rfl)) rfl
theorem wt_1193 : (Jvm.Cond.laysFinal "StackAssemblerModel" "StackAssemblerModel" "text" "[C") ∈ kz_TT := kz_g (kz_in5 (List.mem_of_getElem? (i := 233) rfl)) rfl
theorem wt_1195 : (Jvm.Cond.lays "StackAssemblerModel" "StackAssemblerModel" "functions" "I") ∈ kz_TT := kz_g (kz_in5 (List.mem_of_getElem? (i := 235) rfl)) rfl
theorem wt_1197 : (Jvm.Cond.laysFinal "StackAssemblerModel" "StackAssemblerModel" "parameters" "[I") ∈ kz_TT := kz_g (kz_in5 (List.mem_of_getElem? (i := 237) rfl)) rfl
theorem wt_1199 : (Jvm.Cond.laysFinal "StackAssemblerModel" "StackAssemblerModel" "variables" "[I") ∈ kz_TT := kz_g (kz_in5 (List.mem_of_getElem? (i := 239) rfl)) rfl
theorem wt_1201 : (Jvm.Cond.laysFinal "StackAssemblerModel" "StackAssemblerModel" "results" "[I") ∈ kz_TT := kz_g (kz_in6 (List.mem_of_getElem? (i := 1) rfl)) rfl
theorem wt_1203 : (Jvm.Cond.laysFinal "StackAssemblerModel" "StackAssemblerModel" "types" "[I") ∈ kz_TT := kz_g (kz_in6 (List.mem_of_getElem? (i := 3) rfl)) rfl
theorem wt_1205 : (Jvm.Cond.laysFinal "StackAssemblerModel" "StackAssemblerModel" "start" "[I") ∈ kz_TT := kz_g (kz_in6 (List.mem_of_getElem? (i := 5) rfl)) rfl
theorem wt_1207 : (Jvm.Cond.laysFinal "StackAssemblerModel" "StackAssemblerModel" "codes" "[I") ∈ kz_TT := kz_g (kz_in6 (List.mem_of_getElem? (i := 7) rfl)) rfl
theorem wt_1209 : (Jvm.Cond.laysFinal "StackAssemblerModel" "StackAssemblerModel" "values" "[J") ∈ kz_TT := kz_g (kz_in6 (List.mem_of_getElem? (i := 9) rfl)) rfl
theorem wt_1211 : (Jvm.Cond.lays "StackAssemblerModel" "StackAssemblerModel" "newFunctions" "I") ∈ kz_TT := kz_g (kz_in6 (List.mem_of_getElem? (i := 11) rfl)) rfl
theorem wt_1213 : (Jvm.Cond.laysFinal "StackAssemblerModel" "StackAssemblerModel" "newParameters" "[I") ∈ kz_TT := kz_g (kz_in6 (List.mem_of_getElem? (i := 13) rfl)) rfl
theorem wt_1215 : (Jvm.Cond.laysFinal "StackAssemblerModel" "StackAssemblerModel" "newVariables" "[I") ∈ kz_TT := kz_g (kz_in6 (List.mem_of_getElem? (i := 15) rfl)) rfl
theorem wt_1217 : (Jvm.Cond.laysFinal "StackAssemblerModel" "StackAssemblerModel" "newResults" "[I") ∈ kz_TT := kz_g (kz_in6 (List.mem_of_getElem? (i := 17) rfl)) rfl
theorem wt_1219 : (Jvm.Cond.laysFinal "StackAssemblerModel" "StackAssemblerModel" "newTypes" "[I") ∈ kz_TT := kz_g (kz_in6 (List.mem_of_getElem? (i := 19) rfl)) rfl
theorem wt_1221 : (Jvm.Cond.laysFinal "StackAssemblerModel" "StackAssemblerModel" "newStart" "[I") ∈ kz_TT := kz_g (kz_in6 (List.mem_of_getElem? (i := 21) rfl)) rfl
theorem wt_1223 : (Jvm.Cond.laysFinal "StackAssemblerModel" "StackAssemblerModel" "newCodes" "[I") ∈ kz_TT := kz_g (kz_in6 (List.mem_of_getElem? (i := 23) rfl)) rfl
theorem wt_1225 : (Jvm.Cond.laysFinal "StackAssemblerModel" "StackAssemblerModel" "newValues" "[J") ∈ kz_TT := kz_g (kz_in6 (List.mem_of_getElem? (i := 25) rfl)) rfl
theorem wt_1227 : (Jvm.Cond.lays "StackAssemblerModel" "StackAssemblerModel" "many" "I") ∈ kz_TT := kz_g (kz_in6 (List.mem_of_getElem? (i := 27) rfl)) rfl
theorem wt_1229 : (Jvm.Cond.laysFinal "StackAssemblerModel" "StackAssemblerModel" "functionName" "[I") ∈ kz_TT := kz_g (kz_in6 (List.mem_of_getElem? (i := 29) rfl)) rfl
theorem wt_1231 : (Jvm.Cond.laysFinal "StackAssemblerModel" "StackAssemblerModel" "functionLength" "[I") ∈ kz_TT := kz_g (kz_in6 (List.mem_of_getElem? (i := 31) rfl)) rfl
theorem wt_1233 : (Jvm.Cond.laysFinal "StackAssemblerModel" "StackAssemblerModel" "variableName" "[I") ∈ kz_TT := kz_g (kz_in6 (List.mem_of_getElem? (i := 33) rfl)) rfl
theorem wt_1235 : (Jvm.Cond.laysFinal "StackAssemblerModel" "StackAssemblerModel" "variableLength" "[I") ∈ kz_TT := kz_g (kz_in6 (List.mem_of_getElem? (i := 35) rfl)) rfl
theorem wt_1237 : (Jvm.Cond.lays "StackAssemblerModel" "StackAssemblerModel" "calls" "I") ∈ kz_TT := kz_g (kz_in6 (List.mem_of_getElem? (i := 37) rfl)) rfl
theorem wt_1239 : (Jvm.Cond.laysFinal "StackAssemblerModel" "StackAssemblerModel" "callName" "[I") ∈ kz_TT := kz_g (kz_in6 (List.mem_of_getElem? (i := 39) rfl)) rfl
theorem wt_1241 : (Jvm.Cond.laysFinal "StackAssemblerModel" "StackAssemblerModel" "callLength" "[I") ∈ kz_TT := kz_g (kz_in6 (List.mem_of_getElem? (i := 41) rfl)) rfl
theorem wt_1243 : (Jvm.Cond.laysFinal "StackAssemblerModel" "StackAssemblerModel" "callTo" "[I") ∈ kz_TT := kz_g (kz_in6 (List.mem_of_getElem? (i := 43) rfl)) rfl
theorem wt_1245 : (Jvm.Cond.lays "StackAssemblerModel" "StackAssemblerModel" "at" "I") ∈ kz_TT := kz_g (kz_in6 (List.mem_of_getElem? (i := 45) rfl)) rfl
theorem wt_1247 : (Jvm.Cond.lays "StackAssemblerModel" "StackAssemblerModel" "kind" "I") ∈ kz_TT := kz_g (kz_in6 (List.mem_of_getElem? (i := 47) rfl)) rfl
theorem wt_1249 : (Jvm.Cond.lays "StackAssemblerModel" "StackAssemblerModel" "from" "I") ∈ kz_TT := kz_g (kz_in6 (List.mem_of_getElem? (i := 49) rfl)) rfl
theorem wt_1251 : (Jvm.Cond.lays "StackAssemblerModel" "StackAssemblerModel" "wide" "I") ∈ kz_TT := kz_g (kz_in6 (List.mem_of_getElem? (i := 51) rfl)) rfl
theorem wt_1253 : (Jvm.Cond.lays "StackAssemblerModel" "StackAssemblerModel" "first" "J") ∈ kz_TT := kz_g (kz_in6 (List.mem_of_getElem? (i := 53) rfl)) rfl
theorem wt_1255 : (Jvm.Cond.lays "StackAssemblerModel" "StackAssemblerModel" "second" "J") ∈ kz_TT := kz_g (kz_in6 (List.mem_of_getElem? (i := 55) rfl)) rfl
theorem wt_1257 : (Jvm.Cond.lays "StackAssemblerModel" "StackAssemblerModel" "wrong" "I") ∈ kz_TT := kz_g (kz_in6 (List.mem_of_getElem? (i := 57) rfl)) rfl
theorem wt_1259 : (Jvm.Cond.lays "StackAssemblerModel" "StackAssemblerModel" "opened" "I") ∈ kz_TT := kz_g (kz_in6 (List.mem_of_getElem? (i := 59) rfl)) rfl
theorem wt_1261 : (Jvm.Cond.laysFinal "StackAssemblerModel" "StackAssemblerModel" "openCode" "[I") ∈ kz_TT := kz_g (kz_in6 (List.mem_of_getElem? (i := 61) rfl)) rfl
theorem wt_1263 : (Jvm.Cond.laysFinal "StackAssemblerModel" "StackAssemblerModel" "folded" "[Z") ∈ kz_TT := kz_g (kz_in6 (List.mem_of_getElem? (i := 63) rfl)) rfl
theorem wt_1265 : (Jvm.Cond.laysFinal "StackAssemblerModel" "StackAssemblerModel" "hasElse" "[Z") ∈ kz_TT := kz_g (kz_in6 (List.mem_of_getElem? (i := 65) rfl)) rfl
theorem wt_1267 : (Jvm.Cond.laysFinal "StackAssemblerModel" "StackAssemblerModel" "openName" "[I") ∈ kz_TT := kz_g (kz_in6 (List.mem_of_getElem? (i := 67) rfl)) rfl
theorem wt_1269 : (Jvm.Cond.laysFinal "StackAssemblerModel" "StackAssemblerModel" "openLength" "[I") ∈ kz_TT := kz_g (kz_in6 (List.mem_of_getElem? (i := 69) rfl)) rfl
theorem wt_1271 : (Jvm.Cond.laysFinal "StackAssemblerModel" "StackAssemblerModel" "openValue" "[J") ∈ kz_TT := kz_g (kz_in6 (List.mem_of_getElem? (i := 71) rfl)) rfl
theorem wt_1273 : (Jvm.Cond.laysFinal "StackAssemblerModel" "StackAssemblerModel" "openCall" "[I") ∈ kz_TT := kz_g (kz_in6 (List.mem_of_getElem? (i := 73) rfl)) rfl
theorem wt_1275 : (Jvm.Cond.lays "StackAssemblerModel" "StackAssemblerModel" "number" "J") ∈ kz_TT := kz_g (kz_in6 (List.mem_of_getElem? (i := 75) rfl)) rfl
theorem wt_1277 : (Jvm.Cond.lays "StackAssemblerModel" "StackAssemblerModel" "calling" "I") ∈ kz_TT := kz_g (kz_in6 (List.mem_of_getElem? (i := 77) rfl)) rfl
theorem wt_1279 : (Jvm.Cond.lays "StackAssemblerModel" "StackAssemblerModel" "top" "I") ∈ kz_TT := kz_g (kz_in6 (List.mem_of_getElem? (i := 79) rfl)) rfl
theorem wt_1281 : (Jvm.Cond.laysFinal "StackAssemblerModel" "StackAssemblerModel" "stack" "[I") ∈ kz_TT := kz_g (kz_in6 (List.mem_of_getElem? (i := 81) rfl)) rfl
theorem wt_1283 : (Jvm.Cond.lays "StackAssemblerModel" "StackAssemblerModel" "frames" "I") ∈ kz_TT := kz_g (kz_in6 (List.mem_of_getElem? (i := 83) rfl)) rfl
theorem wt_1285 : (Jvm.Cond.laysFinal "StackAssemblerModel" "StackAssemblerModel" "label" "[I") ∈ kz_TT := kz_g (kz_in6 (List.mem_of_getElem? (i := 85) rfl)) rfl
theorem wt_1287 : (Jvm.Cond.laysFinal "StackAssemblerModel" "StackAssemblerModel" "frameResult" "[I") ∈ kz_TT := kz_g (kz_in6 (List.mem_of_getElem? (i := 87) rfl)) rfl
theorem wt_1289 : (Jvm.Cond.laysFinal "StackAssemblerModel" "StackAssemblerModel" "height" "[I") ∈ kz_TT := kz_g (kz_in6 (List.mem_of_getElem? (i := 89) rfl)) rfl
theorem wt_1291 : (Jvm.Cond.laysFinal "StackAssemblerModel" "StackAssemblerModel" "frameCode" "[I") ∈ kz_TT := kz_g (kz_in6 (List.mem_of_getElem? (i := 91) rfl)) rfl
theorem wt_1293 : (Jvm.Cond.laysFinal "StackAssemblerModel" "StackAssemblerModel" "dead" "[Z") ∈ kz_TT := kz_g (kz_in6 (List.mem_of_getElem? (i := 93) rfl)) rfl
theorem wt_1295 : (Jvm.Cond.lays "StackAssemblerModel" "StackAssemblerModel" "invalid" "Z") ∈ kz_TT := kz_g (kz_in6 (List.mem_of_getElem? (i := 95) rfl)) rfl
theorem wt_1297 : (Jvm.Cond.lays "StackAssemblerModel" "StackAssemblerModel" "octets" "I") ∈ kz_TT := kz_g (kz_in6 (List.mem_of_getElem? (i := 97) rfl)) rfl
theorem wt_1299 : (Jvm.Cond.laysFinal "StackAssemblerModel" "StackAssemblerModel" "octet" "[I") ∈ kz_TT := kz_g (kz_in6 (List.mem_of_getElem? (i := 99) rfl)) rfl
theorem wt_1301 : (Jvm.Cond.lays "StackAssemblerModel" "StackAssemblerModel" "made" "I") ∈ kz_TT := kz_g (kz_in6 (List.mem_of_getElem? (i := 101) rfl)) rfl
theorem wt_1303 : (Jvm.Cond.laysFinal "StackAssemblerModel" "StackAssemblerModel" "part" "[I") ∈ kz_TT := kz_g (kz_in6 (List.mem_of_getElem? (i := 103) rfl)) rfl
theorem wt_1305 : (Jvm.Cond.lays "StackAssemblerModel" "StackAssemblerModel" "printed" "I") ∈ kz_TT := kz_g (kz_in6 (List.mem_of_getElem? (i := 105) rfl)) rfl
theorem wt_1307 : (Jvm.Cond.laysFinal "StackAssemblerModel" "StackAssemblerModel" "print" "[C") ∈ kz_TT := kz_g (kz_in6 (List.mem_of_getElem? (i := 107) rfl)) rfl
theorem wt_1310 : (Jvm.Cond.arrayClass Jvm.ClassFile.FieldType.boolean) ∈ kz_TT := kz_g (kz_in6 (List.mem_of_getElem? (i := 110) rfl)) rfl
theorem wt_1312 : (Jvm.Cond.instanceMethod ({ cls := "StackAssemblerModel", name := "thrown", desc := "()I" } : Jvm.MethodName)) ∈ kz_TT := kz_g (kz_in6 (List.mem_of_getElem? (i := 112) rfl)) rfl
theorem wt_1313 : (Jvm.Cond.selects "StackAssemblerModel" ({ cls := "StackAssemblerModel", name := "thrown", desc := "()I" } : Jvm.MethodName) ({ cls := "StackAssemblerModel", name := "thrown", desc := "()I" } : Jvm.MethodName)) ∈ kz_TT := kz_g (kz_in6 (List.mem_of_getElem? (i := 113) rfl)) rfl
theorem wt_1314 : (Jvm.Cond.code ({ cls := "StackAssemblerModel", name := "thrown", desc := "()I" } : Jvm.MethodName) prog_15_method_2_code (1 : Nat) (Option.some Jvm.ClassFile.FieldType.int)) ∈ kz_TT := kz_g (kz_in6 (List.mem_of_getElem? (i := 114) rfl)) rfl
theorem wt_1316 : (Jvm.Cond.instanceMethod ({ cls := "StackAssemblerModel", name := "type", desc := "(J)Z" } : Jvm.MethodName)) ∈ kz_TT := kz_g (kz_in6 (List.mem_of_getElem? (i := 116) rfl)) rfl
theorem wt_1317 : (Jvm.Cond.selects "StackAssemblerModel" ({ cls := "StackAssemblerModel", name := "type", desc := "(J)Z" } : Jvm.MethodName) ({ cls := "StackAssemblerModel", name := "type", desc := "(J)Z" } : Jvm.MethodName)) ∈ kz_TT := kz_g (kz_in6 (List.mem_of_getElem? (i := 117) rfl)) rfl
theorem wt_1318 : (Jvm.Cond.code ({ cls := "StackAssemblerModel", name := "type", desc := "(J)Z" } : Jvm.MethodName) prog_15_method_4_code (7 : Nat) (Option.some Jvm.ClassFile.FieldType.boolean)) ∈ kz_TT := kz_g (kz_in6 (List.mem_of_getElem? (i := 118) rfl)) rfl
theorem wt_1320 : (Jvm.Cond.instanceMethod ({ cls := "StackAssemblerModel", name := "wipe", desc := "()V" } : Jvm.MethodName)) ∈ kz_TT := kz_g (kz_in6 (List.mem_of_getElem? (i := 120) rfl)) rfl
theorem wt_1321 : (Jvm.Cond.selects "StackAssemblerModel" ({ cls := "StackAssemblerModel", name := "wipe", desc := "()V" } : Jvm.MethodName) ({ cls := "StackAssemblerModel", name := "wipe", desc := "()V" } : Jvm.MethodName)) ∈ kz_TT := kz_g (kz_in6 (List.mem_of_getElem? (i := 121) rfl)) rfl
theorem wt_1322 : (Jvm.Cond.code ({ cls := "StackAssemblerModel", name := "wipe", desc := "()V" } : Jvm.MethodName) prog_15_method_5_code (1 : Nat) (Option.none : Option Jvm.ClassFile.FieldType)) ∈ kz_TT := kz_g (kz_in6 (List.mem_of_getElem? (i := 122) rfl)) rfl
theorem wt_1324 : (Jvm.Cond.instanceMethod ({ cls := "StackAssemblerModel", name := "character", desc := "(I)C" } : Jvm.MethodName)) ∈ kz_TT := kz_g (kz_in6 (List.mem_of_getElem? (i := 124) rfl)) rfl
theorem wt_1325 : (Jvm.Cond.selects "StackAssemblerModel" ({ cls := "StackAssemblerModel", name := "character", desc := "(I)C" } : Jvm.MethodName) ({ cls := "StackAssemblerModel", name := "character", desc := "(I)C" } : Jvm.MethodName)) ∈ kz_TT := kz_g (kz_in6 (List.mem_of_getElem? (i := 125) rfl)) rfl
theorem wt_1326 : (Jvm.Cond.code ({ cls := "StackAssemblerModel", name := "character", desc := "(I)C" } : Jvm.MethodName) prog_15_method_6_code (2 : Nat) (Option.some Jvm.ClassFile.FieldType.char)) ∈ kz_TT := kz_g (kz_in6 (List.mem_of_getElem? (i := 126) rfl)) rfl
theorem wt_1328 : (Jvm.Cond.instanceMethod ({ cls := "StackAssemblerModel", name := "assemble", desc := "()I" } : Jvm.MethodName)) ∈ kz_TT := kz_g (kz_in6 (List.mem_of_getElem? (i := 128) rfl)) rfl
theorem wt_1329 : (Jvm.Cond.selects "StackAssemblerModel" ({ cls := "StackAssemblerModel", name := "assemble", desc := "()I" } : Jvm.MethodName) ({ cls := "StackAssemblerModel", name := "assemble", desc := "()I" } : Jvm.MethodName)) ∈ kz_TT := kz_g (kz_in6 (List.mem_of_getElem? (i := 129) rfl)) rfl
theorem wt_1330 : (Jvm.Cond.code ({ cls := "StackAssemblerModel", name := "assemble", desc := "()I" } : Jvm.MethodName) prog_15_method_62_code (1 : Nat) (Option.some Jvm.ClassFile.FieldType.int)) ∈ kz_TT := kz_g (kz_in6 (List.mem_of_getElem? (i := 130) rfl)) rfl
theorem wt_1331 : (Jvm.Cond.methodLink "StackAssemblerModel" (461 : Nat) ({ cls := "StackAssemblerModel", name := "readModule", desc := "()Z" } : Jvm.MethodName)) ∈ kz_TT := kz_g (kz_in6 (List.mem_of_getElem? (i := 131) rfl)) rfl
theorem wt_1333 : (Jvm.Cond.instanceMethod ({ cls := "StackAssemblerModel", name := "readModule", desc := "()Z" } : Jvm.MethodName)) ∈ kz_TT := kz_g (kz_in6 (List.mem_of_getElem? (i := 133) rfl)) rfl
theorem wt_1334 : (Jvm.Cond.code ({ cls := "StackAssemblerModel", name := "readModule", desc := "()Z" } : Jvm.MethodName) prog_15_method_27_code (1 : Nat) (Option.some Jvm.ClassFile.FieldType.boolean)) ∈ kz_TT := kz_g (kz_in6 (List.mem_of_getElem? (i := 134) rfl)) rfl
theorem wt_1335 : (Jvm.Cond.methodLink "StackAssemblerModel" (256 : Nat) ({ cls := "StackAssemblerModel", name := "next", desc := "()V" } : Jvm.MethodName)) ∈ kz_TT := kz_g (kz_in6 (List.mem_of_getElem? (i := 135) rfl)) rfl
theorem wt_1337 : (Jvm.Cond.instanceMethod ({ cls := "StackAssemblerModel", name := "next", desc := "()V" } : Jvm.MethodName)) ∈ kz_TT := kz_g (kz_in6 (List.mem_of_getElem? (i := 137) rfl)) rfl
theorem wt_1338 : (Jvm.Cond.code ({ cls := "StackAssemblerModel", name := "next", desc := "()V" } : Jvm.MethodName) prog_15_method_11_code (3 : Nat) (Option.none : Option Jvm.ClassFile.FieldType)) ∈ kz_TT := kz_g (kz_in6 (List.mem_of_getElem? (i := 138) rfl)) rfl
theorem wt_1339 : (Jvm.Cond.methodLink "StackAssemblerModel" (220 : Nat) ({ cls := "StackAssemblerModel", name := "ch", desc := "(I)I" } : Jvm.MethodName)) ∈ kz_TT := kz_g (kz_in6 (List.mem_of_getElem? (i := 139) rfl)) rfl
theorem wt_1341 : (Jvm.Cond.instanceMethod ({ cls := "StackAssemblerModel", name := "ch", desc := "(I)I" } : Jvm.MethodName)) ∈ kz_TT := kz_g (kz_in6 (List.mem_of_getElem? (i := 141) rfl)) rfl
theorem wt_1342 : (Jvm.Cond.code ({ cls := "StackAssemblerModel", name := "ch", desc := "(I)I" } : Jvm.MethodName) prog_15_method_7_code (2 : Nat) (Option.some Jvm.ClassFile.FieldType.int)) ∈ kz_TT := kz_g (kz_in6 (List.mem_of_getElem? (i := 142) rfl)) rfl
theorem wt_1343 : (Jvm.Cond.methodLink "StackAssemblerModel" (227 : Nat) ({ cls := "StackAssemblerModel", name := "comment", desc := "()Z" } : Jvm.MethodName)) ∈ kz_TT := kz_g (kz_in6 (List.mem_of_getElem? (i := 143) rfl)) rfl
theorem wt_1345 : (Jvm.Cond.instanceMethod ({ cls := "StackAssemblerModel", name := "comment", desc := "()Z" } : Jvm.MethodName)) ∈ kz_TT := kz_g (kz_in6 (List.mem_of_getElem? (i := 145) rfl)) rfl
theorem wt_1346 : (Jvm.Cond.code ({ cls := "StackAssemblerModel", name := "comment", desc := "()Z" } : Jvm.MethodName) prog_15_method_10_code (5 : Nat) (Option.some Jvm.ClassFile.FieldType.boolean)) ∈ kz_TT := kz_g (kz_in6 (List.mem_of_getElem? (i := 146) rfl)) rfl
theorem wt_1347 : (Jvm.Cond.methodLink "StackAssemblerModel" (234 : Nat) ({ cls := "StackAssemblerModel", name := "isSign", desc := "(I)Z" } : Jvm.MethodName)) ∈ kz_TT := kz_g (kz_in6 (List.mem_of_getElem? (i := 147) rfl)) rfl
theorem wt_1348 : (Jvm.Cond.static ({ cls := "StackAssemblerModel", name := "isSign", desc := "(I)Z" } : Jvm.MethodName)) ∈ kz_TT := kz_g (kz_in6 (List.mem_of_getElem? (i := 148) rfl)) rfl
theorem wt_1349 : (Jvm.Cond.code ({ cls := "StackAssemblerModel", name := "isSign", desc := "(I)Z" } : Jvm.MethodName) prog_15_method_9_code (4 : Nat) (Option.some Jvm.ClassFile.FieldType.boolean)) ∈ kz_TT := kz_g (kz_in6 (List.mem_of_getElem? (i := 149) rfl)) rfl
theorem wt_1350 : (Jvm.Cond.methodLink "StackAssemblerModel" (213 : Nat) ({ cls := "StackAssemblerModel", name := "isDigit", desc := "(I)Z" } : Jvm.MethodName)) ∈ kz_TT := kz_g (kz_in6 (List.mem_of_getElem? (i := 150) rfl)) rfl
theorem wt_1351 : (Jvm.Cond.static ({ cls := "StackAssemblerModel", name := "isDigit", desc := "(I)Z" } : Jvm.MethodName)) ∈ kz_TT := kz_g (kz_in6 (List.mem_of_getElem? (i := 151) rfl)) rfl
theorem wt_1352 : (Jvm.Cond.code ({ cls := "StackAssemblerModel", name := "isDigit", desc := "(I)Z" } : Jvm.MethodName) prog_15_method_8_code (1 : Nat) (Option.some Jvm.ClassFile.FieldType.boolean)) ∈ kz_TT := kz_g (kz_in6 (List.mem_of_getElem? (i := 152) rfl)) rfl
theorem wt_1353 : (Jvm.Cond.methodLink "StackAssemblerModel" (237 : Nat) ({ cls := "StackAssemblerModel", name := "readWord", desc := "()V" } : Jvm.MethodName)) ∈ kz_TT := kz_g (kz_in6 (List.mem_of_getElem? (i := 153) rfl)) rfl
theorem wt_1355 : (Jvm.Cond.instanceMethod ({ cls := "StackAssemblerModel", name := "readWord", desc := "()V" } : Jvm.MethodName)) ∈ kz_TT := kz_g (kz_in6 (List.mem_of_getElem? (i := 155) rfl)) rfl
theorem wt_1356 : (Jvm.Cond.code ({ cls := "StackAssemblerModel", name := "readWord", desc := "()V" } : Jvm.MethodName) prog_15_method_12_code (2 : Nat) (Option.none : Option Jvm.ClassFile.FieldType)) ∈ kz_TT := kz_g (kz_in6 (List.mem_of_getElem? (i := 156) rfl)) rfl
theorem wt_1357 : (Jvm.Cond.methodLink "StackAssemblerModel" (310 : Nat) ({ cls := "StackAssemblerModel", name := "pass", desc := "(I)Z" } : Jvm.MethodName)) ∈ kz_TT := kz_g (kz_in6 (List.mem_of_getElem? (i := 157) rfl)) rfl
theorem wt_1359 : (Jvm.Cond.instanceMethod ({ cls := "StackAssemblerModel", name := "pass", desc := "(I)Z" } : Jvm.MethodName)) ∈ kz_TT := kz_g (kz_in6 (List.mem_of_getElem? (i := 159) rfl)) rfl
theorem wt_1360 : (Jvm.Cond.code ({ cls := "StackAssemblerModel", name := "pass", desc := "(I)Z" } : Jvm.MethodName) prog_15_method_16_code (2 : Nat) (Option.some Jvm.ClassFile.FieldType.boolean)) ∈ kz_TT := kz_g (kz_in6 (List.mem_of_getElem? (i := 160) rfl)) rfl
theorem wt_1361 : (Jvm.Cond.methodLink "StackAssemblerModel" (253 : Nat) ({ cls := "StackAssemblerModel", name := "fail", desc := "(I)Z" } : Jvm.MethodName)) ∈ kz_TT := kz_g (kz_in6 (List.mem_of_getElem? (i := 161) rfl)) rfl
theorem wt_1363 : (Jvm.Cond.instanceMethod ({ cls := "StackAssemblerModel", name := "fail", desc := "(I)Z" } : Jvm.MethodName)) ∈ kz_TT := kz_g (kz_in6 (List.mem_of_getElem? (i := 163) rfl)) rfl
theorem wt_1364 : (Jvm.Cond.code ({ cls := "StackAssemblerModel", name := "fail", desc := "(I)Z" } : Jvm.MethodName) prog_15_method_15_code (2 : Nat) (Option.some Jvm.ClassFile.FieldType.boolean)) ∈ kz_TT := kz_g (kz_in6 (List.mem_of_getElem? (i := 164) rfl)) rfl
theorem wt_1365 : (Jvm.Cond.constantLong "StackAssemblerModel" (313 : Nat) (120325194214501 : Int64)) ∈ kz_TT := kz_g (kz_in6 (List.mem_of_getElem? (i := 165) rfl)) rfl
theorem wt_1366 : (Jvm.Cond.methodLink "StackAssemblerModel" (315 : Nat) ({ cls := "StackAssemblerModel", name := "passWord", desc := "(JI)Z" } : Jvm.MethodName)) ∈ kz_TT := kz_g (kz_in6 (List.mem_of_getElem? (i := 166) rfl)) rfl
theorem wt_1368 : (Jvm.Cond.instanceMethod ({ cls := "StackAssemblerModel", name := "passWord", desc := "(JI)Z" } : Jvm.MethodName)) ∈ kz_TT := kz_g (kz_in6 (List.mem_of_getElem? (i := 168) rfl)) rfl
theorem wt_1369 : (Jvm.Cond.code ({ cls := "StackAssemblerModel", name := "passWord", desc := "(JI)Z" } : Jvm.MethodName) prog_15_method_17_code (4 : Nat) (Option.some Jvm.ClassFile.FieldType.boolean)) ∈ kz_TT := kz_g (kz_in6 (List.mem_of_getElem? (i := 169) rfl)) rfl
theorem wt_1370 : (Jvm.Cond.methodLink "StackAssemblerModel" (259 : Nat) ({ cls := "StackAssemblerModel", name := "is", desc := "(JI)Z" } : Jvm.MethodName)) ∈ kz_TT := kz_g (kz_in6 (List.mem_of_getElem? (i := 170) rfl)) rfl
theorem wt_1372 : (Jvm.Cond.instanceMethod ({ cls := "StackAssemblerModel", name := "is", desc := "(JI)Z" } : Jvm.MethodName)) ∈ kz_TT := kz_g (kz_in6 (List.mem_of_getElem? (i := 172) rfl)) rfl
theorem wt_1373 : (Jvm.Cond.code ({ cls := "StackAssemblerModel", name := "is", desc := "(JI)Z" } : Jvm.MethodName) prog_15_method_13_code (4 : Nat) (Option.some Jvm.ClassFile.FieldType.boolean)) ∈ kz_TT := kz_g (kz_in6 (List.mem_of_getElem? (i := 173) rfl)) rfl
theorem wt_1374 : (Jvm.Cond.constantLong "StackAssemblerModel" (318 : Nat) (1718972003 : Int64)) ∈ kz_TT := kz_g (kz_in6 (List.mem_of_getElem? (i := 174) rfl)) rfl
theorem wt_1375 : (Jvm.Cond.methodLink "StackAssemblerModel" (320 : Nat) ({ cls := "StackAssemblerModel", name := "readFunction", desc := "(I)Z" } : Jvm.MethodName)) ∈ kz_TT := kz_g (kz_in6 (List.mem_of_getElem? (i := 175) rfl)) rfl
theorem wt_1377 : (Jvm.Cond.instanceMethod ({ cls := "StackAssemblerModel", name := "readFunction", desc := "(I)Z" } : Jvm.MethodName)) ∈ kz_TT := kz_g (kz_in6 (List.mem_of_getElem? (i := 177) rfl)) rfl
theorem wt_1378 : (Jvm.Cond.code ({ cls := "StackAssemblerModel", name := "readFunction", desc := "(I)Z" } : Jvm.MethodName) prog_15_method_28_code (4 : Nat) (Option.some Jvm.ClassFile.FieldType.boolean)) ∈ kz_TT := kz_g (kz_in6 (List.mem_of_getElem? (i := 178) rfl)) rfl
theorem wt_1379 : (Jvm.Cond.methodLink "StackAssemblerModel" (284 : Nat) ({ cls := "StackAssemblerModel", name := "isId", desc := "()Z" } : Jvm.MethodName)) ∈ kz_TT := kz_g (kz_in6 (List.mem_of_getElem? (i := 179) rfl)) rfl
theorem wt_1381 : (Jvm.Cond.instanceMethod ({ cls := "StackAssemblerModel", name := "isId", desc := "()Z" } : Jvm.MethodName)) ∈ kz_TT := kz_g (kz_in6 (List.mem_of_getElem? (i := 181) rfl)) rfl
theorem wt_1382 : (Jvm.Cond.code ({ cls := "StackAssemblerModel", name := "isId", desc := "()Z" } : Jvm.MethodName) prog_15_method_14_code (1 : Nat) (Option.some Jvm.ClassFile.FieldType.boolean)) ∈ kz_TT := kz_g (kz_in6 (List.mem_of_getElem? (i := 182) rfl)) rfl
theorem wt_1383 : (Jvm.Cond.methodLink "StackAssemblerModel" (300 : Nat) ({ cls := "StackAssemblerModel", name := "sameName", desc := "(IIII)Z" } : Jvm.MethodName)) ∈ kz_TT := kz_g (kz_in6 (List.mem_of_getElem? (i := 183) rfl)) rfl
theorem wt_1385 : (Jvm.Cond.instanceMethod ({ cls := "StackAssemblerModel", name := "sameName", desc := "(IIII)Z" } : Jvm.MethodName)) ∈ kz_TT := kz_g (kz_in6 (List.mem_of_getElem? (i := 185) rfl)) rfl
theorem wt_1386 : (Jvm.Cond.code ({ cls := "StackAssemblerModel", name := "sameName", desc := "(IIII)Z" } : Jvm.MethodName) prog_15_method_18_code (7 : Nat) (Option.some Jvm.ClassFile.FieldType.boolean)) ∈ kz_TT := kz_g (kz_in6 (List.mem_of_getElem? (i := 186) rfl)) rfl
theorem wt_1387 : (Jvm.Cond.constantLong "StackAssemblerModel" (323 : Nat) (482671223149 : Int64)) ∈ kz_TT := kz_g (kz_in6 (List.mem_of_getElem? (i := 187) rfl)) rfl
theorem wt_1388 : (Jvm.Cond.methodLink "StackAssemblerModel" (325 : Nat) ({ cls := "StackAssemblerModel", name := "variables", desc := "(IZ)Z" } : Jvm.MethodName)) ∈ kz_TT := kz_g (kz_in6 (List.mem_of_getElem? (i := 188) rfl)) rfl
theorem wt_1390 : (Jvm.Cond.instanceMethod ({ cls := "StackAssemblerModel", name := "variables", desc := "(IZ)Z" } : Jvm.MethodName)) ∈ kz_TT := kz_g (kz_in6 (List.mem_of_getElem? (i := 190) rfl)) rfl
theorem wt_1391 : (Jvm.Cond.code ({ cls := "StackAssemblerModel", name := "variables", desc := "(IZ)Z" } : Jvm.MethodName) prog_15_method_31_code (5 : Nat) (Option.some Jvm.ClassFile.FieldType.boolean)) ∈ kz_TT := kz_g (kz_in6 (List.mem_of_getElem? (i := 191) rfl)) rfl
theorem wt_1392 : (Jvm.Cond.methodLink "StackAssemblerModel" (294 : Nat) ({ cls := "StackAssemblerModel", name := "variableOf", desc := "(I)I" } : Jvm.MethodName)) ∈ kz_TT := kz_g (kz_in6 (List.mem_of_getElem? (i := 192) rfl)) rfl
theorem wt_1394 : (Jvm.Cond.instanceMethod ({ cls := "StackAssemblerModel", name := "variableOf", desc := "(I)I" } : Jvm.MethodName)) ∈ kz_TT := kz_g (kz_in6 (List.mem_of_getElem? (i := 194) rfl)) rfl
theorem wt_1395 : (Jvm.Cond.code ({ cls := "StackAssemblerModel", name := "variableOf", desc := "(I)I" } : Jvm.MethodName) prog_15_method_24_code (3 : Nat) (Option.some Jvm.ClassFile.FieldType.int)) ∈ kz_TT := kz_g (kz_in6 (List.mem_of_getElem? (i := 195) rfl)) rfl
theorem wt_1396 : (Jvm.Cond.methodLink "StackAssemblerModel" (342 : Nat) ({ cls := "StackAssemblerModel", name := "variable", desc := "(IZII)Z" } : Jvm.MethodName)) ∈ kz_TT := kz_g (kz_in6 (List.mem_of_getElem? (i := 196) rfl)) rfl
theorem wt_1398 : (Jvm.Cond.instanceMethod ({ cls := "StackAssemblerModel", name := "variable", desc := "(IZII)Z" } : Jvm.MethodName)) ∈ kz_TT := kz_g (kz_in6 (List.mem_of_getElem? (i := 198) rfl)) rfl
theorem wt_1399 : (Jvm.Cond.code ({ cls := "StackAssemblerModel", name := "variable", desc := "(IZII)Z" } : Jvm.MethodName) prog_15_method_30_code (7 : Nat) (Option.some Jvm.ClassFile.FieldType.boolean)) ∈ kz_TT := kz_g (kz_in6 (List.mem_of_getElem? (i := 199) rfl)) rfl
theorem wt_1400 : (Jvm.Cond.constantLong "StackAssemblerModel" (338 : Nat) (6894386 : Int64)) ∈ kz_TT := kz_g (kz_in6 (List.mem_of_getElem? (i := 200) rfl)) rfl
theorem wt_1401 : (Jvm.Cond.constantLong "StackAssemblerModel" (340 : Nat) (6895156 : Int64)) ∈ kz_TT := kz_g (kz_in6 (List.mem_of_getElem? (i := 201) rfl)) rfl
theorem wt_1402 : (Jvm.Cond.constantLong "StackAssemblerModel" (328 : Nat) (125780054338676 : Int64)) ∈ kz_TT := kz_g (kz_in6 (List.mem_of_getElem? (i := 202) rfl)) rfl
theorem wt_1403 : (Jvm.Cond.methodLink "StackAssemblerModel" (330 : Nat) ({ cls := "StackAssemblerModel", name := "readType", desc := "()I" } : Jvm.MethodName)) ∈ kz_TT := kz_g (kz_in6 (List.mem_of_getElem? (i := 203) rfl)) rfl
theorem wt_1405 : (Jvm.Cond.instanceMethod ({ cls := "StackAssemblerModel", name := "readType", desc := "()I" } : Jvm.MethodName)) ∈ kz_TT := kz_g (kz_in6 (List.mem_of_getElem? (i := 205) rfl)) rfl
theorem wt_1406 : (Jvm.Cond.code ({ cls := "StackAssemblerModel", name := "readType", desc := "()I" } : Jvm.MethodName) prog_15_method_29_code (2 : Nat) (Option.some Jvm.ClassFile.FieldType.int)) ∈ kz_TT := kz_g (kz_in6 (List.mem_of_getElem? (i := 206) rfl)) rfl
theorem wt_1407 : (Jvm.Cond.constantLong "StackAssemblerModel" (333 : Nat) (465725251948 : Int64)) ∈ kz_TT := kz_g (kz_in6 (List.mem_of_getElem? (i := 207) rfl)) rfl
theorem wt_1408 : (Jvm.Cond.methodLink "StackAssemblerModel" (335 : Nat) ({ cls := "StackAssemblerModel", name := "body", desc := "(IZ)Z" } : Jvm.MethodName)) ∈ kz_TT := kz_g (kz_in6 (List.mem_of_getElem? (i := 208) rfl)) rfl
theorem wt_1410 : (Jvm.Cond.instanceMethod ({ cls := "StackAssemblerModel", name := "body", desc := "(IZ)Z" } : Jvm.MethodName)) ∈ kz_TT := kz_g (kz_in6 (List.mem_of_getElem? (i := 210) rfl)) rfl
theorem wt_1411 : (Jvm.Cond.code ({ cls := "StackAssemblerModel", name := "body", desc := "(IZ)Z" } : Jvm.MethodName) prog_15_method_43_code (5 : Nat) (Option.some Jvm.ClassFile.FieldType.boolean)) ∈ kz_TT := kz_g (kz_in6 (List.mem_of_getElem? (i := 211) rfl)) rfl
theorem wt_1412 : (Jvm.Cond.methodLink "StackAssemblerModel" (366 : Nat) ({ cls := "StackAssemblerModel", name := "fold", desc := "(I)Z" } : Jvm.MethodName)) ∈ kz_TT := kz_g (kz_in6 (List.mem_of_getElem? (i := 212) rfl)) rfl
theorem wt_1414 : (Jvm.Cond.instanceMethod ({ cls := "StackAssemblerModel", name := "fold", desc := "(I)Z" } : Jvm.MethodName)) ∈ kz_TT := kz_g (kz_in6 (List.mem_of_getElem? (i := 214) rfl)) rfl
theorem wt_1415 : (Jvm.Cond.code ({ cls := "StackAssemblerModel", name := "fold", desc := "(I)Z" } : Jvm.MethodName) prog_15_method_35_code (4 : Nat) (Option.some Jvm.ClassFile.FieldType.boolean)) ∈ kz_TT := kz_g (kz_in6 (List.mem_of_getElem? (i := 215) rfl)) rfl
theorem wt_1416 : (Jvm.Cond.methodLink "StackAssemblerModel" (354 : Nat) ({ cls := "StackAssemblerModel", name := "instructionWord", desc := "()I" } : Jvm.MethodName)) ∈ kz_TT := kz_g (kz_in6 (List.mem_of_getElem? (i := 216) rfl)) rfl
theorem wt_1418 : (Jvm.Cond.instanceMethod ({ cls := "StackAssemblerModel", name := "instructionWord", desc := "()I" } : Jvm.MethodName)) ∈ kz_TT := kz_g (kz_in6 (List.mem_of_getElem? (i := 218) rfl)) rfl
theorem wt_1419 : (Jvm.Cond.code ({ cls := "StackAssemblerModel", name := "instructionWord", desc := "()I" } : Jvm.MethodName) prog_15_method_25_code (3 : Nat) (Option.some Jvm.ClassFile.FieldType.int)) ∈ kz_TT := kz_g (kz_in6 (List.mem_of_getElem? (i := 219) rfl)) rfl
theorem wt_1420 : (Jvm.Cond.methodLink "StackAssemblerModel" (357 : Nat) ({ cls := "StackAssemblerModel", name := "isPlain", desc := "(I)Z" } : Jvm.MethodName)) ∈ kz_TT := kz_g (kz_in6 (List.mem_of_getElem? (i := 220) rfl)) rfl
theorem wt_1421 : (Jvm.Cond.static ({ cls := "StackAssemblerModel", name := "isPlain", desc := "(I)Z" } : Jvm.MethodName)) ∈ kz_TT := kz_g (kz_in6 (List.mem_of_getElem? (i := 221) rfl)) rfl
theorem wt_1422 : (Jvm.Cond.code ({ cls := "StackAssemblerModel", name := "isPlain", desc := "(I)Z" } : Jvm.MethodName) prog_15_method_26_code (1 : Nat) (Option.some Jvm.ClassFile.FieldType.boolean)) ∈ kz_TT := kz_g (kz_in6 (List.mem_of_getElem? (i := 222) rfl)) rfl
theorem wt_1423 : (Jvm.Cond.methodLink "StackAssemblerModel" (360 : Nat) ({ cls := "StackAssemblerModel", name := "readImmediate", desc := "(II)Z" } : Jvm.MethodName)) ∈ kz_TT := kz_g (kz_in6 (List.mem_of_getElem? (i := 223) rfl)) rfl
theorem wt_1425 : (Jvm.Cond.instanceMethod ({ cls := "StackAssemblerModel", name := "readImmediate", desc := "(II)Z" } : Jvm.MethodName)) ∈ kz_TT := kz_g (kz_in6 (List.mem_of_getElem? (i := 225) rfl)) rfl
theorem wt_1426 : (Jvm.Cond.code ({ cls := "StackAssemblerModel", name := "readImmediate", desc := "(II)Z" } : Jvm.MethodName) prog_15_method_34_code (4 : Nat) (Option.some Jvm.ClassFile.FieldType.boolean)) ∈ kz_TT := kz_g (kz_in6 (List.mem_of_getElem? (i := 226) rfl)) rfl
theorem wt_1427 : (Jvm.Cond.methodLink "StackAssemblerModel" (346 : Nat) ({ cls := "StackAssemblerModel", name := "constant", desc := "(Z)Z" } : Jvm.MethodName)) ∈ kz_TT := kz_g (kz_in6 (List.mem_of_getElem? (i := 227) rfl)) rfl
theorem wt_1429 : (Jvm.Cond.instanceMethod ({ cls := "StackAssemblerModel", name := "constant", desc := "(Z)Z" } : Jvm.MethodName)) ∈ kz_TT := kz_g (kz_in6 (List.mem_of_getElem? (i := 229) rfl)) rfl
theorem wt_1430 : (Jvm.Cond.code ({ cls := "StackAssemblerModel", name := "constant", desc := "(Z)Z" } : Jvm.MethodName) prog_15_method_21_code (5 : Nat) (Option.some Jvm.ClassFile.FieldType.boolean)) ∈ kz_TT := kz_g (kz_in6 (List.mem_of_getElem? (i := 230) rfl)) rfl
theorem wt_1431 : (Jvm.Cond.methodLink "StackAssemblerModel" (270 : Nat) ({ cls := "StackAssemblerModel", name := "digits", desc := "(I)Z" } : Jvm.MethodName)) ∈ kz_TT := kz_g (kz_in6 (List.mem_of_getElem? (i := 231) rfl)) rfl
theorem wt_1433 : (Jvm.Cond.instanceMethod ({ cls := "StackAssemblerModel", name := "digits", desc := "(I)Z" } : Jvm.MethodName)) ∈ kz_TT := kz_g (kz_in6 (List.mem_of_getElem? (i := 233) rfl)) rfl
theorem wt_1434 : (Jvm.Cond.code ({ cls := "StackAssemblerModel", name := "digits", desc := "(I)Z" } : Jvm.MethodName) prog_15_method_19_code (6 : Nat) (Option.some Jvm.ClassFile.FieldType.boolean)) ∈ kz_TT := kz_g (kz_in6 (List.mem_of_getElem? (i := 234) rfl)) rfl
theorem wt_1435 : (Jvm.Cond.constantLong "StackAssemblerModel" (266 : Nat) (1844674407370955161 : Int64)) ∈ kz_TT := kz_g (kz_in6 (List.mem_of_getElem? (i := 235) rfl)) rfl
theorem wt_1436 : (Jvm.Cond.constantLong "StackAssemblerModel" (268 : Nat) (10 : Int64)) ∈ kz_TT := kz_g (kz_in6 (List.mem_of_getElem? (i := 236) rfl)) rfl
theorem wt_1437 : (Jvm.Cond.constantLong "StackAssemblerModel" (273 : Nat) (-9223372036854775808 : Int64)) ∈ kz_TT := kz_g (kz_in6 (List.mem_of_getElem? (i := 237) rfl)) rfl
theorem wt_1438 : (Jvm.Cond.methodLink "StackAssemblerModel" (275 : Nat) ({ cls := "StackAssemblerModel", name := "below32", desc := "(J)Z" } : Jvm.MethodName)) ∈ kz_TT := kz_g (kz_in6 (List.mem_of_getElem? (i := 238) rfl)) rfl
theorem wt_1439 : (Jvm.Cond.static ({ cls := "StackAssemblerModel", name := "below32", desc := "(J)Z" } : Jvm.MethodName)) ∈ kz_TT := kz_g (kz_in6 (List.mem_of_getElem? (i := 239) rfl)) rfl
theorem wt_1440 : (Jvm.Cond.code ({ cls := "StackAssemblerModel", name := "below32", desc := "(J)Z" } : Jvm.MethodName) prog_15_method_20_code (2 : Nat) (Option.some Jvm.ClassFile.FieldType.boolean)) ∈ kz_TT := kz_g (kz_in7 (List.mem_of_getElem? (i := 0) rfl)) rfl
theorem wt_1441 : (Jvm.Cond.constantLong "StackAssemblerModel" (279 : Nat) (2147483648 : Int64)) ∈ kz_TT := kz_g (kz_in7 (List.mem_of_getElem? (i := 1) rfl)) rfl
theorem wt_1442 : (Jvm.Cond.methodLink "StackAssemblerModel" (350 : Nat) ({ cls := "StackAssemblerModel", name := "index", desc := "(II)Z" } : Jvm.MethodName)) ∈ kz_TT := kz_g (kz_in7 (List.mem_of_getElem? (i := 2) rfl)) rfl
theorem wt_1444 : (Jvm.Cond.instanceMethod ({ cls := "StackAssemblerModel", name := "index", desc := "(II)Z" } : Jvm.MethodName)) ∈ kz_TT := kz_g (kz_in7 (List.mem_of_getElem? (i := 4) rfl)) rfl
theorem wt_1445 : (Jvm.Cond.code ({ cls := "StackAssemblerModel", name := "index", desc := "(II)Z" } : Jvm.MethodName) prog_15_method_22_code (4 : Nat) (Option.some Jvm.ClassFile.FieldType.boolean)) ∈ kz_TT := kz_g (kz_in7 (List.mem_of_getElem? (i := 5) rfl)) rfl
theorem wt_1446 : (Jvm.Cond.methodLink "StackAssemblerModel" (290 : Nat) ({ cls := "StackAssemblerModel", name := "labelOf", desc := "()I" } : Jvm.MethodName)) ∈ kz_TT := kz_g (kz_in7 (List.mem_of_getElem? (i := 6) rfl)) rfl
theorem wt_1448 : (Jvm.Cond.instanceMethod ({ cls := "StackAssemblerModel", name := "labelOf", desc := "()I" } : Jvm.MethodName)) ∈ kz_TT := kz_g (kz_in7 (List.mem_of_getElem? (i := 8) rfl)) rfl
theorem wt_1449 : (Jvm.Cond.code ({ cls := "StackAssemblerModel", name := "labelOf", desc := "()I" } : Jvm.MethodName) prog_15_method_23_code (3 : Nat) (Option.some Jvm.ClassFile.FieldType.int)) ∈ kz_TT := kz_g (kz_in7 (List.mem_of_getElem? (i := 9) rfl)) rfl
theorem wt_1450 : (Jvm.Cond.methodLink "StackAssemblerModel" (389 : Nat) ({ cls := "StackAssemblerModel", name := "inFold", desc := "(I)Z" } : Jvm.MethodName)) ∈ kz_TT := kz_g (kz_in7 (List.mem_of_getElem? (i := 10) rfl)) rfl
theorem wt_1452 : (Jvm.Cond.instanceMethod ({ cls := "StackAssemblerModel", name := "inFold", desc := "(I)Z" } : Jvm.MethodName)) ∈ kz_TT := kz_g (kz_in7 (List.mem_of_getElem? (i := 12) rfl)) rfl
theorem wt_1453 : (Jvm.Cond.code ({ cls := "StackAssemblerModel", name := "inFold", desc := "(I)Z" } : Jvm.MethodName) prog_15_method_37_code (2 : Nat) (Option.some Jvm.ClassFile.FieldType.boolean)) ∈ kz_TT := kz_g (kz_in7 (List.mem_of_getElem? (i := 13) rfl)) rfl
theorem wt_1454 : (Jvm.Cond.methodLink "StackAssemblerModel" (363 : Nat) ({ cls := "StackAssemblerModel", name := "open", desc := "()Z" } : Jvm.MethodName)) ∈ kz_TT := kz_g (kz_in7 (List.mem_of_getElem? (i := 14) rfl)) rfl
theorem wt_1456 : (Jvm.Cond.instanceMethod ({ cls := "StackAssemblerModel", name := "open", desc := "()Z" } : Jvm.MethodName)) ∈ kz_TT := kz_g (kz_in7 (List.mem_of_getElem? (i := 16) rfl)) rfl
theorem wt_1457 : (Jvm.Cond.code ({ cls := "StackAssemblerModel", name := "open", desc := "()Z" } : Jvm.MethodName) prog_15_method_38_code (1 : Nat) (Option.some Jvm.ClassFile.FieldType.boolean)) ∈ kz_TT := kz_g (kz_in7 (List.mem_of_getElem? (i := 17) rfl)) rfl
theorem wt_1458 : (Jvm.Cond.methodLink "StackAssemblerModel" (369 : Nat) ({ cls := "StackAssemblerModel", name := "hasRoom", desc := "()Z" } : Jvm.MethodName)) ∈ kz_TT := kz_g (kz_in7 (List.mem_of_getElem? (i := 18) rfl)) rfl
theorem wt_1460 : (Jvm.Cond.instanceMethod ({ cls := "StackAssemblerModel", name := "hasRoom", desc := "()Z" } : Jvm.MethodName)) ∈ kz_TT := kz_g (kz_in7 (List.mem_of_getElem? (i := 20) rfl)) rfl
theorem wt_1461 : (Jvm.Cond.code ({ cls := "StackAssemblerModel", name := "hasRoom", desc := "()Z" } : Jvm.MethodName) prog_15_method_33_code (1 : Nat) (Option.some Jvm.ClassFile.FieldType.boolean)) ∈ kz_TT := kz_g (kz_in7 (List.mem_of_getElem? (i := 21) rfl)) rfl
theorem wt_1462 : (Jvm.Cond.methodLink "StackAssemblerModel" (372 : Nat) ({ cls := "StackAssemblerModel", name := "emit", desc := "(IJ)I" } : Jvm.MethodName)) ∈ kz_TT := kz_g (kz_in7 (List.mem_of_getElem? (i := 22) rfl)) rfl
theorem wt_1464 : (Jvm.Cond.instanceMethod ({ cls := "StackAssemblerModel", name := "emit", desc := "(IJ)I" } : Jvm.MethodName)) ∈ kz_TT := kz_g (kz_in7 (List.mem_of_getElem? (i := 24) rfl)) rfl
theorem wt_1465 : (Jvm.Cond.code ({ cls := "StackAssemblerModel", name := "emit", desc := "(IJ)I" } : Jvm.MethodName) prog_15_method_32_code (4 : Nat) (Option.some Jvm.ClassFile.FieldType.int)) ∈ kz_TT := kz_g (kz_in7 (List.mem_of_getElem? (i := 25) rfl)) rfl
theorem wt_1466 : (Jvm.Cond.methodLink "StackAssemblerModel" (376 : Nat) ({ cls := "StackAssemblerModel", name := "noteCall", desc := "(II)V" } : Jvm.MethodName)) ∈ kz_TT := kz_g (kz_in7 (List.mem_of_getElem? (i := 26) rfl)) rfl
theorem wt_1468 : (Jvm.Cond.instanceMethod ({ cls := "StackAssemblerModel", name := "noteCall", desc := "(II)V" } : Jvm.MethodName)) ∈ kz_TT := kz_g (kz_in7 (List.mem_of_getElem? (i := 28) rfl)) rfl
theorem wt_1469 : (Jvm.Cond.code ({ cls := "StackAssemblerModel", name := "noteCall", desc := "(II)V" } : Jvm.MethodName) prog_15_method_36_code (3 : Nat) (Option.none : Option Jvm.ClassFile.FieldType)) ∈ kz_TT := kz_g (kz_in7 (List.mem_of_getElem? (i := 29) rfl)) rfl
theorem wt_1470 : (Jvm.Cond.methodLink "StackAssemblerModel" (392 : Nat) ({ cls := "StackAssemblerModel", name := "readInstruction", desc := "(I)Z" } : Jvm.MethodName)) ∈ kz_TT := kz_g (kz_in7 (List.mem_of_getElem? (i := 30) rfl)) rfl
theorem wt_1472 : (Jvm.Cond.instanceMethod ({ cls := "StackAssemblerModel", name := "readInstruction", desc := "(I)Z" } : Jvm.MethodName)) ∈ kz_TT := kz_g (kz_in7 (List.mem_of_getElem? (i := 32) rfl)) rfl
theorem wt_1473 : (Jvm.Cond.code ({ cls := "StackAssemblerModel", name := "readInstruction", desc := "(I)Z" } : Jvm.MethodName) prog_15_method_42_code (4 : Nat) (Option.some Jvm.ClassFile.FieldType.boolean)) ∈ kz_TT := kz_g (kz_in7 (List.mem_of_getElem? (i := 33) rfl)) rfl
theorem wt_1474 : (Jvm.Cond.methodLink "StackAssemblerModel" (383 : Nat) ({ cls := "StackAssemblerModel", name := "beginBlock", desc := "(II)Z" } : Jvm.MethodName)) ∈ kz_TT := kz_g (kz_in7 (List.mem_of_getElem? (i := 34) rfl)) rfl
theorem wt_1476 : (Jvm.Cond.instanceMethod ({ cls := "StackAssemblerModel", name := "beginBlock", desc := "(II)Z" } : Jvm.MethodName)) ∈ kz_TT := kz_g (kz_in7 (List.mem_of_getElem? (i := 36) rfl)) rfl
theorem wt_1477 : (Jvm.Cond.code ({ cls := "StackAssemblerModel", name := "beginBlock", desc := "(II)Z" } : Jvm.MethodName) prog_15_method_40_code (5 : Nat) (Option.some Jvm.ClassFile.FieldType.boolean)) ∈ kz_TT := kz_g (kz_in7 (List.mem_of_getElem? (i := 37) rfl)) rfl
theorem wt_1478 : (Jvm.Cond.methodLink "StackAssemblerModel" (386 : Nat) ({ cls := "StackAssemblerModel", name := "turnBlock", desc := "(I)Z" } : Jvm.MethodName)) ∈ kz_TT := kz_g (kz_in7 (List.mem_of_getElem? (i := 38) rfl)) rfl
theorem wt_1480 : (Jvm.Cond.instanceMethod ({ cls := "StackAssemblerModel", name := "turnBlock", desc := "(I)Z" } : Jvm.MethodName)) ∈ kz_TT := kz_g (kz_in7 (List.mem_of_getElem? (i := 40) rfl)) rfl
theorem wt_1481 : (Jvm.Cond.code ({ cls := "StackAssemblerModel", name := "turnBlock", desc := "(I)Z" } : Jvm.MethodName) prog_15_method_41_code (5 : Nat) (Option.some Jvm.ClassFile.FieldType.boolean)) ∈ kz_TT := kz_g (kz_in7 (List.mem_of_getElem? (i := 41) rfl)) rfl
theorem wt_1482 : (Jvm.Cond.methodLink "StackAssemblerModel" (380 : Nat) ({ cls := "StackAssemblerModel", name := "blockName", desc := "(I)Z" } : Jvm.MethodName)) ∈ kz_TT := kz_g (kz_in7 (List.mem_of_getElem? (i := 42) rfl)) rfl
theorem wt_1484 : (Jvm.Cond.instanceMethod ({ cls := "StackAssemblerModel", name := "blockName", desc := "(I)Z" } : Jvm.MethodName)) ∈ kz_TT := kz_g (kz_in7 (List.mem_of_getElem? (i := 44) rfl)) rfl
theorem wt_1485 : (Jvm.Cond.code ({ cls := "StackAssemblerModel", name := "blockName", desc := "(I)Z" } : Jvm.MethodName) prog_15_method_39_code (2 : Nat) (Option.some Jvm.ClassFile.FieldType.boolean)) ∈ kz_TT := kz_g (kz_in7 (List.mem_of_getElem? (i := 45) rfl)) rfl
theorem wt_1486 : (Jvm.Cond.methodLink "StackAssemblerModel" (464 : Nat) ({ cls := "StackAssemblerModel", name := "resolve", desc := "()Z" } : Jvm.MethodName)) ∈ kz_TT := kz_g (kz_in7 (List.mem_of_getElem? (i := 46) rfl)) rfl
theorem wt_1488 : (Jvm.Cond.instanceMethod ({ cls := "StackAssemblerModel", name := "resolve", desc := "()Z" } : Jvm.MethodName)) ∈ kz_TT := kz_g (kz_in7 (List.mem_of_getElem? (i := 48) rfl)) rfl
theorem wt_1489 : (Jvm.Cond.code ({ cls := "StackAssemblerModel", name := "resolve", desc := "()Z" } : Jvm.MethodName) prog_15_method_44_code (4 : Nat) (Option.some Jvm.ClassFile.FieldType.boolean)) ∈ kz_TT := kz_g (kz_in7 (List.mem_of_getElem? (i := 49) rfl)) rfl
theorem wt_1490 : (Jvm.Cond.methodLink "StackAssemblerModel" (467 : Nat) ({ cls := "StackAssemblerModel", name := "raise", desc := "(I)I" } : Jvm.MethodName)) ∈ kz_TT := kz_g (kz_in7 (List.mem_of_getElem? (i := 50) rfl)) rfl
theorem wt_1492 : (Jvm.Cond.instanceMethod ({ cls := "StackAssemblerModel", name := "raise", desc := "(I)I" } : Jvm.MethodName)) ∈ kz_TT := kz_g (kz_in7 (List.mem_of_getElem? (i := 52) rfl)) rfl
theorem wt_1493 : (Jvm.Cond.code ({ cls := "StackAssemblerModel", name := "raise", desc := "(I)I" } : Jvm.MethodName) prog_15_method_3_code (2 : Nat) (Option.some Jvm.ClassFile.FieldType.int)) ∈ kz_TT := kz_g (kz_in7 (List.mem_of_getElem? (i := 53) rfl)) rfl
theorem wt_1494 : (Jvm.Cond.methodLink "StackAssemblerModel" (470 : Nat) ({ cls := "StackAssemblerModel", name := "isValid", desc := "()Z" } : Jvm.MethodName)) ∈ kz_TT := kz_g (kz_in7 (List.mem_of_getElem? (i := 54) rfl)) rfl
theorem wt_1496 : (Jvm.Cond.instanceMethod ({ cls := "StackAssemblerModel", name := "isValid", desc := "()Z" } : Jvm.MethodName)) ∈ kz_TT := kz_g (kz_in7 (List.mem_of_getElem? (i := 56) rfl)) rfl
theorem wt_1497 : (Jvm.Cond.code ({ cls := "StackAssemblerModel", name := "isValid", desc := "()Z" } : Jvm.MethodName) prog_15_method_60_code (5 : Nat) (Option.some Jvm.ClassFile.FieldType.boolean)) ∈ kz_TT := kz_g (kz_in7 (List.mem_of_getElem? (i := 57) rfl)) rfl
theorem wt_1498 : (Jvm.Cond.methodLink "StackAssemblerModel" (415 : Nat) ({ cls := "StackAssemblerModel", name := "frame", desc := "(III)V" } : Jvm.MethodName)) ∈ kz_TT := kz_g (kz_in7 (List.mem_of_getElem? (i := 58) rfl)) rfl
theorem wt_1500 : (Jvm.Cond.instanceMethod ({ cls := "StackAssemblerModel", name := "frame", desc := "(III)V" } : Jvm.MethodName)) ∈ kz_TT := kz_g (kz_in7 (List.mem_of_getElem? (i := 60) rfl)) rfl
theorem wt_1501 : (Jvm.Cond.code ({ cls := "StackAssemblerModel", name := "frame", desc := "(III)V" } : Jvm.MethodName) prog_15_method_51_code (4 : Nat) (Option.none : Option Jvm.ClassFile.FieldType)) ∈ kz_TT := kz_g (kz_in7 (List.mem_of_getElem? (i := 61) rfl)) rfl
theorem wt_1502 : (Jvm.Cond.methodLink "StackAssemblerModel" (419 : Nat) ({ cls := "StackAssemblerModel", name := "endFrame", desc := "()V" } : Jvm.MethodName)) ∈ kz_TT := kz_g (kz_in7 (List.mem_of_getElem? (i := 62) rfl)) rfl
theorem wt_1504 : (Jvm.Cond.instanceMethod ({ cls := "StackAssemblerModel", name := "endFrame", desc := "()V" } : Jvm.MethodName)) ∈ kz_TT := kz_g (kz_in7 (List.mem_of_getElem? (i := 64) rfl)) rfl
theorem wt_1505 : (Jvm.Cond.code ({ cls := "StackAssemblerModel", name := "endFrame", desc := "()V" } : Jvm.MethodName) prog_15_method_52_code (2 : Nat) (Option.none : Option Jvm.ClassFile.FieldType)) ∈ kz_TT := kz_g (kz_in7 (List.mem_of_getElem? (i := 65) rfl)) rfl
theorem wt_1506 : (Jvm.Cond.methodLink "StackAssemblerModel" (412 : Nat) ({ cls := "StackAssemblerModel", name := "takeResult", desc := "(I)V" } : Jvm.MethodName)) ∈ kz_TT := kz_g (kz_in7 (List.mem_of_getElem? (i := 66) rfl)) rfl
theorem wt_1508 : (Jvm.Cond.instanceMethod ({ cls := "StackAssemblerModel", name := "takeResult", desc := "(I)V" } : Jvm.MethodName)) ∈ kz_TT := kz_g (kz_in7 (List.mem_of_getElem? (i := 68) rfl)) rfl
theorem wt_1509 : (Jvm.Cond.code ({ cls := "StackAssemblerModel", name := "takeResult", desc := "(I)V" } : Jvm.MethodName) prog_15_method_49_code (3 : Nat) (Option.none : Option Jvm.ClassFile.FieldType)) ∈ kz_TT := kz_g (kz_in7 (List.mem_of_getElem? (i := 69) rfl)) rfl
theorem wt_1510 : (Jvm.Cond.methodLink "StackAssemblerModel" (405 : Nat) ({ cls := "StackAssemblerModel", name := "take", desc := "(I)I" } : Jvm.MethodName)) ∈ kz_TT := kz_g (kz_in7 (List.mem_of_getElem? (i := 70) rfl)) rfl
theorem wt_1512 : (Jvm.Cond.instanceMethod ({ cls := "StackAssemblerModel", name := "take", desc := "(I)I" } : Jvm.MethodName)) ∈ kz_TT := kz_g (kz_in7 (List.mem_of_getElem? (i := 72) rfl)) rfl
theorem wt_1513 : (Jvm.Cond.code ({ cls := "StackAssemblerModel", name := "take", desc := "(I)I" } : Jvm.MethodName) prog_15_method_46_code (4 : Nat) (Option.some Jvm.ClassFile.FieldType.int)) ∈ kz_TT := kz_g (kz_in7 (List.mem_of_getElem? (i := 73) rfl)) rfl
theorem wt_1514 : (Jvm.Cond.methodLink "StackAssemblerModel" (452 : Nat) ({ cls := "StackAssemblerModel", name := "check", desc := "(IIJ)V" } : Jvm.MethodName)) ∈ kz_TT := kz_g (kz_in7 (List.mem_of_getElem? (i := 74) rfl)) rfl
theorem wt_1516 : (Jvm.Cond.instanceMethod ({ cls := "StackAssemblerModel", name := "check", desc := "(IIJ)V" } : Jvm.MethodName)) ∈ kz_TT := kz_g (kz_in7 (List.mem_of_getElem? (i := 76) rfl)) rfl
theorem wt_1517 : (Jvm.Cond.code ({ cls := "StackAssemblerModel", name := "check", desc := "(IIJ)V" } : Jvm.MethodName) prog_15_method_59_code (6 : Nat) (Option.none : Option Jvm.ClassFile.FieldType)) ∈ kz_TT := kz_g (kz_in7 (List.mem_of_getElem? (i := 77) rfl)) rfl
theorem wt_1518 : (Jvm.Cond.methodLink "StackAssemblerModel" (428 : Nat) ({ cls := "StackAssemblerModel", name := "die", desc := "()V" } : Jvm.MethodName)) ∈ kz_TT := kz_g (kz_in7 (List.mem_of_getElem? (i := 78) rfl)) rfl
theorem wt_1520 : (Jvm.Cond.instanceMethod ({ cls := "StackAssemblerModel", name := "die", desc := "()V" } : Jvm.MethodName)) ∈ kz_TT := kz_g (kz_in7 (List.mem_of_getElem? (i := 80) rfl)) rfl
theorem wt_1521 : (Jvm.Cond.code ({ cls := "StackAssemblerModel", name := "die", desc := "()V" } : Jvm.MethodName) prog_15_method_50_code (1 : Nat) (Option.none : Option Jvm.ClassFile.FieldType)) ∈ kz_TT := kz_g (kz_in7 (List.mem_of_getElem? (i := 81) rfl)) rfl
theorem wt_1522 : (Jvm.Cond.methodLink "StackAssemblerModel" (431 : Nat) ({ cls := "StackAssemblerModel", name := "control", desc := "(II)V" } : Jvm.MethodName)) ∈ kz_TT := kz_g (kz_in7 (List.mem_of_getElem? (i := 82) rfl)) rfl
theorem wt_1524 : (Jvm.Cond.instanceMethod ({ cls := "StackAssemblerModel", name := "control", desc := "(II)V" } : Jvm.MethodName)) ∈ kz_TT := kz_g (kz_in7 (List.mem_of_getElem? (i := 84) rfl)) rfl
theorem wt_1525 : (Jvm.Cond.code ({ cls := "StackAssemblerModel", name := "control", desc := "(II)V" } : Jvm.MethodName) prog_15_method_53_code (4 : Nat) (Option.none : Option Jvm.ClassFile.FieldType)) ∈ kz_TT := kz_g (kz_in7 (List.mem_of_getElem? (i := 85) rfl)) rfl
theorem wt_1526 : (Jvm.Cond.methodLink "StackAssemblerModel" (408 : Nat) ({ cls := "StackAssemblerModel", name := "put", desc := "(I)V" } : Jvm.MethodName)) ∈ kz_TT := kz_g (kz_in7 (List.mem_of_getElem? (i := 86) rfl)) rfl
theorem wt_1528 : (Jvm.Cond.instanceMethod ({ cls := "StackAssemblerModel", name := "put", desc := "(I)V" } : Jvm.MethodName)) ∈ kz_TT := kz_g (kz_in7 (List.mem_of_getElem? (i := 88) rfl)) rfl
theorem wt_1529 : (Jvm.Cond.code ({ cls := "StackAssemblerModel", name := "put", desc := "(I)V" } : Jvm.MethodName) prog_15_method_47_code (2 : Nat) (Option.none : Option Jvm.ClassFile.FieldType)) ∈ kz_TT := kz_g (kz_in7 (List.mem_of_getElem? (i := 89) rfl)) rfl
theorem wt_1530 : (Jvm.Cond.methodLink "StackAssemblerModel" (434 : Nat) ({ cls := "StackAssemblerModel", name := "branch", desc := "(IJ)V" } : Jvm.MethodName)) ∈ kz_TT := kz_g (kz_in7 (List.mem_of_getElem? (i := 90) rfl)) rfl
theorem wt_1532 : (Jvm.Cond.instanceMethod ({ cls := "StackAssemblerModel", name := "branch", desc := "(IJ)V" } : Jvm.MethodName)) ∈ kz_TT := kz_g (kz_in7 (List.mem_of_getElem? (i := 92) rfl)) rfl
theorem wt_1533 : (Jvm.Cond.code ({ cls := "StackAssemblerModel", name := "branch", desc := "(IJ)V" } : Jvm.MethodName) prog_15_method_54_code (5 : Nat) (Option.none : Option Jvm.ClassFile.FieldType)) ∈ kz_TT := kz_g (kz_in7 (List.mem_of_getElem? (i := 93) rfl)) rfl
theorem wt_1534 : (Jvm.Cond.methodLink "StackAssemblerModel" (422 : Nat) ({ cls := "StackAssemblerModel", name := "bad", desc := "()V" } : Jvm.MethodName)) ∈ kz_TT := kz_g (kz_in7 (List.mem_of_getElem? (i := 94) rfl)) rfl
theorem wt_1536 : (Jvm.Cond.instanceMethod ({ cls := "StackAssemblerModel", name := "bad", desc := "()V" } : Jvm.MethodName)) ∈ kz_TT := kz_g (kz_in7 (List.mem_of_getElem? (i := 96) rfl)) rfl
theorem wt_1537 : (Jvm.Cond.code ({ cls := "StackAssemblerModel", name := "bad", desc := "()V" } : Jvm.MethodName) prog_15_method_45_code (1 : Nat) (Option.none : Option Jvm.ClassFile.FieldType)) ∈ kz_TT := kz_g (kz_in7 (List.mem_of_getElem? (i := 97) rfl)) rfl
theorem wt_1538 : (Jvm.Cond.methodLink "StackAssemblerModel" (425 : Nat) ({ cls := "StackAssemblerModel", name := "takeAndPut", desc := "(I)V" } : Jvm.MethodName)) ∈ kz_TT := kz_g (kz_in7 (List.mem_of_getElem? (i := 98) rfl)) rfl
theorem wt_1540 : (Jvm.Cond.instanceMethod ({ cls := "StackAssemblerModel", name := "takeAndPut", desc := "(I)V" } : Jvm.MethodName)) ∈ kz_TT := kz_g (kz_in7 (List.mem_of_getElem? (i := 100) rfl)) rfl
theorem wt_1541 : (Jvm.Cond.code ({ cls := "StackAssemblerModel", name := "takeAndPut", desc := "(I)V" } : Jvm.MethodName) prog_15_method_48_code (3 : Nat) (Option.none : Option Jvm.ClassFile.FieldType)) ∈ kz_TT := kz_g (kz_in7 (List.mem_of_getElem? (i := 101) rfl)) rfl
theorem wt_1542 : (Jvm.Cond.methodLink "StackAssemblerModel" (438 : Nat) ({ cls := "StackAssemblerModel", name := "callOf", desc := "(J)V" } : Jvm.MethodName)) ∈ kz_TT := kz_g (kz_in7 (List.mem_of_getElem? (i := 102) rfl)) rfl
theorem wt_1544 : (Jvm.Cond.instanceMethod ({ cls := "StackAssemblerModel", name := "callOf", desc := "(J)V" } : Jvm.MethodName)) ∈ kz_TT := kz_g (kz_in7 (List.mem_of_getElem? (i := 104) rfl)) rfl
theorem wt_1545 : (Jvm.Cond.code ({ cls := "StackAssemblerModel", name := "callOf", desc := "(J)V" } : Jvm.MethodName) prog_15_method_55_code (5 : Nat) (Option.none : Option Jvm.ClassFile.FieldType)) ∈ kz_TT := kz_g (kz_in7 (List.mem_of_getElem? (i := 105) rfl)) rfl
theorem wt_1546 : (Jvm.Cond.methodLink "StackAssemblerModel" (442 : Nat) ({ cls := "StackAssemblerModel", name := "select", desc := "()V" } : Jvm.MethodName)) ∈ kz_TT := kz_g (kz_in7 (List.mem_of_getElem? (i := 106) rfl)) rfl
theorem wt_1548 : (Jvm.Cond.instanceMethod ({ cls := "StackAssemblerModel", name := "select", desc := "()V" } : Jvm.MethodName)) ∈ kz_TT := kz_g (kz_in7 (List.mem_of_getElem? (i := 108) rfl)) rfl
theorem wt_1549 : (Jvm.Cond.code ({ cls := "StackAssemblerModel", name := "select", desc := "()V" } : Jvm.MethodName) prog_15_method_57_code (3 : Nat) (Option.none : Option Jvm.ClassFile.FieldType)) ∈ kz_TT := kz_g (kz_in7 (List.mem_of_getElem? (i := 109) rfl)) rfl
theorem wt_1550 : (Jvm.Cond.methodLink "StackAssemblerModel" (445 : Nat) ({ cls := "StackAssemblerModel", name := "local", desc := "(IIJ)V" } : Jvm.MethodName)) ∈ kz_TT := kz_g (kz_in7 (List.mem_of_getElem? (i := 110) rfl)) rfl
theorem wt_1552 : (Jvm.Cond.instanceMethod ({ cls := "StackAssemblerModel", name := "local", desc := "(IIJ)V" } : Jvm.MethodName)) ∈ kz_TT := kz_g (kz_in7 (List.mem_of_getElem? (i := 112) rfl)) rfl
theorem wt_1553 : (Jvm.Cond.code ({ cls := "StackAssemblerModel", name := "local", desc := "(IIJ)V" } : Jvm.MethodName) prog_15_method_56_code (6 : Nat) (Option.none : Option Jvm.ClassFile.FieldType)) ∈ kz_TT := kz_g (kz_in7 (List.mem_of_getElem? (i := 113) rfl)) rfl
theorem wt_1554 : (Jvm.Cond.methodLink "StackAssemblerModel" (449 : Nat) ({ cls := "StackAssemblerModel", name := "arithmetic", desc := "(I)V" } : Jvm.MethodName)) ∈ kz_TT := kz_g (kz_in7 (List.mem_of_getElem? (i := 114) rfl)) rfl
theorem wt_1556 : (Jvm.Cond.instanceMethod ({ cls := "StackAssemblerModel", name := "arithmetic", desc := "(I)V" } : Jvm.MethodName)) ∈ kz_TT := kz_g (kz_in7 (List.mem_of_getElem? (i := 116) rfl)) rfl
theorem wt_1557 : (Jvm.Cond.code ({ cls := "StackAssemblerModel", name := "arithmetic", desc := "(I)V" } : Jvm.MethodName) prog_15_method_58_code (4 : Nat) (Option.none : Option Jvm.ClassFile.FieldType)) ∈ kz_TT := kz_g (kz_in7 (List.mem_of_getElem? (i := 117) rfl)) rfl
theorem wt_1558 : (Jvm.Cond.methodLink "StackAssemblerModel" (473 : Nat) ({ cls := "StackAssemblerModel", name := "adopt", desc := "()V" } : Jvm.MethodName)) ∈ kz_TT := kz_g (kz_in7 (List.mem_of_getElem? (i := 118) rfl)) rfl
theorem wt_1560 : (Jvm.Cond.instanceMethod ({ cls := "StackAssemblerModel", name := "adopt", desc := "()V" } : Jvm.MethodName)) ∈ kz_TT := kz_g (kz_in7 (List.mem_of_getElem? (i := 120) rfl)) rfl
theorem wt_1561 : (Jvm.Cond.code ({ cls := "StackAssemblerModel", name := "adopt", desc := "()V" } : Jvm.MethodName) prog_15_method_61_code (2 : Nat) (Option.none : Option Jvm.ClassFile.FieldType)) ∈ kz_TT := kz_g (kz_in7 (List.mem_of_getElem? (i := 121) rfl)) rfl
theorem wt_1563 : (Jvm.Cond.instanceMethod ({ cls := "StackAssemblerModel", name := "encode", desc := "()I" } : Jvm.MethodName)) ∈ kz_TT := kz_g (kz_in7 (List.mem_of_getElem? (i := 123) rfl)) rfl
theorem wt_1564 : (Jvm.Cond.selects "StackAssemblerModel" ({ cls := "StackAssemblerModel", name := "encode", desc := "()I" } : Jvm.MethodName) ({ cls := "StackAssemblerModel", name := "encode", desc := "()I" } : Jvm.MethodName)) ∈ kz_TT := kz_g (kz_in7 (List.mem_of_getElem? (i := 124) rfl)) rfl
theorem wt_1565 : (Jvm.Cond.code ({ cls := "StackAssemblerModel", name := "encode", desc := "()I" } : Jvm.MethodName) prog_15_method_77_code (2 : Nat) (Option.some Jvm.ClassFile.FieldType.int)) ∈ kz_TT := kz_g (kz_in7 (List.mem_of_getElem? (i := 125) rfl)) rfl
theorem wt_1566 : (Jvm.Cond.methodLink "StackAssemblerModel" (481 : Nat) ({ cls := "StackAssemblerModel", name := "add", desc := "(I)V" } : Jvm.MethodName)) ∈ kz_TT := kz_g (kz_in7 (List.mem_of_getElem? (i := 126) rfl)) rfl
theorem wt_1568 : (Jvm.Cond.instanceMethod ({ cls := "StackAssemblerModel", name := "add", desc := "(I)V" } : Jvm.MethodName)) ∈ kz_TT := kz_g (kz_in7 (List.mem_of_getElem? (i := 128) rfl)) rfl
theorem wt_1569 : (Jvm.Cond.code ({ cls := "StackAssemblerModel", name := "add", desc := "(I)V" } : Jvm.MethodName) prog_15_method_63_code (2 : Nat) (Option.none : Option Jvm.ClassFile.FieldType)) ∈ kz_TT := kz_g (kz_in7 (List.mem_of_getElem? (i := 129) rfl)) rfl
theorem wt_1570 : (Jvm.Cond.methodLink "StackAssemblerModel" (518 : Nat) ({ cls := "StackAssemblerModel", name := "signatureSection", desc := "()V" } : Jvm.MethodName)) ∈ kz_TT := kz_g (kz_in7 (List.mem_of_getElem? (i := 130) rfl)) rfl
theorem wt_1572 : (Jvm.Cond.instanceMethod ({ cls := "StackAssemblerModel", name := "signatureSection", desc := "()V" } : Jvm.MethodName)) ∈ kz_TT := kz_g (kz_in7 (List.mem_of_getElem? (i := 132) rfl)) rfl
theorem wt_1573 : (Jvm.Cond.code ({ cls := "StackAssemblerModel", name := "signatureSection", desc := "()V" } : Jvm.MethodName) prog_15_method_71_code (4 : Nat) (Option.none : Option Jvm.ClassFile.FieldType)) ∈ kz_TT := kz_g (kz_in7 (List.mem_of_getElem? (i := 133) rfl)) rfl
theorem wt_1574 : (Jvm.Cond.methodLink "StackAssemblerModel" (494 : Nat) ({ cls := "StackAssemblerModel", name := "signaturesBefore", desc := "(I)I" } : Jvm.MethodName)) ∈ kz_TT := kz_g (kz_in7 (List.mem_of_getElem? (i := 134) rfl)) rfl
theorem wt_1576 : (Jvm.Cond.instanceMethod ({ cls := "StackAssemblerModel", name := "signaturesBefore", desc := "(I)I" } : Jvm.MethodName)) ∈ kz_TT := kz_g (kz_in7 (List.mem_of_getElem? (i := 136) rfl)) rfl
theorem wt_1577 : (Jvm.Cond.code ({ cls := "StackAssemblerModel", name := "signaturesBefore", desc := "(I)I" } : Jvm.MethodName) prog_15_method_70_code (4 : Nat) (Option.some Jvm.ClassFile.FieldType.int)) ∈ kz_TT := kz_g (kz_in7 (List.mem_of_getElem? (i := 137) rfl)) rfl
theorem wt_1578 : (Jvm.Cond.methodLink "StackAssemblerModel" (491 : Nat) ({ cls := "StackAssemblerModel", name := "firstLike", desc := "(I)I" } : Jvm.MethodName)) ∈ kz_TT := kz_g (kz_in7 (List.mem_of_getElem? (i := 138) rfl)) rfl
theorem wt_1580 : (Jvm.Cond.instanceMethod ({ cls := "StackAssemblerModel", name := "firstLike", desc := "(I)I" } : Jvm.MethodName)) ∈ kz_TT := kz_g (kz_in7 (List.mem_of_getElem? (i := 140) rfl)) rfl
theorem wt_1581 : (Jvm.Cond.code ({ cls := "StackAssemblerModel", name := "firstLike", desc := "(I)I" } : Jvm.MethodName) prog_15_method_69_code (3 : Nat) (Option.some Jvm.ClassFile.FieldType.int)) ∈ kz_TT := kz_g (kz_in7 (List.mem_of_getElem? (i := 141) rfl)) rfl
theorem wt_1582 : (Jvm.Cond.methodLink "StackAssemblerModel" (488 : Nat) ({ cls := "StackAssemblerModel", name := "sameSignature", desc := "(II)Z" } : Jvm.MethodName)) ∈ kz_TT := kz_g (kz_in7 (List.mem_of_getElem? (i := 142) rfl)) rfl
theorem wt_1584 : (Jvm.Cond.instanceMethod ({ cls := "StackAssemblerModel", name := "sameSignature", desc := "(II)Z" } : Jvm.MethodName)) ∈ kz_TT := kz_g (kz_in7 (List.mem_of_getElem? (i := 144) rfl)) rfl
theorem wt_1585 : (Jvm.Cond.code ({ cls := "StackAssemblerModel", name := "sameSignature", desc := "(II)Z" } : Jvm.MethodName) prog_15_method_68_code (5 : Nat) (Option.some Jvm.ClassFile.FieldType.boolean)) ∈ kz_TT := kz_g (kz_in7 (List.mem_of_getElem? (i := 145) rfl)) rfl
theorem wt_1586 : (Jvm.Cond.methodLink "StackAssemblerModel" (497 : Nat) ({ cls := "StackAssemblerModel", name := "unsigned", desc := "(J)V" } : Jvm.MethodName)) ∈ kz_TT := kz_g (kz_in7 (List.mem_of_getElem? (i := 146) rfl)) rfl
theorem wt_1588 : (Jvm.Cond.instanceMethod ({ cls := "StackAssemblerModel", name := "unsigned", desc := "(J)V" } : Jvm.MethodName)) ∈ kz_TT := kz_g (kz_in7 (List.mem_of_getElem? (i := 148) rfl)) rfl
theorem wt_1589 : (Jvm.Cond.code ({ cls := "StackAssemblerModel", name := "unsigned", desc := "(J)V" } : Jvm.MethodName) prog_15_method_64_code (5 : Nat) (Option.none : Option Jvm.ClassFile.FieldType)) ∈ kz_TT := kz_g (kz_in7 (List.mem_of_getElem? (i := 149) rfl)) rfl
theorem wt_1590 : (Jvm.Cond.constantLong "StackAssemblerModel" (479 : Nat) (127 : Int64)) ∈ kz_TT := kz_g (kz_in7 (List.mem_of_getElem? (i := 150) rfl)) rfl
theorem wt_1591 : (Jvm.Cond.methodLink "StackAssemblerModel" (500 : Nat) ({ cls := "StackAssemblerModel", name := "typeByte", desc := "(I)I" } : Jvm.MethodName)) ∈ kz_TT := kz_g (kz_in7 (List.mem_of_getElem? (i := 151) rfl)) rfl
theorem wt_1592 : (Jvm.Cond.static ({ cls := "StackAssemblerModel", name := "typeByte", desc := "(I)I" } : Jvm.MethodName)) ∈ kz_TT := kz_g (kz_in7 (List.mem_of_getElem? (i := 152) rfl)) rfl
theorem wt_1593 : (Jvm.Cond.code ({ cls := "StackAssemblerModel", name := "typeByte", desc := "(I)I" } : Jvm.MethodName) prog_15_method_66_code (1 : Nat) (Option.some Jvm.ClassFile.FieldType.int)) ∈ kz_TT := kz_g (kz_in7 (List.mem_of_getElem? (i := 153) rfl)) rfl
theorem wt_1594 : (Jvm.Cond.methodLink "StackAssemblerModel" (503 : Nat) ({ cls := "StackAssemblerModel", name := "close", desc := "(I)V" } : Jvm.MethodName)) ∈ kz_TT := kz_g (kz_in7 (List.mem_of_getElem? (i := 154) rfl)) rfl
theorem wt_1596 : (Jvm.Cond.instanceMethod ({ cls := "StackAssemblerModel", name := "close", desc := "(I)V" } : Jvm.MethodName)) ∈ kz_TT := kz_g (kz_in7 (List.mem_of_getElem? (i := 156) rfl)) rfl
theorem wt_1597 : (Jvm.Cond.code ({ cls := "StackAssemblerModel", name := "close", desc := "(I)V" } : Jvm.MethodName) prog_15_method_67_code (5 : Nat) (Option.none : Option Jvm.ClassFile.FieldType)) ∈ kz_TT := kz_g (kz_in7 (List.mem_of_getElem? (i := 157) rfl)) rfl
theorem wt_1598 : (Jvm.Cond.methodLink "StackAssemblerModel" (521 : Nat) ({ cls := "StackAssemblerModel", name := "functionSection", desc := "()V" } : Jvm.MethodName)) ∈ kz_TT := kz_g (kz_in7 (List.mem_of_getElem? (i := 158) rfl)) rfl
theorem wt_1600 : (Jvm.Cond.instanceMethod ({ cls := "StackAssemblerModel", name := "functionSection", desc := "()V" } : Jvm.MethodName)) ∈ kz_TT := kz_g (kz_in7 (List.mem_of_getElem? (i := 160) rfl)) rfl
theorem wt_1601 : (Jvm.Cond.code ({ cls := "StackAssemblerModel", name := "functionSection", desc := "()V" } : Jvm.MethodName) prog_15_method_72_code (3 : Nat) (Option.none : Option Jvm.ClassFile.FieldType)) ∈ kz_TT := kz_g (kz_in7 (List.mem_of_getElem? (i := 161) rfl)) rfl
theorem wt_1602 : (Jvm.Cond.methodLink "StackAssemblerModel" (524 : Nat) ({ cls := "StackAssemblerModel", name := "codeSection", desc := "()V" } : Jvm.MethodName)) ∈ kz_TT := kz_g (kz_in7 (List.mem_of_getElem? (i := 162) rfl)) rfl
theorem wt_1604 : (Jvm.Cond.instanceMethod ({ cls := "StackAssemblerModel", name := "codeSection", desc := "()V" } : Jvm.MethodName)) ∈ kz_TT := kz_g (kz_in7 (List.mem_of_getElem? (i := 164) rfl)) rfl
theorem wt_1605 : (Jvm.Cond.code ({ cls := "StackAssemblerModel", name := "codeSection", desc := "()V" } : Jvm.MethodName) prog_15_method_76_code (5 : Nat) (Option.none : Option Jvm.ClassFile.FieldType)) ∈ kz_TT := kz_g (kz_in7 (List.mem_of_getElem? (i := 165) rfl)) rfl
theorem wt_1606 : (Jvm.Cond.methodLink "StackAssemblerModel" (512 : Nat) ({ cls := "StackAssemblerModel", name := "runs", desc := "(I)V" } : Jvm.MethodName)) ∈ kz_TT := kz_g (kz_in7 (List.mem_of_getElem? (i := 166) rfl)) rfl
theorem wt_1608 : (Jvm.Cond.instanceMethod ({ cls := "StackAssemblerModel", name := "runs", desc := "(I)V" } : Jvm.MethodName)) ∈ kz_TT := kz_g (kz_in7 (List.mem_of_getElem? (i := 168) rfl)) rfl
theorem wt_1609 : (Jvm.Cond.code ({ cls := "StackAssemblerModel", name := "runs", desc := "(I)V" } : Jvm.MethodName) prog_15_method_74_code (5 : Nat) (Option.none : Option Jvm.ClassFile.FieldType)) ∈ kz_TT := kz_g (kz_in7 (List.mem_of_getElem? (i := 169) rfl)) rfl
theorem wt_1610 : (Jvm.Cond.methodLink "StackAssemblerModel" (506 : Nat) ({ cls := "StackAssemblerModel", name := "runBegins", desc := "(II)Z" } : Jvm.MethodName)) ∈ kz_TT := kz_g (kz_in7 (List.mem_of_getElem? (i := 170) rfl)) rfl
theorem wt_1612 : (Jvm.Cond.instanceMethod ({ cls := "StackAssemblerModel", name := "runBegins", desc := "(II)Z" } : Jvm.MethodName)) ∈ kz_TT := kz_g (kz_in7 (List.mem_of_getElem? (i := 172) rfl)) rfl
theorem wt_1613 : (Jvm.Cond.code ({ cls := "StackAssemblerModel", name := "runBegins", desc := "(II)Z" } : Jvm.MethodName) prog_15_method_73_code (3 : Nat) (Option.some Jvm.ClassFile.FieldType.boolean)) ∈ kz_TT := kz_g (kz_in7 (List.mem_of_getElem? (i := 173) rfl)) rfl
theorem wt_1614 : (Jvm.Cond.methodLink "StackAssemblerModel" (515 : Nat) ({ cls := "StackAssemblerModel", name := "instructionBytes", desc := "(I)V" } : Jvm.MethodName)) ∈ kz_TT := kz_g (kz_in7 (List.mem_of_getElem? (i := 174) rfl)) rfl
theorem wt_1616 : (Jvm.Cond.instanceMethod ({ cls := "StackAssemblerModel", name := "instructionBytes", desc := "(I)V" } : Jvm.MethodName)) ∈ kz_TT := kz_g (kz_in7 (List.mem_of_getElem? (i := 176) rfl)) rfl
theorem wt_1617 : (Jvm.Cond.code ({ cls := "StackAssemblerModel", name := "instructionBytes", desc := "(I)V" } : Jvm.MethodName) prog_15_method_75_code (3 : Nat) (Option.none : Option Jvm.ClassFile.FieldType)) ∈ kz_TT := kz_g (kz_in7 (List.mem_of_getElem? (i := 177) rfl)) rfl
theorem wt_1618 : (Jvm.Cond.methodLink "StackAssemblerModel" (509 : Nat) ({ cls := "StackAssemblerModel", name := "signed", desc := "(J)V" } : Jvm.MethodName)) ∈ kz_TT := kz_g (kz_in7 (List.mem_of_getElem? (i := 178) rfl)) rfl
theorem wt_1620 : (Jvm.Cond.instanceMethod ({ cls := "StackAssemblerModel", name := "signed", desc := "(J)V" } : Jvm.MethodName)) ∈ kz_TT := kz_g (kz_in7 (List.mem_of_getElem? (i := 180) rfl)) rfl
theorem wt_1621 : (Jvm.Cond.code ({ cls := "StackAssemblerModel", name := "signed", desc := "(J)V" } : Jvm.MethodName) prog_15_method_65_code (5 : Nat) (Option.none : Option Jvm.ClassFile.FieldType)) ∈ kz_TT := kz_g (kz_in7 (List.mem_of_getElem? (i := 181) rfl)) rfl
theorem wt_1622 : (Jvm.Cond.constantLong "StackAssemblerModel" (484 : Nat) (63 : Int64)) ∈ kz_TT := kz_g (kz_in7 (List.mem_of_getElem? (i := 182) rfl)) rfl
theorem wt_1623 : (Jvm.Cond.constantLong "StackAssemblerModel" (486 : Nat) (-64 : Int64)) ∈ kz_TT := kz_g (kz_in7 (List.mem_of_getElem? (i := 183) rfl)) rfl
theorem wt_1625 : (Jvm.Cond.instanceMethod ({ cls := "StackAssemblerModel", name := "octet", desc := "(I)I" } : Jvm.MethodName)) ∈ kz_TT := kz_g (kz_in7 (List.mem_of_getElem? (i := 185) rfl)) rfl
theorem wt_1626 : (Jvm.Cond.selects "StackAssemblerModel" ({ cls := "StackAssemblerModel", name := "octet", desc := "(I)I" } : Jvm.MethodName) ({ cls := "StackAssemblerModel", name := "octet", desc := "(I)I" } : Jvm.MethodName)) ∈ kz_TT := kz_g (kz_in7 (List.mem_of_getElem? (i := 186) rfl)) rfl
theorem wt_1627 : (Jvm.Cond.code ({ cls := "StackAssemblerModel", name := "octet", desc := "(I)I" } : Jvm.MethodName) prog_15_method_78_code (2 : Nat) (Option.some Jvm.ClassFile.FieldType.int)) ∈ kz_TT := kz_g (kz_in7 (List.mem_of_getElem? (i := 187) rfl)) rfl
theorem wt_1629 : (Jvm.Cond.instanceMethod ({ cls := "StackAssemblerModel", name := "print", desc := "()I" } : Jvm.MethodName)) ∈ kz_TT := kz_g (kz_in7 (List.mem_of_getElem? (i := 189) rfl)) rfl
theorem wt_1630 : (Jvm.Cond.selects "StackAssemblerModel" ({ cls := "StackAssemblerModel", name := "print", desc := "()I" } : Jvm.MethodName) ({ cls := "StackAssemblerModel", name := "print", desc := "()I" } : Jvm.MethodName)) ∈ kz_TT := kz_g (kz_in7 (List.mem_of_getElem? (i := 190) rfl)) rfl
theorem wt_1631 : (Jvm.Cond.code ({ cls := "StackAssemblerModel", name := "print", desc := "()I" } : Jvm.MethodName) prog_15_method_86_code (3 : Nat) (Option.some Jvm.ClassFile.FieldType.int)) ∈ kz_TT := kz_g (kz_in7 (List.mem_of_getElem? (i := 191) rfl)) rfl
theorem wt_1632 : (Jvm.Cond.methodLink "StackAssemblerModel" (533 : Nat) ({ cls := "StackAssemblerModel", name := "out", desc := "(I)V" } : Jvm.MethodName)) ∈ kz_TT := kz_g (kz_in7 (List.mem_of_getElem? (i := 192) rfl)) rfl
theorem wt_1634 : (Jvm.Cond.instanceMethod ({ cls := "StackAssemblerModel", name := "out", desc := "(I)V" } : Jvm.MethodName)) ∈ kz_TT := kz_g (kz_in7 (List.mem_of_getElem? (i := 194) rfl)) rfl
theorem wt_1635 : (Jvm.Cond.code ({ cls := "StackAssemblerModel", name := "out", desc := "(I)V" } : Jvm.MethodName) prog_15_method_79_code (2 : Nat) (Option.none : Option Jvm.ClassFile.FieldType)) ∈ kz_TT := kz_g (kz_in7 (List.mem_of_getElem? (i := 195) rfl)) rfl
theorem wt_1636 : (Jvm.Cond.methodLink "StackAssemblerModel" (540 : Nat) ({ cls := "StackAssemblerModel", name := "outLong", desc := "(J)V" } : Jvm.MethodName)) ∈ kz_TT := kz_g (kz_in7 (List.mem_of_getElem? (i := 196) rfl)) rfl
theorem wt_1638 : (Jvm.Cond.instanceMethod ({ cls := "StackAssemblerModel", name := "outLong", desc := "(J)V" } : Jvm.MethodName)) ∈ kz_TT := kz_g (kz_in7 (List.mem_of_getElem? (i := 198) rfl)) rfl
theorem wt_1639 : (Jvm.Cond.code ({ cls := "StackAssemblerModel", name := "outLong", desc := "(J)V" } : Jvm.MethodName) prog_15_method_80_code (5 : Nat) (Option.none : Option Jvm.ClassFile.FieldType)) ∈ kz_TT := kz_g (kz_in7 (List.mem_of_getElem? (i := 199) rfl)) rfl
theorem wt_1640 : (Jvm.Cond.methodLink "StackAssemblerModel" (552 : Nat) ({ cls := "StackAssemblerModel", name := "outRow", desc := "(JIII)V" } : Jvm.MethodName)) ∈ kz_TT := kz_g (kz_in7 (List.mem_of_getElem? (i := 200) rfl)) rfl
theorem wt_1642 : (Jvm.Cond.instanceMethod ({ cls := "StackAssemblerModel", name := "outRow", desc := "(JIII)V" } : Jvm.MethodName)) ∈ kz_TT := kz_g (kz_in7 (List.mem_of_getElem? (i := 202) rfl)) rfl
theorem wt_1643 : (Jvm.Cond.code ({ cls := "StackAssemblerModel", name := "outRow", desc := "(JIII)V" } : Jvm.MethodName) prog_15_method_83_code (7 : Nat) (Option.none : Option Jvm.ClassFile.FieldType)) ∈ kz_TT := kz_g (kz_in7 (List.mem_of_getElem? (i := 203) rfl)) rfl
theorem wt_1644 : (Jvm.Cond.methodLink "StackAssemblerModel" (543 : Nat) ({ cls := "StackAssemblerModel", name := "outType", desc := "(I)V" } : Jvm.MethodName)) ∈ kz_TT := kz_g (kz_in7 (List.mem_of_getElem? (i := 204) rfl)) rfl
theorem wt_1646 : (Jvm.Cond.instanceMethod ({ cls := "StackAssemblerModel", name := "outType", desc := "(I)V" } : Jvm.MethodName)) ∈ kz_TT := kz_g (kz_in7 (List.mem_of_getElem? (i := 206) rfl)) rfl
theorem wt_1647 : (Jvm.Cond.code ({ cls := "StackAssemblerModel", name := "outType", desc := "(I)V" } : Jvm.MethodName) prog_15_method_82_code (2 : Nat) (Option.none : Option Jvm.ClassFile.FieldType)) ∈ kz_TT := kz_g (kz_in7 (List.mem_of_getElem? (i := 207) rfl)) rfl
theorem wt_1648 : (Jvm.Cond.methodLink "StackAssemblerModel" (549 : Nat) ({ cls := "StackAssemblerModel", name := "outResult", desc := "(I)V" } : Jvm.MethodName)) ∈ kz_TT := kz_g (kz_in7 (List.mem_of_getElem? (i := 208) rfl)) rfl
theorem wt_1650 : (Jvm.Cond.instanceMethod ({ cls := "StackAssemblerModel", name := "outResult", desc := "(I)V" } : Jvm.MethodName)) ∈ kz_TT := kz_g (kz_in7 (List.mem_of_getElem? (i := 210) rfl)) rfl
theorem wt_1651 : (Jvm.Cond.code ({ cls := "StackAssemblerModel", name := "outResult", desc := "(I)V" } : Jvm.MethodName) prog_15_method_85_code (2 : Nat) (Option.none : Option Jvm.ClassFile.FieldType)) ∈ kz_TT := kz_g (kz_in7 (List.mem_of_getElem? (i := 211) rfl)) rfl
theorem wt_1652 : (Jvm.Cond.methodLink "StackAssemblerModel" (556 : Nat) ({ cls := "StackAssemblerModel", name := "outInstruction", desc := "(I)V" } : Jvm.MethodName)) ∈ kz_TT := kz_g (kz_in7 (List.mem_of_getElem? (i := 212) rfl)) rfl
theorem wt_1654 : (Jvm.Cond.instanceMethod ({ cls := "StackAssemblerModel", name := "outInstruction", desc := "(I)V" } : Jvm.MethodName)) ∈ kz_TT := kz_g (kz_in7 (List.mem_of_getElem? (i := 214) rfl)) rfl
theorem wt_1655 : (Jvm.Cond.code ({ cls := "StackAssemblerModel", name := "outInstruction", desc := "(I)V" } : Jvm.MethodName) prog_15_method_84_code (5 : Nat) (Option.none : Option Jvm.ClassFile.FieldType)) ∈ kz_TT := kz_g (kz_in7 (List.mem_of_getElem? (i := 215) rfl)) rfl
theorem wt_1656 : (Jvm.Cond.methodLink "StackAssemblerModel" (546 : Nat) ({ cls := "StackAssemblerModel", name := "outNumber", desc := "(J)V" } : Jvm.MethodName)) ∈ kz_TT := kz_g (kz_in7 (List.mem_of_getElem? (i := 216) rfl)) rfl
theorem wt_1658 : (Jvm.Cond.instanceMethod ({ cls := "StackAssemblerModel", name := "outNumber", desc := "(J)V" } : Jvm.MethodName)) ∈ kz_TT := kz_g (kz_in7 (List.mem_of_getElem? (i := 218) rfl)) rfl
theorem wt_1659 : (Jvm.Cond.code ({ cls := "StackAssemblerModel", name := "outNumber", desc := "(J)V" } : Jvm.MethodName) prog_15_method_81_code (9 : Nat) (Option.none : Option Jvm.ClassFile.FieldType)) ∈ kz_TT := kz_g (kz_in7 (List.mem_of_getElem? (i := 219) rfl)) rfl
theorem wt_1660 : (Jvm.Cond.constantLong "StackAssemblerModel" (536 : Nat) (9 : Int64)) ∈ kz_TT := kz_g (kz_in7 (List.mem_of_getElem? (i := 220) rfl)) rfl
theorem wt_1661 : (Jvm.Cond.constantLong "StackAssemblerModel" (538 : Nat) (-9 : Int64)) ∈ kz_TT := kz_g (kz_in7 (List.mem_of_getElem? (i := 221) rfl)) rfl
theorem wt_1663 : (Jvm.Cond.instanceMethod ({ cls := "StackAssemblerModel", name := "place", desc := "()I" } : Jvm.MethodName)) ∈ kz_TT := kz_g (kz_in7 (List.mem_of_getElem? (i := 223) rfl)) rfl
theorem wt_1664 : (Jvm.Cond.selects "StackAssemblerModel" ({ cls := "StackAssemblerModel", name := "place", desc := "()I" } : Jvm.MethodName) ({ cls := "StackAssemblerModel", name := "place", desc := "()I" } : Jvm.MethodName)) ∈ kz_TT := kz_g (kz_in7 (List.mem_of_getElem? (i := 224) rfl)) rfl
theorem wt_1665 : (Jvm.Cond.code ({ cls := "StackAssemblerModel", name := "place", desc := "()I" } : Jvm.MethodName) prog_15_method_87_code (1 : Nat) (Option.some Jvm.ClassFile.FieldType.int)) ∈ kz_TT := kz_g (kz_in7 (List.mem_of_getElem? (i := 225) rfl)) rfl
theorem wt_1667 : (Jvm.Cond.instanceMethod ({ cls := "StackAssemblerModel", name := "functions", desc := "()I" } : Jvm.MethodName)) ∈ kz_TT := kz_g (kz_in7 (List.mem_of_getElem? (i := 227) rfl)) rfl
theorem wt_1668 : (Jvm.Cond.selects "StackAssemblerModel" ({ cls := "StackAssemblerModel", name := "functions", desc := "()I" } : Jvm.MethodName) ({ cls := "StackAssemblerModel", name := "functions", desc := "()I" } : Jvm.MethodName)) ∈ kz_TT := kz_g (kz_in7 (List.mem_of_getElem? (i := 228) rfl)) rfl
theorem wt_1669 : (Jvm.Cond.code ({ cls := "StackAssemblerModel", name := "functions", desc := "()I" } : Jvm.MethodName) prog_15_method_88_code (1 : Nat) (Option.some Jvm.ClassFile.FieldType.int)) ∈ kz_TT := kz_g (kz_in7 (List.mem_of_getElem? (i := 229) rfl)) rfl
theorem wt_1671 : (Jvm.Cond.instanceMethod ({ cls := "StackAssemblerModel", name := "function", desc := "(II)I" } : Jvm.MethodName)) ∈ kz_TT := kz_g (kz_in7 (List.mem_of_getElem? (i := 231) rfl)) rfl
theorem wt_1672 : (Jvm.Cond.selects "StackAssemblerModel" ({ cls := "StackAssemblerModel", name := "function", desc := "(II)I" } : Jvm.MethodName) ({ cls := "StackAssemblerModel", name := "function", desc := "(II)I" } : Jvm.MethodName)) ∈ kz_TT := kz_g (kz_in7 (List.mem_of_getElem? (i := 232) rfl)) rfl
theorem wt_1673 : (Jvm.Cond.code ({ cls := "StackAssemblerModel", name := "function", desc := "(II)I" } : Jvm.MethodName) prog_15_method_90_code (3 : Nat) (Option.some Jvm.ClassFile.FieldType.int)) ∈ kz_TT := kz_g (kz_in7 (List.mem_of_getElem? (i := 233) rfl)) rfl
theorem wt_1674 : (Jvm.Cond.methodLink "StackAssemblerModel" (559 : Nat) ({ cls := "StackAssemblerModel", name := "isFunction", desc := "(I)Z" } : Jvm.MethodName)) ∈ kz_TT := kz_g (kz_in7 (List.mem_of_getElem? (i := 234) rfl)) rfl
theorem wt_1676 : (Jvm.Cond.instanceMethod ({ cls := "StackAssemblerModel", name := "isFunction", desc := "(I)Z" } : Jvm.MethodName)) ∈ kz_TT := kz_g (kz_in7 (List.mem_of_getElem? (i := 236) rfl)) rfl
theorem wt_1677 : (Jvm.Cond.code ({ cls := "StackAssemblerModel", name := "isFunction", desc := "(I)Z" } : Jvm.MethodName) prog_15_method_89_code (2 : Nat) (Option.some Jvm.ClassFile.FieldType.boolean)) ∈ kz_TT := kz_g (kz_in7 (List.mem_of_getElem? (i := 237) rfl)) rfl
theorem wt_1679 : (Jvm.Cond.instanceMethod ({ cls := "StackAssemblerModel", name := "instruction", desc := "(II)I" } : Jvm.MethodName)) ∈ kz_TT := kz_g (kz_in7 (List.mem_of_getElem? (i := 239) rfl)) rfl
theorem wt_1680 : (Jvm.Cond.selects "StackAssemblerModel" ({ cls := "StackAssemblerModel", name := "instruction", desc := "(II)I" } : Jvm.MethodName) ({ cls := "StackAssemblerModel", name := "instruction", desc := "(II)I" } : Jvm.MethodName)) ∈ kz_TT := kz_g (kz_in8 (List.mem_of_getElem? (i := 0) rfl)) rfl
theorem wt_1681 : (Jvm.Cond.code ({ cls := "StackAssemblerModel", name := "instruction", desc := "(II)I" } : Jvm.MethodName) prog_15_method_92_code (3 : Nat) (Option.some Jvm.ClassFile.FieldType.int)) ∈ kz_TT := kz_g (kz_in8 (List.mem_of_getElem? (i := 1) rfl)) rfl
theorem wt_1682 : (Jvm.Cond.methodLink "StackAssemblerModel" (562 : Nat) ({ cls := "StackAssemblerModel", name := "isInstruction", desc := "(II)Z" } : Jvm.MethodName)) ∈ kz_TT := kz_g (kz_in8 (List.mem_of_getElem? (i := 2) rfl)) rfl
theorem wt_1684 : (Jvm.Cond.instanceMethod ({ cls := "StackAssemblerModel", name := "isInstruction", desc := "(II)Z" } : Jvm.MethodName)) ∈ kz_TT := kz_g (kz_in8 (List.mem_of_getElem? (i := 4) rfl)) rfl
theorem wt_1685 : (Jvm.Cond.code ({ cls := "StackAssemblerModel", name := "isInstruction", desc := "(II)Z" } : Jvm.MethodName) prog_15_method_91_code (3 : Nat) (Option.some Jvm.ClassFile.FieldType.boolean)) ∈ kz_TT := kz_g (kz_in8 (List.mem_of_getElem? (i := 5) rfl)) rfl
theorem wt_1687 : (Jvm.Cond.instanceMethod ({ cls := "StackAssemblerModel", name := "immediate", desc := "(II)J" } : Jvm.MethodName)) ∈ kz_TT := kz_g (kz_in8 (List.mem_of_getElem? (i := 7) rfl)) rfl
theorem wt_1688 : (Jvm.Cond.selects "StackAssemblerModel" ({ cls := "StackAssemblerModel", name := "immediate", desc := "(II)J" } : Jvm.MethodName) ({ cls := "StackAssemblerModel", name := "immediate", desc := "(II)J" } : Jvm.MethodName)) ∈ kz_TT := kz_g (kz_in8 (List.mem_of_getElem? (i := 8) rfl)) rfl
theorem wt_1689 : (Jvm.Cond.code ({ cls := "StackAssemblerModel", name := "immediate", desc := "(II)J" } : Jvm.MethodName) prog_15_method_93_code (3 : Nat) (Option.some Jvm.ClassFile.FieldType.long)) ∈ kz_TT := kz_g (kz_in8 (List.mem_of_getElem? (i := 9) rfl)) rfl
theorem wt_1692 : (Jvm.Cond.fieldLink "StackAssembler$Scanner" (84 : Nat) "StackAssembler$Op" "word" "Ljava/lang/String;") ∈ kz_TT := kz_g (kz_in8 (List.mem_of_getElem? (i := 12) rfl)) rfl
theorem wt_1693 : (Jvm.Cond.fieldLink "java/lang/String" (9 : Nat) "java/lang/String" "value" "[B") ∈ kz_TT := kz_g (kz_in8 (List.mem_of_getElem? (i := 13) rfl)) rfl
theorem wt_1694 : (Jvm.Cond.fieldLink "java/lang/String" (15 : Nat) "java/lang/String" "coder" "B") ∈ kz_TT := kz_g (kz_in8 (List.mem_of_getElem? (i := 14) rfl)) rfl
theorem wt_1695 : (Jvm.Cond.fieldLink "StackAssembler$Reader" (257 : Nat) "StackAssembler$Op" "operand" "I") ∈ kz_TT := kz_g (kz_in8 (List.mem_of_getElem? (i := 15) rfl)) rfl
theorem wt_1696 : (Jvm.Cond.fieldLink "StackAssembler$Op" (126 : Nat) "StackAssembler$Op" "operand" "I") ∈ kz_TT := kz_g (kz_in8 (List.mem_of_getElem? (i := 16) rfl)) rfl
theorem wt_1697 : (Jvm.Cond.fieldLink "java/lang/Enum" (7 : Nat) "java/lang/Enum" "ordinal" "I") ∈ kz_TT := kz_g (kz_in8 (List.mem_of_getElem? (i := 17) rfl)) rfl
theorem wt_1698 : (Jvm.Cond.fieldLink "StackAssembler$Checker" (139 : Nat) "StackAssembler$Op" "takes" "I") ∈ kz_TT := kz_g (kz_in8 (List.mem_of_getElem? (i := 18) rfl)) rfl
theorem wt_1699 : (Jvm.Cond.fieldLink "StackAssembler$Checker" (142 : Nat) "StackAssembler$Op" "taken" "I") ∈ kz_TT := kz_g (kz_in8 (List.mem_of_getElem? (i := 19) rfl)) rfl
theorem wt_1700 : (Jvm.Cond.fieldLink "StackAssembler$Checker" (145 : Nat) "StackAssembler$Op" "puts" "I") ∈ kz_TT := kz_g (kz_in8 (List.mem_of_getElem? (i := 20) rfl)) rfl
theorem wt_1701 : (Jvm.Cond.fieldLink "StackAssembler$Encoder" (97 : Nat) "StackAssembler$Op" "code" "I") ∈ kz_TT := kz_g (kz_in8 (List.mem_of_getElem? (i := 21) rfl)) rfl
theorem wt_1702 : (Jvm.Cond.fieldLink "StackAssembler$Encoder" (122 : Nat) "StackAssembler$Op" "operand" "I") ∈ kz_TT := kz_g (kz_in8 (List.mem_of_getElem? (i := 22) rfl)) rfl
theorem wt_1703 : (Jvm.Cond.fieldLink "StackAssembler$Printer" (104 : Nat) "StackAssembler$Op" "word" "Ljava/lang/String;") ∈ kz_TT := kz_g (kz_in8 (List.mem_of_getElem? (i := 23) rfl)) rfl
theorem wt_1704 : (Jvm.Cond.fieldLink "StackAssembler" (161 : Nat) "StackAssembler$Op" "code" "I") ∈ kz_TT := kz_g (kz_in8 (List.mem_of_getElem? (i := 24) rfl)) rfl
theorem wn_38 : (Jvm.Cond.methodLinkNest "StackAssembler" (9 : Nat) ({ cls := "StackAssembler$Text", name := "<init>", desc := "()V" } : Jvm.MethodName) "StackAssembler") ∈ kz_NT := kz_q (kz_in1 (List.mem_of_getElem? (i := 38) rfl)) rfl
theorem wn_64 : (Jvm.Cond.methodLinkNest "StackAssembler$Module" (27 : Nat) ({ cls := "StackAssembler$Function", name := "<init>", desc := "()V" } : Jvm.MethodName) "StackAssembler") ∈ kz_NT := kz_q (kz_in1 (List.mem_of_getElem? (i := 64) rfl)) rfl
theorem wn_191 : (Jvm.Cond.methodLinkNest "StackAssembler$Reader" (37 : Nat) ({ cls := "StackAssembler$Level", name := "<init>", desc := "()V" } : Jvm.MethodName) "StackAssembler") ∈ kz_NT := kz_q (kz_in1 (List.mem_of_getElem? (i := 191) rfl)) rfl
theorem wn_268 : (Jvm.Cond.methodLinkNest "StackAssembler$Checker" (35 : Nat) ({ cls := "StackAssembler$Frame", name := "<init>", desc := "()V" } : Jvm.MethodName) "StackAssembler") ∈ kz_NT := kz_q (kz_in2 (List.mem_of_getElem? (i := 28) rfl)) rfl
theorem wn_321 : (Jvm.Cond.methodLinkNest "StackAssembler" (49 : Nat) ({ cls := "StackAssembler$Encoder", name := "<init>", desc := "()V" } : Jvm.MethodName) "StackAssembler") ∈ kz_NT := kz_q (kz_in2 (List.mem_of_getElem? (i := 81) rfl)) rfl
theorem wn_574 : (Jvm.Cond.fieldLinkNest "StackAssembler$Scanner" (78 : Nat) "StackAssembler$Op" "ALL" "[LStackAssembler$Op;" "StackAssembler") ∈ kz_NT := kz_q (kz_in3 (List.mem_of_getElem? (i := 94) rfl)) rfl
theorem wp_0 : Cond.selects "StackAssembler$Encoder" ⟨"StackAssembler$Encoder", "add", "(I)V"⟩ ⟨"StackAssembler$Encoder", "add", "(I)V"⟩ ∈ kz_TT := kz_s (q := (⟨"StackAssembler$Encoder", "add", "(I)V"⟩, 3)) (List.mem_append_left _ (List.mem_of_getElem? (i := 0) rfl)) rfl
theorem wp_1 : Cond.selects "StackAssembler$Encoder" ⟨"StackAssembler$Encoder", "addSignatures", "(LStackAssembler$Module;)V"⟩ ⟨"StackAssembler$Encoder", "addSignatures", "(LStackAssembler$Module;)V"⟩ ∈ kz_TT := kz_s (q := (⟨"StackAssembler$Encoder", "addSignatures", "(LStackAssembler$Module;)V"⟩, 3)) (List.mem_append_left _ (List.mem_of_getElem? (i := 1) rfl)) rfl
theorem wp_2 : Cond.selects "StackAssembler$Encoder" ⟨"StackAssembler$Encoder", "numberSignatures", "(LStackAssembler$Module;)I"⟩ ⟨"StackAssembler$Encoder", "numberSignatures", "(LStackAssembler$Module;)I"⟩ ∈ kz_TT := kz_s (q := (⟨"StackAssembler$Encoder", "numberSignatures", "(LStackAssembler$Module;)I"⟩, 3)) (List.mem_append_left _ (List.mem_of_getElem? (i := 2) rfl)) rfl
theorem wp_3 : Cond.selects "StackAssembler$Encoder" ⟨"StackAssembler$Encoder", "addUnsigned", "(J)V"⟩ ⟨"StackAssembler$Encoder", "addUnsigned", "(J)V"⟩ ∈ kz_TT := kz_s (q := (⟨"StackAssembler$Encoder", "addUnsigned", "(J)V"⟩, 3)) (List.mem_append_left _ (List.mem_of_getElem? (i := 3) rfl)) rfl
theorem wp_4 : Cond.selects "StackAssembler$Encoder" ⟨"StackAssembler$Encoder", "addSignature", "(LStackAssembler$Function;)V"⟩ ⟨"StackAssembler$Encoder", "addSignature", "(LStackAssembler$Function;)V"⟩ ∈ kz_TT := kz_s (q := (⟨"StackAssembler$Encoder", "addSignature", "(LStackAssembler$Function;)V"⟩, 3)) (List.mem_append_left _ (List.mem_of_getElem? (i := 4) rfl)) rfl
theorem wp_5 : Cond.selects "StackAssembler$Encoder" ⟨"StackAssembler$Encoder", "addType", "(I)V"⟩ ⟨"StackAssembler$Encoder", "addType", "(I)V"⟩ ∈ kz_TT := kz_s (q := (⟨"StackAssembler$Encoder", "addType", "(I)V"⟩, 3)) (List.mem_append_left _ (List.mem_of_getElem? (i := 5) rfl)) rfl
theorem wp_6 : Cond.selects "StackAssembler$Encoder" ⟨"StackAssembler$Encoder", "putSizeAhead", "(I)V"⟩ ⟨"StackAssembler$Encoder", "putSizeAhead", "(I)V"⟩ ∈ kz_TT := kz_s (q := (⟨"StackAssembler$Encoder", "putSizeAhead", "(I)V"⟩, 3)) (List.mem_append_left _ (List.mem_of_getElem? (i := 6) rfl)) rfl
theorem wp_7 : Cond.selects "StackAssembler$Encoder" ⟨"StackAssembler$Encoder", "addSignatureNumbers", "(LStackAssembler$Module;)V"⟩ ⟨"StackAssembler$Encoder", "addSignatureNumbers", "(LStackAssembler$Module;)V"⟩ ∈ kz_TT := kz_s (q := (⟨"StackAssembler$Encoder", "addSignatureNumbers", "(LStackAssembler$Module;)V"⟩, 3)) (List.mem_append_left _ (List.mem_of_getElem? (i := 7) rfl)) rfl
theorem wp_8 : Cond.selects "StackAssembler$Encoder" ⟨"StackAssembler$Encoder", "addBodies", "(LStackAssembler$Module;)V"⟩ ⟨"StackAssembler$Encoder", "addBodies", "(LStackAssembler$Module;)V"⟩ ∈ kz_TT := kz_s (q := (⟨"StackAssembler$Encoder", "addBodies", "(LStackAssembler$Module;)V"⟩, 3)) (List.mem_append_left _ (List.mem_of_getElem? (i := 8) rfl)) rfl
theorem wp_9 : Cond.selects "StackAssembler$Encoder" ⟨"StackAssembler$Encoder", "addBody", "(LStackAssembler$Module;LStackAssembler$Function;)V"⟩ ⟨"StackAssembler$Encoder", "addBody", "(LStackAssembler$Module;LStackAssembler$Function;)V"⟩ ∈ kz_TT := kz_s (q := (⟨"StackAssembler$Encoder", "addBody", "(LStackAssembler$Module;LStackAssembler$Function;)V"⟩, 3)) (List.mem_append_left _ (List.mem_of_getElem? (i := 9) rfl)) rfl
theorem wp_10 : Cond.selects "StackAssembler$Encoder" ⟨"StackAssembler$Encoder", "addRuns", "(LStackAssembler$Function;)V"⟩ ⟨"StackAssembler$Encoder", "addRuns", "(LStackAssembler$Function;)V"⟩ ∈ kz_TT := kz_s (q := (⟨"StackAssembler$Encoder", "addRuns", "(LStackAssembler$Function;)V"⟩, 3)) (List.mem_append_left _ (List.mem_of_getElem? (i := 10) rfl)) rfl
theorem wp_11 : Cond.selects "StackAssembler$Encoder" ⟨"StackAssembler$Encoder", "addOperand", "(LStackAssembler$Op;J)V"⟩ ⟨"StackAssembler$Encoder", "addOperand", "(LStackAssembler$Op;J)V"⟩ ∈ kz_TT := kz_s (q := (⟨"StackAssembler$Encoder", "addOperand", "(LStackAssembler$Op;J)V"⟩, 3)) (List.mem_append_left _ (List.mem_of_getElem? (i := 11) rfl)) rfl
theorem wp_12 : Cond.selects "StackAssembler$Encoder" ⟨"StackAssembler$Encoder", "addSigned", "(J)V"⟩ ⟨"StackAssembler$Encoder", "addSigned", "(J)V"⟩ ∈ kz_TT := kz_s (q := (⟨"StackAssembler$Encoder", "addSigned", "(J)V"⟩, 3)) (List.mem_append_left _ (List.mem_of_getElem? (i := 12) rfl)) rfl
theorem wp_13 : Cond.selects "StackAssembler$Scanner" ⟨"StackAssembler$Scanner", "behindGaps", "(I)I"⟩ ⟨"StackAssembler$Scanner", "behindGaps", "(I)I"⟩ ∈ kz_TT := kz_s (q := (⟨"StackAssembler$Scanner", "behindGaps", "(I)I"⟩, 6)) (List.mem_append_left _ (List.mem_of_getElem? (i := 13) rfl)) rfl
theorem wp_14 : Cond.selects "StackAssembler$Scanner" ⟨"StackAssembler$Scanner", "behindGap", "(I)I"⟩ ⟨"StackAssembler$Scanner", "behindGap", "(I)I"⟩ ∈ kz_TT := kz_s (q := (⟨"StackAssembler$Scanner", "behindGap", "(I)I"⟩, 6)) (List.mem_append_left _ (List.mem_of_getElem? (i := 14) rfl)) rfl
theorem wp_15 : Cond.selects "StackAssembler$Scanner" ⟨"StackAssembler$Scanner", "behindLine", "(I)I"⟩ ⟨"StackAssembler$Scanner", "behindLine", "(I)I"⟩ ∈ kz_TT := kz_s (q := (⟨"StackAssembler$Scanner", "behindLine", "(I)I"⟩, 6)) (List.mem_append_left _ (List.mem_of_getElem? (i := 15) rfl)) rfl
theorem wp_16 : Cond.selects "StackAssembler$Scanner" ⟨"StackAssembler$Scanner", "behindComment", "(I)I"⟩ ⟨"StackAssembler$Scanner", "behindComment", "(I)I"⟩ ∈ kz_TT := kz_s (q := (⟨"StackAssembler$Scanner", "behindComment", "(I)I"⟩, 6)) (List.mem_append_right _ (List.mem_append_left _ (List.mem_of_getElem? (i := 0) rfl))) rfl
theorem wp_17 : Cond.selects "StackAssembler$Scanner" ⟨"StackAssembler$Scanner", "behindWord", "(I)I"⟩ ⟨"StackAssembler$Scanner", "behindWord", "(I)I"⟩ ∈ kz_TT := kz_s (q := (⟨"StackAssembler$Scanner", "behindWord", "(I)I"⟩, 6)) (List.mem_append_right _ (List.mem_append_left _ (List.mem_of_getElem? (i := 1) rfl))) rfl
theorem wp_18 : Cond.selects "StackAssembler$Scanner" ⟨"StackAssembler$Scanner", "findOp", "()LStackAssembler$Op;"⟩ ⟨"StackAssembler$Scanner", "findOp", "()LStackAssembler$Op;"⟩ ∈ kz_TT := kz_s (q := (⟨"StackAssembler$Scanner", "findOp", "()LStackAssembler$Op;"⟩, 6)) (List.mem_append_right _ (List.mem_append_left _ (List.mem_of_getElem? (i := 2) rfl))) rfl
theorem wp_19 : Cond.selects "StackAssembler$Reader" ⟨"StackAssembler$Reader", "judge", "(LStackAssembler$Level;)I"⟩ ⟨"StackAssembler$Reader", "judge", "(LStackAssembler$Level;)I"⟩ ∈ kz_TT := kz_s (q := (⟨"StackAssembler$Reader", "judge", "(LStackAssembler$Level;)I"⟩, 10)) (List.mem_append_right _ (List.mem_append_left _ (List.mem_of_getElem? (i := 3) rfl))) rfl
theorem wp_20 : Cond.selects "StackAssembler$Reader" ⟨"StackAssembler$Reader", "inOperand", "(LStackAssembler$Level;)I"⟩ ⟨"StackAssembler$Reader", "inOperand", "(LStackAssembler$Level;)I"⟩ ∈ kz_TT := kz_s (q := (⟨"StackAssembler$Reader", "inOperand", "(LStackAssembler$Level;)I"⟩, 10)) (List.mem_append_right _ (List.mem_append_left _ (List.mem_of_getElem? (i := 4) rfl))) rfl
theorem wp_21 : Cond.selects "StackAssembler$Reader" ⟨"StackAssembler$Reader", "readOperand", "(I)Z"⟩ ⟨"StackAssembler$Reader", "readOperand", "(I)Z"⟩ ∈ kz_TT := kz_s (q := (⟨"StackAssembler$Reader", "readOperand", "(I)Z"⟩, 10)) (List.mem_append_right _ (List.mem_append_left _ (List.mem_of_getElem? (i := 5) rfl))) rfl
theorem wp_22 : Cond.selects "StackAssembler$Reader" ⟨"StackAssembler$Reader", "readNumber", "(JJ)Z"⟩ ⟨"StackAssembler$Reader", "readNumber", "(JJ)Z"⟩ ∈ kz_TT := kz_s (q := (⟨"StackAssembler$Reader", "readNumber", "(JJ)Z"⟩, 10)) (List.mem_append_right _ (List.mem_append_left _ (List.mem_of_getElem? (i := 6) rfl))) rfl
theorem wp_23 : Cond.selects "StackAssembler$Reader" ⟨"StackAssembler$Reader", "labelNamed", "()I"⟩ ⟨"StackAssembler$Reader", "labelNamed", "()I"⟩ ∈ kz_TT := kz_s (q := (⟨"StackAssembler$Reader", "labelNamed", "()I"⟩, 10)) (List.mem_append_right _ (List.mem_append_left _ (List.mem_of_getElem? (i := 7) rfl))) rfl
theorem wp_24 : Cond.selects "StackAssembler$Reader" ⟨"StackAssembler$Reader", "slotNamed", "()I"⟩ ⟨"StackAssembler$Reader", "slotNamed", "()I"⟩ ∈ kz_TT := kz_s (q := (⟨"StackAssembler$Reader", "slotNamed", "()I"⟩, 10)) (List.mem_append_right _ (List.mem_append_left _ (List.mem_of_getElem? (i := 8) rfl))) rfl
theorem wp_25 : Cond.selects "StackAssembler$Reader" ⟨"StackAssembler$Reader", "setLatestOperand", "(J)V"⟩ ⟨"StackAssembler$Reader", "setLatestOperand", "(J)V"⟩ ∈ kz_TT := kz_s (q := (⟨"StackAssembler$Reader", "setLatestOperand", "(J)V"⟩, 10)) (List.mem_append_right _ (List.mem_append_left _ (List.mem_of_getElem? (i := 9) rfl))) rfl
theorem wp_26 : Cond.selects "StackAssembler$Reader" ⟨"StackAssembler$Reader", "inText", "(LStackAssembler$Level;)I"⟩ ⟨"StackAssembler$Reader", "inText", "(LStackAssembler$Level;)I"⟩ ∈ kz_TT := kz_s (q := (⟨"StackAssembler$Reader", "inText", "(LStackAssembler$Level;)I"⟩, 10)) (List.mem_append_right _ (List.mem_append_left _ (List.mem_of_getElem? (i := 10) rfl))) rfl
theorem wp_27 : Cond.selects "StackAssembler$Reader" ⟨"StackAssembler$Reader", "open", "()I"⟩ ⟨"StackAssembler$Reader", "open", "()I"⟩ ∈ kz_TT := kz_s (q := (⟨"StackAssembler$Reader", "open", "()I"⟩, 10)) (List.mem_append_right _ (List.mem_append_left _ (List.mem_of_getElem? (i := 11) rfl))) rfl
theorem wp_28 : Cond.selects "StackAssembler$Reader" ⟨"StackAssembler$Reader", "push", "(I)Z"⟩ ⟨"StackAssembler$Reader", "push", "(I)Z"⟩ ∈ kz_TT := kz_s (q := (⟨"StackAssembler$Reader", "push", "(I)Z"⟩, 10)) (List.mem_append_right _ (List.mem_append_left _ (List.mem_of_getElem? (i := 12) rfl))) rfl
theorem wp_29 : Cond.selects "StackAssembler$Reader" ⟨"StackAssembler$Reader", "behindOpening", "(LStackAssembler$Level;)I"⟩ ⟨"StackAssembler$Reader", "behindOpening", "(LStackAssembler$Level;)I"⟩ ∈ kz_TT := kz_s (q := (⟨"StackAssembler$Reader", "behindOpening", "(LStackAssembler$Level;)I"⟩, 10)) (List.mem_append_right _ (List.mem_append_left _ (List.mem_of_getElem? (i := 13) rfl))) rfl
theorem wp_30 : Cond.selects "StackAssembler$Reader" ⟨"StackAssembler$Reader", "beginFunction", "(LStackAssembler$Level;)I"⟩ ⟨"StackAssembler$Reader", "beginFunction", "(LStackAssembler$Level;)I"⟩ ∈ kz_TT := kz_s (q := (⟨"StackAssembler$Reader", "beginFunction", "(LStackAssembler$Level;)I"⟩, 10)) (List.mem_append_right _ (List.mem_append_left _ (List.mem_of_getElem? (i := 14) rfl))) rfl
theorem wp_31 : Cond.selects "StackAssembler$Reader" ⟨"StackAssembler$Reader", "setFunctionName", "(I)V"⟩ ⟨"StackAssembler$Reader", "setFunctionName", "(I)V"⟩ ∈ kz_TT := kz_s (q := (⟨"StackAssembler$Reader", "setFunctionName", "(I)V"⟩, 10)) (List.mem_append_right _ (List.mem_append_left _ (List.mem_of_getElem? (i := 15) rfl))) rfl
theorem wp_32 : Cond.selects "StackAssembler$Reader" ⟨"StackAssembler$Reader", "beginFolded", "(LStackAssembler$Level;)I"⟩ ⟨"StackAssembler$Reader", "beginFolded", "(LStackAssembler$Level;)I"⟩ ∈ kz_TT := kz_s (q := (⟨"StackAssembler$Reader", "beginFolded", "(LStackAssembler$Level;)I"⟩, 10)) (List.mem_append_right _ (List.mem_append_right _ (List.mem_append_left _ (List.mem_of_getElem? (i := 0) rfl)))) rfl
theorem wp_33 : Cond.selects "StackAssembler$Reader" ⟨"StackAssembler$Reader", "beginPart", "(LStackAssembler$Level;LStackAssembler$Level;)I"⟩ ⟨"StackAssembler$Reader", "beginPart", "(LStackAssembler$Level;LStackAssembler$Level;)I"⟩ ∈ kz_TT := kz_s (q := (⟨"StackAssembler$Reader", "beginPart", "(LStackAssembler$Level;LStackAssembler$Level;)I"⟩, 10)) (List.mem_append_right _ (List.mem_append_right _ (List.mem_append_left _ (List.mem_of_getElem? (i := 1) rfl)))) rfl
theorem wp_34 : Cond.selects "StackAssembler$Reader" ⟨"StackAssembler$Reader", "inModule", "()I"⟩ ⟨"StackAssembler$Reader", "inModule", "()I"⟩ ∈ kz_TT := kz_s (q := (⟨"StackAssembler$Reader", "inModule", "()I"⟩, 10)) (List.mem_append_right _ (List.mem_append_right _ (List.mem_append_left _ (List.mem_of_getElem? (i := 2) rfl)))) rfl
theorem wp_35 : Cond.selects "StackAssembler$Reader" ⟨"StackAssembler$Reader", "close", "()I"⟩ ⟨"StackAssembler$Reader", "close", "()I"⟩ ∈ kz_TT := kz_s (q := (⟨"StackAssembler$Reader", "close", "()I"⟩, 10)) (List.mem_append_right _ (List.mem_append_right _ (List.mem_append_left _ (List.mem_of_getElem? (i := 3) rfl)))) rfl
theorem wp_36 : Cond.selects "StackAssembler$Reader" ⟨"StackAssembler$Reader", "inDeclaration", "(LStackAssembler$Level;)I"⟩ ⟨"StackAssembler$Reader", "inDeclaration", "(LStackAssembler$Level;)I"⟩ ∈ kz_TT := kz_s (q := (⟨"StackAssembler$Reader", "inDeclaration", "(LStackAssembler$Level;)I"⟩, 10)) (List.mem_append_right _ (List.mem_append_right _ (List.mem_append_left _ (List.mem_of_getElem? (i := 4) rfl)))) rfl
theorem wp_37 : Cond.selects "StackAssembler$Reader" ⟨"StackAssembler$Reader", "declare", "(LStackAssembler$Level;I)Z"⟩ ⟨"StackAssembler$Reader", "declare", "(LStackAssembler$Level;I)Z"⟩ ∈ kz_TT := kz_s (q := (⟨"StackAssembler$Reader", "declare", "(LStackAssembler$Level;I)Z"⟩, 10)) (List.mem_append_right _ (List.mem_append_right _ (List.mem_append_left _ (List.mem_of_getElem? (i := 5) rfl)))) rfl
theorem wp_38 : Cond.selects "StackAssembler$Reader" ⟨"StackAssembler$Reader", "inResult", "(LStackAssembler$Level;)I"⟩ ⟨"StackAssembler$Reader", "inResult", "(LStackAssembler$Level;)I"⟩ ∈ kz_TT := kz_s (q := (⟨"StackAssembler$Reader", "inResult", "(LStackAssembler$Level;)I"⟩, 10)) (List.mem_append_right _ (List.mem_append_right _ (List.mem_append_left _ (List.mem_of_getElem? (i := 6) rfl)))) rfl
theorem wp_39 : Cond.selects "StackAssembler$Reader" ⟨"StackAssembler$Reader", "setResult", "(I)V"⟩ ⟨"StackAssembler$Reader", "setResult", "(I)V"⟩ ∈ kz_TT := kz_s (q := (⟨"StackAssembler$Reader", "setResult", "(I)V"⟩, 10)) (List.mem_append_right _ (List.mem_append_right _ (List.mem_append_left _ (List.mem_of_getElem? (i := 7) rfl)))) rfl
theorem wp_40 : Cond.selects "StackAssembler$Reader" ⟨"StackAssembler$Reader", "inFolded", "(LStackAssembler$Level;)I"⟩ ⟨"StackAssembler$Reader", "inFolded", "(LStackAssembler$Level;)I"⟩ ∈ kz_TT := kz_s (q := (⟨"StackAssembler$Reader", "inFolded", "(LStackAssembler$Level;)I"⟩, 10)) (List.mem_append_right _ (List.mem_append_right _ (List.mem_append_left _ (List.mem_of_getElem? (i := 8) rfl)))) rfl
theorem wp_41 : Cond.selects "StackAssembler$Reader" ⟨"StackAssembler$Reader", "inBody", "(LStackAssembler$Level;)I"⟩ ⟨"StackAssembler$Reader", "inBody", "(LStackAssembler$Level;)I"⟩ ∈ kz_TT := kz_s (q := (⟨"StackAssembler$Reader", "inBody", "(LStackAssembler$Level;)I"⟩, 10)) (List.mem_append_right _ (List.mem_append_right _ (List.mem_append_left _ (List.mem_of_getElem? (i := 9) rfl)))) rfl
theorem wp_42 : Cond.selects "StackAssembler$Reader" ⟨"StackAssembler$Reader", "instructionIn", "(LStackAssembler$Level;)I"⟩ ⟨"StackAssembler$Reader", "instructionIn", "(LStackAssembler$Level;)I"⟩ ∈ kz_TT := kz_s (q := (⟨"StackAssembler$Reader", "instructionIn", "(LStackAssembler$Level;)I"⟩, 10)) (List.mem_append_right _ (List.mem_append_right _ (List.mem_append_left _ (List.mem_of_getElem? (i := 10) rfl)))) rfl
theorem wp_43 : Cond.selects "StackAssembler$Reader" ⟨"StackAssembler$Reader", "giveName", "(LStackAssembler$Level;)I"⟩ ⟨"StackAssembler$Reader", "giveName", "(LStackAssembler$Level;)I"⟩ ∈ kz_TT := kz_s (q := (⟨"StackAssembler$Reader", "giveName", "(LStackAssembler$Level;)I"⟩, 10)) (List.mem_append_right _ (List.mem_append_right _ (List.mem_append_left _ (List.mem_of_getElem? (i := 11) rfl)))) rfl
theorem wp_44 : Cond.selects "StackAssembler$Reader" ⟨"StackAssembler$Reader", "functionNamed", "(I)I"⟩ ⟨"StackAssembler$Reader", "functionNamed", "(I)I"⟩ ∈ kz_TT := kz_s (q := (⟨"StackAssembler$Reader", "functionNamed", "(I)I"⟩, 10)) (List.mem_append_right _ (List.mem_append_right _ (List.mem_append_left _ (List.mem_of_getElem? (i := 12) rfl)))) rfl
theorem wp_45 : Cond.selects "StackAssembler$Reader" ⟨"StackAssembler$Reader", "findFunctions", "()I"⟩ ⟨"StackAssembler$Reader", "findFunctions", "()I"⟩ ∈ kz_TT := kz_s (q := (⟨"StackAssembler$Reader", "findFunctions", "()I"⟩, 10)) (List.mem_append_right _ (List.mem_append_right _ (List.mem_append_left _ (List.mem_of_getElem? (i := 13) rfl)))) rfl
theorem wp_46 : Cond.selects "StackAssembler$Checker" ⟨"StackAssembler$Checker", "checkFunction", "()I"⟩ ⟨"StackAssembler$Checker", "checkFunction", "()I"⟩ ∈ kz_TT := kz_s (q := (⟨"StackAssembler$Checker", "checkFunction", "()I"⟩, 8)) (List.mem_append_right _ (List.mem_append_right _ (List.mem_append_left _ (List.mem_of_getElem? (i := 14) rfl)))) rfl
theorem wp_47 : Cond.selects "StackAssembler$Checker" ⟨"StackAssembler$Checker", "check", "(LStackAssembler$Op;J)V"⟩ ⟨"StackAssembler$Checker", "check", "(LStackAssembler$Op;J)V"⟩ ∈ kz_TT := kz_s (q := (⟨"StackAssembler$Checker", "check", "(LStackAssembler$Op;J)V"⟩, 8)) (List.mem_append_right _ (List.mem_append_right _ (List.mem_append_left _ (List.mem_of_getElem? (i := 15) rfl)))) rfl
theorem wp_48 : Cond.selects "StackAssembler$Checker" ⟨"StackAssembler$Checker", "beginFrame", "(LStackAssembler$Op;I)V"⟩ ⟨"StackAssembler$Checker", "beginFrame", "(LStackAssembler$Op;I)V"⟩ ∈ kz_TT := kz_s (q := (⟨"StackAssembler$Checker", "beginFrame", "(LStackAssembler$Op;I)V"⟩, 8)) (List.mem_append_right _ (List.mem_append_right _ (List.mem_append_right _ (List.mem_append_left _ (List.mem_of_getElem? (i := 0) rfl))))) rfl
theorem wp_49 : Cond.selects "StackAssembler$Checker" ⟨"StackAssembler$Checker", "take", "(I)I"⟩ ⟨"StackAssembler$Checker", "take", "(I)I"⟩ ∈ kz_TT := kz_s (q := (⟨"StackAssembler$Checker", "take", "(I)I"⟩, 8)) (List.mem_append_right _ (List.mem_append_right _ (List.mem_append_right _ (List.mem_append_left _ (List.mem_of_getElem? (i := 1) rfl))))) rfl
theorem wp_50 : Cond.selects "StackAssembler$Checker" ⟨"StackAssembler$Checker", "endFrame", "()V"⟩ ⟨"StackAssembler$Checker", "endFrame", "()V"⟩ ∈ kz_TT := kz_s (q := (⟨"StackAssembler$Checker", "endFrame", "()V"⟩, 8)) (List.mem_append_right _ (List.mem_append_right _ (List.mem_append_right _ (List.mem_append_left _ (List.mem_of_getElem? (i := 2) rfl))))) rfl
theorem wp_51 : Cond.selects "StackAssembler$Checker" ⟨"StackAssembler$Checker", "takeResult", "(I)V"⟩ ⟨"StackAssembler$Checker", "takeResult", "(I)V"⟩ ∈ kz_TT := kz_s (q := (⟨"StackAssembler$Checker", "takeResult", "(I)V"⟩, 8)) (List.mem_append_right _ (List.mem_append_right _ (List.mem_append_right _ (List.mem_append_left _ (List.mem_of_getElem? (i := 3) rfl))))) rfl
theorem wp_52 : Cond.selects "StackAssembler$Checker" ⟨"StackAssembler$Checker", "restartFrame", "()V"⟩ ⟨"StackAssembler$Checker", "restartFrame", "()V"⟩ ∈ kz_TT := kz_s (q := (⟨"StackAssembler$Checker", "restartFrame", "()V"⟩, 8)) (List.mem_append_right _ (List.mem_append_right _ (List.mem_append_right _ (List.mem_append_left _ (List.mem_of_getElem? (i := 4) rfl))))) rfl
theorem wp_53 : Cond.selects "StackAssembler$Checker" ⟨"StackAssembler$Checker", "leaveFrame", "()V"⟩ ⟨"StackAssembler$Checker", "leaveFrame", "()V"⟩ ∈ kz_TT := kz_s (q := (⟨"StackAssembler$Checker", "leaveFrame", "()V"⟩, 8)) (List.mem_append_right _ (List.mem_append_right _ (List.mem_append_right _ (List.mem_append_left _ (List.mem_of_getElem? (i := 5) rfl))))) rfl
theorem wp_54 : Cond.selects "StackAssembler$Checker" ⟨"StackAssembler$Checker", "put", "(I)V"⟩ ⟨"StackAssembler$Checker", "put", "(I)V"⟩ ∈ kz_TT := kz_s (q := (⟨"StackAssembler$Checker", "put", "(I)V"⟩, 8)) (List.mem_append_right _ (List.mem_append_right _ (List.mem_append_right _ (List.mem_append_left _ (List.mem_of_getElem? (i := 6) rfl))))) rfl
theorem wp_55 : Cond.selects "StackAssembler$Checker" ⟨"StackAssembler$Checker", "checkBranch", "(LStackAssembler$Op;J)V"⟩ ⟨"StackAssembler$Checker", "checkBranch", "(LStackAssembler$Op;J)V"⟩ ∈ kz_TT := kz_s (q := (⟨"StackAssembler$Checker", "checkBranch", "(LStackAssembler$Op;J)V"⟩, 8)) (List.mem_append_right _ (List.mem_append_right _ (List.mem_append_right _ (List.mem_append_left _ (List.mem_of_getElem? (i := 7) rfl))))) rfl
theorem wp_56 : Cond.selects "StackAssembler$Checker" ⟨"StackAssembler$Checker", "makeUnreachable", "()V"⟩ ⟨"StackAssembler$Checker", "makeUnreachable", "()V"⟩ ∈ kz_TT := kz_s (q := (⟨"StackAssembler$Checker", "makeUnreachable", "()V"⟩, 8)) (List.mem_append_right _ (List.mem_append_right _ (List.mem_append_right _ (List.mem_append_left _ (List.mem_of_getElem? (i := 8) rfl))))) rfl
theorem wp_57 : Cond.selects "StackAssembler$Checker" ⟨"StackAssembler$Checker", "checkCall", "(J)V"⟩ ⟨"StackAssembler$Checker", "checkCall", "(J)V"⟩ ∈ kz_TT := kz_s (q := (⟨"StackAssembler$Checker", "checkCall", "(J)V"⟩, 8)) (List.mem_append_right _ (List.mem_append_right _ (List.mem_append_right _ (List.mem_append_left _ (List.mem_of_getElem? (i := 9) rfl))))) rfl
theorem wp_58 : Cond.selects "StackAssembler$Checker" ⟨"StackAssembler$Checker", "checkSelect", "()V"⟩ ⟨"StackAssembler$Checker", "checkSelect", "()V"⟩ ∈ kz_TT := kz_s (q := (⟨"StackAssembler$Checker", "checkSelect", "()V"⟩, 8)) (List.mem_append_right _ (List.mem_append_right _ (List.mem_append_right _ (List.mem_append_left _ (List.mem_of_getElem? (i := 10) rfl))))) rfl
theorem wp_59 : Cond.selects "StackAssembler$Checker" ⟨"StackAssembler$Checker", "checkSlot", "(LStackAssembler$Op;J)V"⟩ ⟨"StackAssembler$Checker", "checkSlot", "(LStackAssembler$Op;J)V"⟩ ∈ kz_TT := kz_s (q := (⟨"StackAssembler$Checker", "checkSlot", "(LStackAssembler$Op;J)V"⟩, 8)) (List.mem_append_right _ (List.mem_append_right _ (List.mem_append_right _ (List.mem_append_left _ (List.mem_of_getElem? (i := 11) rfl))))) rfl
theorem wp_60 : Cond.selects "StackAssembler$Checker" ⟨"StackAssembler$Checker", "checkSimple", "(LStackAssembler$Op;)V"⟩ ⟨"StackAssembler$Checker", "checkSimple", "(LStackAssembler$Op;)V"⟩ ∈ kz_TT := kz_s (q := (⟨"StackAssembler$Checker", "checkSimple", "(LStackAssembler$Op;)V"⟩, 8)) (List.mem_append_right _ (List.mem_append_right _ (List.mem_append_right _ (List.mem_append_left _ (List.mem_of_getElem? (i := 12) rfl))))) rfl
theorem wp_62 : Cond.selects "StackAssembler$Printer" ⟨"StackAssembler$Printer", "writeFunction", "(LStackAssembler$Module;LStackAssembler$Function;)V"⟩ ⟨"StackAssembler$Printer", "writeFunction", "(LStackAssembler$Module;LStackAssembler$Function;)V"⟩ ∈ kz_TT := kz_s (q := (⟨"StackAssembler$Printer", "writeFunction", "(LStackAssembler$Module;LStackAssembler$Function;)V"⟩, 1)) (List.mem_append_right _ (List.mem_append_right _ (List.mem_append_right _ (List.mem_append_left _ (List.mem_of_getElem? (i := 14) rfl))))) rfl
theorem wp_63 : Cond.selects "StackAssembler$Printer" ⟨"StackAssembler$Printer", "writeSlots", "(Ljava/lang/String;LStackAssembler$Function;II)V"⟩ ⟨"StackAssembler$Printer", "writeSlots", "(Ljava/lang/String;LStackAssembler$Function;II)V"⟩ ∈ kz_TT := kz_s (q := (⟨"StackAssembler$Printer", "writeSlots", "(Ljava/lang/String;LStackAssembler$Function;II)V"⟩, 1)) (List.mem_append_right _ (List.mem_append_right _ (List.mem_append_right _ (List.mem_append_left _ (List.mem_of_getElem? (i := 15) rfl))))) rfl
theorem wp_64 : Cond.selects "StackAssembler$Printer" ⟨"StackAssembler$Printer", "writeType", "(I)V"⟩ ⟨"StackAssembler$Printer", "writeType", "(I)V"⟩ ∈ kz_TT := kz_s (q := (⟨"StackAssembler$Printer", "writeType", "(I)V"⟩, 1)) (List.mem_append_right _ (List.mem_append_right _ (List.mem_append_right _ (List.mem_append_right _ (List.mem_append_left _ (List.mem_of_getElem? (i := 0) rfl)))))) rfl
theorem wp_65 : Cond.selects "StackAssembler$Printer" ⟨"StackAssembler$Printer", "writeResult", "(I)V"⟩ ⟨"StackAssembler$Printer", "writeResult", "(I)V"⟩ ∈ kz_TT := kz_s (q := (⟨"StackAssembler$Printer", "writeResult", "(I)V"⟩, 1)) (List.mem_append_right _ (List.mem_append_right _ (List.mem_append_right _ (List.mem_append_right _ (List.mem_append_left _ (List.mem_of_getElem? (i := 1) rfl)))))) rfl
theorem wp_66 : Cond.selects "StackAssembler$Printer" ⟨"StackAssembler$Printer", "writeInstruction", "(LStackAssembler$Op;J)V"⟩ ⟨"StackAssembler$Printer", "writeInstruction", "(LStackAssembler$Op;J)V"⟩ ∈ kz_TT := kz_s (q := (⟨"StackAssembler$Printer", "writeInstruction", "(LStackAssembler$Op;J)V"⟩, 1)) (List.mem_append_right _ (List.mem_append_right _ (List.mem_append_right _ (List.mem_append_right _ (List.mem_append_left _ (List.mem_of_getElem? (i := 2) rfl)))))) rfl
theorem wp_67 : Cond.selects "StackAssemblerModel" ⟨"StackAssemblerModel", "readModule", "()Z"⟩ ⟨"StackAssemblerModel", "readModule", "()Z"⟩ ∈ kz_TT := kz_s (q := (⟨"StackAssemblerModel", "readModule", "()Z"⟩, 64)) (List.mem_append_right _ (List.mem_append_right _ (List.mem_append_right _ (List.mem_append_right _ (List.mem_append_left _ (List.mem_of_getElem? (i := 3) rfl)))))) rfl
theorem wp_68 : Cond.selects "StackAssemblerModel" ⟨"StackAssemblerModel", "next", "()V"⟩ ⟨"StackAssemblerModel", "next", "()V"⟩ ∈ kz_TT := kz_s (q := (⟨"StackAssemblerModel", "next", "()V"⟩, 64)) (List.mem_append_right _ (List.mem_append_right _ (List.mem_append_right _ (List.mem_append_right _ (List.mem_append_left _ (List.mem_of_getElem? (i := 4) rfl)))))) rfl
theorem wp_69 : Cond.selects "StackAssemblerModel" ⟨"StackAssemblerModel", "ch", "(I)I"⟩ ⟨"StackAssemblerModel", "ch", "(I)I"⟩ ∈ kz_TT := kz_s (q := (⟨"StackAssemblerModel", "ch", "(I)I"⟩, 64)) (List.mem_append_right _ (List.mem_append_right _ (List.mem_append_right _ (List.mem_append_right _ (List.mem_append_left _ (List.mem_of_getElem? (i := 5) rfl)))))) rfl
theorem wp_70 : Cond.selects "StackAssemblerModel" ⟨"StackAssemblerModel", "comment", "()Z"⟩ ⟨"StackAssemblerModel", "comment", "()Z"⟩ ∈ kz_TT := kz_s (q := (⟨"StackAssemblerModel", "comment", "()Z"⟩, 64)) (List.mem_append_right _ (List.mem_append_right _ (List.mem_append_right _ (List.mem_append_right _ (List.mem_append_left _ (List.mem_of_getElem? (i := 6) rfl)))))) rfl
theorem wp_71 : Cond.selects "StackAssemblerModel" ⟨"StackAssemblerModel", "readWord", "()V"⟩ ⟨"StackAssemblerModel", "readWord", "()V"⟩ ∈ kz_TT := kz_s (q := (⟨"StackAssemblerModel", "readWord", "()V"⟩, 64)) (List.mem_append_right _ (List.mem_append_right _ (List.mem_append_right _ (List.mem_append_right _ (List.mem_append_left _ (List.mem_of_getElem? (i := 7) rfl)))))) rfl
theorem wp_72 : Cond.selects "StackAssemblerModel" ⟨"StackAssemblerModel", "pass", "(I)Z"⟩ ⟨"StackAssemblerModel", "pass", "(I)Z"⟩ ∈ kz_TT := kz_s (q := (⟨"StackAssemblerModel", "pass", "(I)Z"⟩, 64)) (List.mem_append_right _ (List.mem_append_right _ (List.mem_append_right _ (List.mem_append_right _ (List.mem_append_left _ (List.mem_of_getElem? (i := 8) rfl)))))) rfl
theorem wp_73 : Cond.selects "StackAssemblerModel" ⟨"StackAssemblerModel", "fail", "(I)Z"⟩ ⟨"StackAssemblerModel", "fail", "(I)Z"⟩ ∈ kz_TT := kz_s (q := (⟨"StackAssemblerModel", "fail", "(I)Z"⟩, 64)) (List.mem_append_right _ (List.mem_append_right _ (List.mem_append_right _ (List.mem_append_right _ (List.mem_append_left _ (List.mem_of_getElem? (i := 9) rfl)))))) rfl
theorem wp_74 : Cond.selects "StackAssemblerModel" ⟨"StackAssemblerModel", "passWord", "(JI)Z"⟩ ⟨"StackAssemblerModel", "passWord", "(JI)Z"⟩ ∈ kz_TT := kz_s (q := (⟨"StackAssemblerModel", "passWord", "(JI)Z"⟩, 64)) (List.mem_append_right _ (List.mem_append_right _ (List.mem_append_right _ (List.mem_append_right _ (List.mem_append_left _ (List.mem_of_getElem? (i := 10) rfl)))))) rfl
theorem wp_75 : Cond.selects "StackAssemblerModel" ⟨"StackAssemblerModel", "is", "(JI)Z"⟩ ⟨"StackAssemblerModel", "is", "(JI)Z"⟩ ∈ kz_TT := kz_s (q := (⟨"StackAssemblerModel", "is", "(JI)Z"⟩, 64)) (List.mem_append_right _ (List.mem_append_right _ (List.mem_append_right _ (List.mem_append_right _ (List.mem_append_left _ (List.mem_of_getElem? (i := 11) rfl)))))) rfl
theorem wp_76 : Cond.selects "StackAssemblerModel" ⟨"StackAssemblerModel", "readFunction", "(I)Z"⟩ ⟨"StackAssemblerModel", "readFunction", "(I)Z"⟩ ∈ kz_TT := kz_s (q := (⟨"StackAssemblerModel", "readFunction", "(I)Z"⟩, 64)) (List.mem_append_right _ (List.mem_append_right _ (List.mem_append_right _ (List.mem_append_right _ (List.mem_append_left _ (List.mem_of_getElem? (i := 12) rfl)))))) rfl
theorem wp_77 : Cond.selects "StackAssemblerModel" ⟨"StackAssemblerModel", "isId", "()Z"⟩ ⟨"StackAssemblerModel", "isId", "()Z"⟩ ∈ kz_TT := kz_s (q := (⟨"StackAssemblerModel", "isId", "()Z"⟩, 64)) (List.mem_append_right _ (List.mem_append_right _ (List.mem_append_right _ (List.mem_append_right _ (List.mem_append_left _ (List.mem_of_getElem? (i := 13) rfl)))))) rfl
theorem wp_78 : Cond.selects "StackAssemblerModel" ⟨"StackAssemblerModel", "sameName", "(IIII)Z"⟩ ⟨"StackAssemblerModel", "sameName", "(IIII)Z"⟩ ∈ kz_TT := kz_s (q := (⟨"StackAssemblerModel", "sameName", "(IIII)Z"⟩, 64)) (List.mem_append_right _ (List.mem_append_right _ (List.mem_append_right _ (List.mem_append_right _ (List.mem_append_left _ (List.mem_of_getElem? (i := 14) rfl)))))) rfl
theorem wp_79 : Cond.selects "StackAssemblerModel" ⟨"StackAssemblerModel", "variables", "(IZ)Z"⟩ ⟨"StackAssemblerModel", "variables", "(IZ)Z"⟩ ∈ kz_TT := kz_s (q := (⟨"StackAssemblerModel", "variables", "(IZ)Z"⟩, 64)) (List.mem_append_right _ (List.mem_append_right _ (List.mem_append_right _ (List.mem_append_right _ (List.mem_append_left _ (List.mem_of_getElem? (i := 15) rfl)))))) rfl
theorem wp_80 : Cond.selects "StackAssemblerModel" ⟨"StackAssemblerModel", "variableOf", "(I)I"⟩ ⟨"StackAssemblerModel", "variableOf", "(I)I"⟩ ∈ kz_TT := kz_s (q := (⟨"StackAssemblerModel", "variableOf", "(I)I"⟩, 64)) (List.mem_append_right _ (List.mem_append_right _ (List.mem_append_right _ (List.mem_append_right _ (List.mem_append_right _ (List.mem_append_left _ (List.mem_of_getElem? (i := 0) rfl))))))) rfl
theorem wp_81 : Cond.selects "StackAssemblerModel" ⟨"StackAssemblerModel", "variable", "(IZII)Z"⟩ ⟨"StackAssemblerModel", "variable", "(IZII)Z"⟩ ∈ kz_TT := kz_s (q := (⟨"StackAssemblerModel", "variable", "(IZII)Z"⟩, 64)) (List.mem_append_right _ (List.mem_append_right _ (List.mem_append_right _ (List.mem_append_right _ (List.mem_append_right _ (List.mem_append_left _ (List.mem_of_getElem? (i := 1) rfl))))))) rfl
theorem wp_82 : Cond.selects "StackAssemblerModel" ⟨"StackAssemblerModel", "readType", "()I"⟩ ⟨"StackAssemblerModel", "readType", "()I"⟩ ∈ kz_TT := kz_s (q := (⟨"StackAssemblerModel", "readType", "()I"⟩, 64)) (List.mem_append_right _ (List.mem_append_right _ (List.mem_append_right _ (List.mem_append_right _ (List.mem_append_right _ (List.mem_append_left _ (List.mem_of_getElem? (i := 2) rfl))))))) rfl
theorem wp_83 : Cond.selects "StackAssemblerModel" ⟨"StackAssemblerModel", "body", "(IZ)Z"⟩ ⟨"StackAssemblerModel", "body", "(IZ)Z"⟩ ∈ kz_TT := kz_s (q := (⟨"StackAssemblerModel", "body", "(IZ)Z"⟩, 64)) (List.mem_append_right _ (List.mem_append_right _ (List.mem_append_right _ (List.mem_append_right _ (List.mem_append_right _ (List.mem_append_left _ (List.mem_of_getElem? (i := 3) rfl))))))) rfl
theorem wp_84 : Cond.selects "StackAssemblerModel" ⟨"StackAssemblerModel", "fold", "(I)Z"⟩ ⟨"StackAssemblerModel", "fold", "(I)Z"⟩ ∈ kz_TT := kz_s (q := (⟨"StackAssemblerModel", "fold", "(I)Z"⟩, 64)) (List.mem_append_right _ (List.mem_append_right _ (List.mem_append_right _ (List.mem_append_right _ (List.mem_append_right _ (List.mem_append_left _ (List.mem_of_getElem? (i := 4) rfl))))))) rfl
theorem wp_85 : Cond.selects "StackAssemblerModel" ⟨"StackAssemblerModel", "instructionWord", "()I"⟩ ⟨"StackAssemblerModel", "instructionWord", "()I"⟩ ∈ kz_TT := kz_s (q := (⟨"StackAssemblerModel", "instructionWord", "()I"⟩, 64)) (List.mem_append_right _ (List.mem_append_right _ (List.mem_append_right _ (List.mem_append_right _ (List.mem_append_right _ (List.mem_append_left _ (List.mem_of_getElem? (i := 5) rfl))))))) rfl
theorem wp_86 : Cond.selects "StackAssemblerModel" ⟨"StackAssemblerModel", "readImmediate", "(II)Z"⟩ ⟨"StackAssemblerModel", "readImmediate", "(II)Z"⟩ ∈ kz_TT := kz_s (q := (⟨"StackAssemblerModel", "readImmediate", "(II)Z"⟩, 64)) (List.mem_append_right _ (List.mem_append_right _ (List.mem_append_right _ (List.mem_append_right _ (List.mem_append_right _ (List.mem_append_left _ (List.mem_of_getElem? (i := 6) rfl))))))) rfl
theorem wp_87 : Cond.selects "StackAssemblerModel" ⟨"StackAssemblerModel", "constant", "(Z)Z"⟩ ⟨"StackAssemblerModel", "constant", "(Z)Z"⟩ ∈ kz_TT := kz_s (q := (⟨"StackAssemblerModel", "constant", "(Z)Z"⟩, 64)) (List.mem_append_right _ (List.mem_append_right _ (List.mem_append_right _ (List.mem_append_right _ (List.mem_append_right _ (List.mem_append_left _ (List.mem_of_getElem? (i := 7) rfl))))))) rfl
theorem wp_88 : Cond.selects "StackAssemblerModel" ⟨"StackAssemblerModel", "digits", "(I)Z"⟩ ⟨"StackAssemblerModel", "digits", "(I)Z"⟩ ∈ kz_TT := kz_s (q := (⟨"StackAssemblerModel", "digits", "(I)Z"⟩, 64)) (List.mem_append_right _ (List.mem_append_right _ (List.mem_append_right _ (List.mem_append_right _ (List.mem_append_right _ (List.mem_append_left _ (List.mem_of_getElem? (i := 8) rfl))))))) rfl
theorem wp_89 : Cond.selects "StackAssemblerModel" ⟨"StackAssemblerModel", "index", "(II)Z"⟩ ⟨"StackAssemblerModel", "index", "(II)Z"⟩ ∈ kz_TT := kz_s (q := (⟨"StackAssemblerModel", "index", "(II)Z"⟩, 64)) (List.mem_append_right _ (List.mem_append_right _ (List.mem_append_right _ (List.mem_append_right _ (List.mem_append_right _ (List.mem_append_left _ (List.mem_of_getElem? (i := 9) rfl))))))) rfl
theorem wp_90 : Cond.selects "StackAssemblerModel" ⟨"StackAssemblerModel", "labelOf", "()I"⟩ ⟨"StackAssemblerModel", "labelOf", "()I"⟩ ∈ kz_TT := kz_s (q := (⟨"StackAssemblerModel", "labelOf", "()I"⟩, 64)) (List.mem_append_right _ (List.mem_append_right _ (List.mem_append_right _ (List.mem_append_right _ (List.mem_append_right _ (List.mem_append_left _ (List.mem_of_getElem? (i := 10) rfl))))))) rfl
theorem wp_91 : Cond.selects "StackAssemblerModel" ⟨"StackAssemblerModel", "inFold", "(I)Z"⟩ ⟨"StackAssemblerModel", "inFold", "(I)Z"⟩ ∈ kz_TT := kz_s (q := (⟨"StackAssemblerModel", "inFold", "(I)Z"⟩, 64)) (List.mem_append_right _ (List.mem_append_right _ (List.mem_append_right _ (List.mem_append_right _ (List.mem_append_right _ (List.mem_append_left _ (List.mem_of_getElem? (i := 11) rfl))))))) rfl
theorem wp_92 : Cond.selects "StackAssemblerModel" ⟨"StackAssemblerModel", "open", "()Z"⟩ ⟨"StackAssemblerModel", "open", "()Z"⟩ ∈ kz_TT := kz_s (q := (⟨"StackAssemblerModel", "open", "()Z"⟩, 64)) (List.mem_append_right _ (List.mem_append_right _ (List.mem_append_right _ (List.mem_append_right _ (List.mem_append_right _ (List.mem_append_left _ (List.mem_of_getElem? (i := 12) rfl))))))) rfl
theorem wp_93 : Cond.selects "StackAssemblerModel" ⟨"StackAssemblerModel", "hasRoom", "()Z"⟩ ⟨"StackAssemblerModel", "hasRoom", "()Z"⟩ ∈ kz_TT := kz_s (q := (⟨"StackAssemblerModel", "hasRoom", "()Z"⟩, 64)) (List.mem_append_right _ (List.mem_append_right _ (List.mem_append_right _ (List.mem_append_right _ (List.mem_append_right _ (List.mem_append_left _ (List.mem_of_getElem? (i := 13) rfl))))))) rfl
theorem wp_94 : Cond.selects "StackAssemblerModel" ⟨"StackAssemblerModel", "emit", "(IJ)I"⟩ ⟨"StackAssemblerModel", "emit", "(IJ)I"⟩ ∈ kz_TT := kz_s (q := (⟨"StackAssemblerModel", "emit", "(IJ)I"⟩, 64)) (List.mem_append_right _ (List.mem_append_right _ (List.mem_append_right _ (List.mem_append_right _ (List.mem_append_right _ (List.mem_append_left _ (List.mem_of_getElem? (i := 14) rfl))))))) rfl
theorem wp_95 : Cond.selects "StackAssemblerModel" ⟨"StackAssemblerModel", "noteCall", "(II)V"⟩ ⟨"StackAssemblerModel", "noteCall", "(II)V"⟩ ∈ kz_TT := kz_s (q := (⟨"StackAssemblerModel", "noteCall", "(II)V"⟩, 64)) (List.mem_append_right _ (List.mem_append_right _ (List.mem_append_right _ (List.mem_append_right _ (List.mem_append_right _ (List.mem_append_left _ (List.mem_of_getElem? (i := 15) rfl))))))) rfl
theorem wp_96 : Cond.selects "StackAssemblerModel" ⟨"StackAssemblerModel", "readInstruction", "(I)Z"⟩ ⟨"StackAssemblerModel", "readInstruction", "(I)Z"⟩ ∈ kz_TT := kz_s (q := (⟨"StackAssemblerModel", "readInstruction", "(I)Z"⟩, 64)) (List.mem_append_right _ (List.mem_append_right _ (List.mem_append_right _ (List.mem_append_right _ (List.mem_append_right _ (List.mem_append_right _ (List.mem_append_left _ (List.mem_of_getElem? (i := 0) rfl)))))))) rfl
theorem wp_97 : Cond.selects "StackAssemblerModel" ⟨"StackAssemblerModel", "beginBlock", "(II)Z"⟩ ⟨"StackAssemblerModel", "beginBlock", "(II)Z"⟩ ∈ kz_TT := kz_s (q := (⟨"StackAssemblerModel", "beginBlock", "(II)Z"⟩, 64)) (List.mem_append_right _ (List.mem_append_right _ (List.mem_append_right _ (List.mem_append_right _ (List.mem_append_right _ (List.mem_append_right _ (List.mem_append_left _ (List.mem_of_getElem? (i := 1) rfl)))))))) rfl
theorem wp_98 : Cond.selects "StackAssemblerModel" ⟨"StackAssemblerModel", "turnBlock", "(I)Z"⟩ ⟨"StackAssemblerModel", "turnBlock", "(I)Z"⟩ ∈ kz_TT := kz_s (q := (⟨"StackAssemblerModel", "turnBlock", "(I)Z"⟩, 64)) (List.mem_append_right _ (List.mem_append_right _ (List.mem_append_right _ (List.mem_append_right _ (List.mem_append_right _ (List.mem_append_right _ (List.mem_append_left _ (List.mem_of_getElem? (i := 2) rfl)))))))) rfl
theorem wp_99 : Cond.selects "StackAssemblerModel" ⟨"StackAssemblerModel", "blockName", "(I)Z"⟩ ⟨"StackAssemblerModel", "blockName", "(I)Z"⟩ ∈ kz_TT := kz_s (q := (⟨"StackAssemblerModel", "blockName", "(I)Z"⟩, 64)) (List.mem_append_right _ (List.mem_append_right _ (List.mem_append_right _ (List.mem_append_right _ (List.mem_append_right _ (List.mem_append_right _ (List.mem_append_left _ (List.mem_of_getElem? (i := 3) rfl)))))))) rfl
theorem wp_100 : Cond.selects "StackAssemblerModel" ⟨"StackAssemblerModel", "resolve", "()Z"⟩ ⟨"StackAssemblerModel", "resolve", "()Z"⟩ ∈ kz_TT := kz_s (q := (⟨"StackAssemblerModel", "resolve", "()Z"⟩, 64)) (List.mem_append_right _ (List.mem_append_right _ (List.mem_append_right _ (List.mem_append_right _ (List.mem_append_right _ (List.mem_append_right _ (List.mem_append_left _ (List.mem_of_getElem? (i := 4) rfl)))))))) rfl
theorem wp_101 : Cond.selects "StackAssemblerModel" ⟨"StackAssemblerModel", "raise", "(I)I"⟩ ⟨"StackAssemblerModel", "raise", "(I)I"⟩ ∈ kz_TT := kz_s (q := (⟨"StackAssemblerModel", "raise", "(I)I"⟩, 64)) (List.mem_append_right _ (List.mem_append_right _ (List.mem_append_right _ (List.mem_append_right _ (List.mem_append_right _ (List.mem_append_right _ (List.mem_append_left _ (List.mem_of_getElem? (i := 5) rfl)))))))) rfl
theorem wp_102 : Cond.selects "StackAssemblerModel" ⟨"StackAssemblerModel", "isValid", "()Z"⟩ ⟨"StackAssemblerModel", "isValid", "()Z"⟩ ∈ kz_TT := kz_s (q := (⟨"StackAssemblerModel", "isValid", "()Z"⟩, 64)) (List.mem_append_right _ (List.mem_append_right _ (List.mem_append_right _ (List.mem_append_right _ (List.mem_append_right _ (List.mem_append_right _ (List.mem_append_left _ (List.mem_of_getElem? (i := 6) rfl)))))))) rfl
theorem wp_103 : Cond.selects "StackAssemblerModel" ⟨"StackAssemblerModel", "frame", "(III)V"⟩ ⟨"StackAssemblerModel", "frame", "(III)V"⟩ ∈ kz_TT := kz_s (q := (⟨"StackAssemblerModel", "frame", "(III)V"⟩, 64)) (List.mem_append_right _ (List.mem_append_right _ (List.mem_append_right _ (List.mem_append_right _ (List.mem_append_right _ (List.mem_append_right _ (List.mem_append_left _ (List.mem_of_getElem? (i := 7) rfl)))))))) rfl
theorem wp_104 : Cond.selects "StackAssemblerModel" ⟨"StackAssemblerModel", "endFrame", "()V"⟩ ⟨"StackAssemblerModel", "endFrame", "()V"⟩ ∈ kz_TT := kz_s (q := (⟨"StackAssemblerModel", "endFrame", "()V"⟩, 64)) (List.mem_append_right _ (List.mem_append_right _ (List.mem_append_right _ (List.mem_append_right _ (List.mem_append_right _ (List.mem_append_right _ (List.mem_append_left _ (List.mem_of_getElem? (i := 8) rfl)))))))) rfl
theorem wp_105 : Cond.selects "StackAssemblerModel" ⟨"StackAssemblerModel", "takeResult", "(I)V"⟩ ⟨"StackAssemblerModel", "takeResult", "(I)V"⟩ ∈ kz_TT := kz_s (q := (⟨"StackAssemblerModel", "takeResult", "(I)V"⟩, 64)) (List.mem_append_right _ (List.mem_append_right _ (List.mem_append_right _ (List.mem_append_right _ (List.mem_append_right _ (List.mem_append_right _ (List.mem_append_left _ (List.mem_of_getElem? (i := 9) rfl)))))))) rfl
theorem wp_106 : Cond.selects "StackAssemblerModel" ⟨"StackAssemblerModel", "take", "(I)I"⟩ ⟨"StackAssemblerModel", "take", "(I)I"⟩ ∈ kz_TT := kz_s (q := (⟨"StackAssemblerModel", "take", "(I)I"⟩, 64)) (List.mem_append_right _ (List.mem_append_right _ (List.mem_append_right _ (List.mem_append_right _ (List.mem_append_right _ (List.mem_append_right _ (List.mem_append_left _ (List.mem_of_getElem? (i := 10) rfl)))))))) rfl
theorem wp_107 : Cond.selects "StackAssemblerModel" ⟨"StackAssemblerModel", "check", "(IIJ)V"⟩ ⟨"StackAssemblerModel", "check", "(IIJ)V"⟩ ∈ kz_TT := kz_s (q := (⟨"StackAssemblerModel", "check", "(IIJ)V"⟩, 64)) (List.mem_append_right _ (List.mem_append_right _ (List.mem_append_right _ (List.mem_append_right _ (List.mem_append_right _ (List.mem_append_right _ (List.mem_append_left _ (List.mem_of_getElem? (i := 11) rfl)))))))) rfl
theorem wp_108 : Cond.selects "StackAssemblerModel" ⟨"StackAssemblerModel", "die", "()V"⟩ ⟨"StackAssemblerModel", "die", "()V"⟩ ∈ kz_TT := kz_s (q := (⟨"StackAssemblerModel", "die", "()V"⟩, 64)) (List.mem_append_right _ (List.mem_append_right _ (List.mem_append_right _ (List.mem_append_right _ (List.mem_append_right _ (List.mem_append_right _ (List.mem_append_left _ (List.mem_of_getElem? (i := 12) rfl)))))))) rfl
theorem wp_109 : Cond.selects "StackAssemblerModel" ⟨"StackAssemblerModel", "control", "(II)V"⟩ ⟨"StackAssemblerModel", "control", "(II)V"⟩ ∈ kz_TT := kz_s (q := (⟨"StackAssemblerModel", "control", "(II)V"⟩, 64)) (List.mem_append_right _ (List.mem_append_right _ (List.mem_append_right _ (List.mem_append_right _ (List.mem_append_right _ (List.mem_append_right _ (List.mem_append_left _ (List.mem_of_getElem? (i := 13) rfl)))))))) rfl
theorem wp_110 : Cond.selects "StackAssemblerModel" ⟨"StackAssemblerModel", "put", "(I)V"⟩ ⟨"StackAssemblerModel", "put", "(I)V"⟩ ∈ kz_TT := kz_s (q := (⟨"StackAssemblerModel", "put", "(I)V"⟩, 64)) (List.mem_append_right _ (List.mem_append_right _ (List.mem_append_right _ (List.mem_append_right _ (List.mem_append_right _ (List.mem_append_right _ (List.mem_append_left _ (List.mem_of_getElem? (i := 14) rfl)))))))) rfl
theorem wp_111 : Cond.selects "StackAssemblerModel" ⟨"StackAssemblerModel", "branch", "(IJ)V"⟩ ⟨"StackAssemblerModel", "branch", "(IJ)V"⟩ ∈ kz_TT := kz_s (q := (⟨"StackAssemblerModel", "branch", "(IJ)V"⟩, 64)) (List.mem_append_right _ (List.mem_append_right _ (List.mem_append_right _ (List.mem_append_right _ (List.mem_append_right _ (List.mem_append_right _ (List.mem_append_left _ (List.mem_of_getElem? (i := 15) rfl)))))))) rfl
theorem wp_112 : Cond.selects "StackAssemblerModel" ⟨"StackAssemblerModel", "bad", "()V"⟩ ⟨"StackAssemblerModel", "bad", "()V"⟩ ∈ kz_TT := kz_s (q := (⟨"StackAssemblerModel", "bad", "()V"⟩, 64)) (List.mem_append_right _ (List.mem_append_right _ (List.mem_append_right _ (List.mem_append_right _ (List.mem_append_right _ (List.mem_append_right _ (List.mem_append_right _ (List.mem_append_left _ (List.mem_of_getElem? (i := 0) rfl))))))))) rfl
theorem wp_113 : Cond.selects "StackAssemblerModel" ⟨"StackAssemblerModel", "takeAndPut", "(I)V"⟩ ⟨"StackAssemblerModel", "takeAndPut", "(I)V"⟩ ∈ kz_TT := kz_s (q := (⟨"StackAssemblerModel", "takeAndPut", "(I)V"⟩, 64)) (List.mem_append_right _ (List.mem_append_right _ (List.mem_append_right _ (List.mem_append_right _ (List.mem_append_right _ (List.mem_append_right _ (List.mem_append_right _ (List.mem_append_left _ (List.mem_of_getElem? (i := 1) rfl))))))))) rfl
theorem wp_114 : Cond.selects "StackAssemblerModel" ⟨"StackAssemblerModel", "callOf", "(J)V"⟩ ⟨"StackAssemblerModel", "callOf", "(J)V"⟩ ∈ kz_TT := kz_s (q := (⟨"StackAssemblerModel", "callOf", "(J)V"⟩, 64)) (List.mem_append_right _ (List.mem_append_right _ (List.mem_append_right _ (List.mem_append_right _ (List.mem_append_right _ (List.mem_append_right _ (List.mem_append_right _ (List.mem_append_left _ (List.mem_of_getElem? (i := 2) rfl))))))))) rfl
theorem wp_115 : Cond.selects "StackAssemblerModel" ⟨"StackAssemblerModel", "select", "()V"⟩ ⟨"StackAssemblerModel", "select", "()V"⟩ ∈ kz_TT := kz_s (q := (⟨"StackAssemblerModel", "select", "()V"⟩, 64)) (List.mem_append_right _ (List.mem_append_right _ (List.mem_append_right _ (List.mem_append_right _ (List.mem_append_right _ (List.mem_append_right _ (List.mem_append_right _ (List.mem_append_left _ (List.mem_of_getElem? (i := 3) rfl))))))))) rfl
theorem wp_116 : Cond.selects "StackAssemblerModel" ⟨"StackAssemblerModel", "local", "(IIJ)V"⟩ ⟨"StackAssemblerModel", "local", "(IIJ)V"⟩ ∈ kz_TT := kz_s (q := (⟨"StackAssemblerModel", "local", "(IIJ)V"⟩, 64)) (List.mem_append_right _ (List.mem_append_right _ (List.mem_append_right _ (List.mem_append_right _ (List.mem_append_right _ (List.mem_append_right _ (List.mem_append_right _ (List.mem_append_left _ (List.mem_of_getElem? (i := 4) rfl))))))))) rfl
theorem wp_117 : Cond.selects "StackAssemblerModel" ⟨"StackAssemblerModel", "arithmetic", "(I)V"⟩ ⟨"StackAssemblerModel", "arithmetic", "(I)V"⟩ ∈ kz_TT := kz_s (q := (⟨"StackAssemblerModel", "arithmetic", "(I)V"⟩, 64)) (List.mem_append_right _ (List.mem_append_right _ (List.mem_append_right _ (List.mem_append_right _ (List.mem_append_right _ (List.mem_append_right _ (List.mem_append_right _ (List.mem_append_left _ (List.mem_of_getElem? (i := 5) rfl))))))))) rfl
theorem wp_118 : Cond.selects "StackAssemblerModel" ⟨"StackAssemblerModel", "adopt", "()V"⟩ ⟨"StackAssemblerModel", "adopt", "()V"⟩ ∈ kz_TT := kz_s (q := (⟨"StackAssemblerModel", "adopt", "()V"⟩, 64)) (List.mem_append_right _ (List.mem_append_right _ (List.mem_append_right _ (List.mem_append_right _ (List.mem_append_right _ (List.mem_append_right _ (List.mem_append_right _ (List.mem_append_left _ (List.mem_of_getElem? (i := 6) rfl))))))))) rfl
theorem wp_119 : Cond.selects "StackAssemblerModel" ⟨"StackAssemblerModel", "add", "(I)V"⟩ ⟨"StackAssemblerModel", "add", "(I)V"⟩ ∈ kz_TT := kz_s (q := (⟨"StackAssemblerModel", "add", "(I)V"⟩, 64)) (List.mem_append_right _ (List.mem_append_right _ (List.mem_append_right _ (List.mem_append_right _ (List.mem_append_right _ (List.mem_append_right _ (List.mem_append_right _ (List.mem_append_left _ (List.mem_of_getElem? (i := 7) rfl))))))))) rfl
theorem wp_120 : Cond.selects "StackAssemblerModel" ⟨"StackAssemblerModel", "signatureSection", "()V"⟩ ⟨"StackAssemblerModel", "signatureSection", "()V"⟩ ∈ kz_TT := kz_s (q := (⟨"StackAssemblerModel", "signatureSection", "()V"⟩, 64)) (List.mem_append_right _ (List.mem_append_right _ (List.mem_append_right _ (List.mem_append_right _ (List.mem_append_right _ (List.mem_append_right _ (List.mem_append_right _ (List.mem_append_left _ (List.mem_of_getElem? (i := 8) rfl))))))))) rfl
theorem wp_121 : Cond.selects "StackAssemblerModel" ⟨"StackAssemblerModel", "signaturesBefore", "(I)I"⟩ ⟨"StackAssemblerModel", "signaturesBefore", "(I)I"⟩ ∈ kz_TT := kz_s (q := (⟨"StackAssemblerModel", "signaturesBefore", "(I)I"⟩, 64)) (List.mem_append_right _ (List.mem_append_right _ (List.mem_append_right _ (List.mem_append_right _ (List.mem_append_right _ (List.mem_append_right _ (List.mem_append_right _ (List.mem_append_left _ (List.mem_of_getElem? (i := 9) rfl))))))))) rfl
theorem wp_122 : Cond.selects "StackAssemblerModel" ⟨"StackAssemblerModel", "firstLike", "(I)I"⟩ ⟨"StackAssemblerModel", "firstLike", "(I)I"⟩ ∈ kz_TT := kz_s (q := (⟨"StackAssemblerModel", "firstLike", "(I)I"⟩, 64)) (List.mem_append_right _ (List.mem_append_right _ (List.mem_append_right _ (List.mem_append_right _ (List.mem_append_right _ (List.mem_append_right _ (List.mem_append_right _ (List.mem_append_left _ (List.mem_of_getElem? (i := 10) rfl))))))))) rfl
theorem wp_123 : Cond.selects "StackAssemblerModel" ⟨"StackAssemblerModel", "sameSignature", "(II)Z"⟩ ⟨"StackAssemblerModel", "sameSignature", "(II)Z"⟩ ∈ kz_TT := kz_s (q := (⟨"StackAssemblerModel", "sameSignature", "(II)Z"⟩, 64)) (List.mem_append_right _ (List.mem_append_right _ (List.mem_append_right _ (List.mem_append_right _ (List.mem_append_right _ (List.mem_append_right _ (List.mem_append_right _ (List.mem_append_left _ (List.mem_of_getElem? (i := 11) rfl))))))))) rfl
theorem wp_124 : Cond.selects "StackAssemblerModel" ⟨"StackAssemblerModel", "unsigned", "(J)V"⟩ ⟨"StackAssemblerModel", "unsigned", "(J)V"⟩ ∈ kz_TT := kz_s (q := (⟨"StackAssemblerModel", "unsigned", "(J)V"⟩, 64)) (List.mem_append_right _ (List.mem_append_right _ (List.mem_append_right _ (List.mem_append_right _ (List.mem_append_right _ (List.mem_append_right _ (List.mem_append_right _ (List.mem_append_left _ (List.mem_of_getElem? (i := 12) rfl))))))))) rfl
theorem wp_125 : Cond.selects "StackAssemblerModel" ⟨"StackAssemblerModel", "close", "(I)V"⟩ ⟨"StackAssemblerModel", "close", "(I)V"⟩ ∈ kz_TT := kz_s (q := (⟨"StackAssemblerModel", "close", "(I)V"⟩, 64)) (List.mem_append_right _ (List.mem_append_right _ (List.mem_append_right _ (List.mem_append_right _ (List.mem_append_right _ (List.mem_append_right _ (List.mem_append_right _ (List.mem_append_left _ (List.mem_of_getElem? (i := 13) rfl))))))))) rfl
theorem wp_126 : Cond.selects "StackAssemblerModel" ⟨"StackAssemblerModel", "functionSection", "()V"⟩ ⟨"StackAssemblerModel", "functionSection", "()V"⟩ ∈ kz_TT := kz_s (q := (⟨"StackAssemblerModel", "functionSection", "()V"⟩, 64)) (List.mem_append_right _ (List.mem_append_right _ (List.mem_append_right _ (List.mem_append_right _ (List.mem_append_right _ (List.mem_append_right _ (List.mem_append_right _ (List.mem_append_left _ (List.mem_of_getElem? (i := 14) rfl))))))))) rfl
theorem wp_127 : Cond.selects "StackAssemblerModel" ⟨"StackAssemblerModel", "codeSection", "()V"⟩ ⟨"StackAssemblerModel", "codeSection", "()V"⟩ ∈ kz_TT := kz_s (q := (⟨"StackAssemblerModel", "codeSection", "()V"⟩, 64)) (List.mem_append_right _ (List.mem_append_right _ (List.mem_append_right _ (List.mem_append_right _ (List.mem_append_right _ (List.mem_append_right _ (List.mem_append_right _ (List.mem_append_left _ (List.mem_of_getElem? (i := 15) rfl))))))))) rfl
theorem wp_128 : Cond.selects "StackAssemblerModel" ⟨"StackAssemblerModel", "runs", "(I)V"⟩ ⟨"StackAssemblerModel", "runs", "(I)V"⟩ ∈ kz_TT := kz_s (q := (⟨"StackAssemblerModel", "runs", "(I)V"⟩, 64)) (List.mem_append_right _ (List.mem_append_right _ (List.mem_append_right _ (List.mem_append_right _ (List.mem_append_right _ (List.mem_append_right _ (List.mem_append_right _ (List.mem_append_right _ ((List.mem_of_getElem? (i := 0) rfl)))))))))) rfl
theorem wp_129 : Cond.selects "StackAssemblerModel" ⟨"StackAssemblerModel", "runBegins", "(II)Z"⟩ ⟨"StackAssemblerModel", "runBegins", "(II)Z"⟩ ∈ kz_TT := kz_s (q := (⟨"StackAssemblerModel", "runBegins", "(II)Z"⟩, 64)) (List.mem_append_right _ (List.mem_append_right _ (List.mem_append_right _ (List.mem_append_right _ (List.mem_append_right _ (List.mem_append_right _ (List.mem_append_right _ (List.mem_append_right _ ((List.mem_of_getElem? (i := 1) rfl)))))))))) rfl
theorem wp_130 : Cond.selects "StackAssemblerModel" ⟨"StackAssemblerModel", "instructionBytes", "(I)V"⟩ ⟨"StackAssemblerModel", "instructionBytes", "(I)V"⟩ ∈ kz_TT := kz_s (q := (⟨"StackAssemblerModel", "instructionBytes", "(I)V"⟩, 64)) (List.mem_append_right _ (List.mem_append_right _ (List.mem_append_right _ (List.mem_append_right _ (List.mem_append_right _ (List.mem_append_right _ (List.mem_append_right _ (List.mem_append_right _ ((List.mem_of_getElem? (i := 2) rfl)))))))))) rfl
theorem wp_131 : Cond.selects "StackAssemblerModel" ⟨"StackAssemblerModel", "signed", "(J)V"⟩ ⟨"StackAssemblerModel", "signed", "(J)V"⟩ ∈ kz_TT := kz_s (q := (⟨"StackAssemblerModel", "signed", "(J)V"⟩, 64)) (List.mem_append_right _ (List.mem_append_right _ (List.mem_append_right _ (List.mem_append_right _ (List.mem_append_right _ (List.mem_append_right _ (List.mem_append_right _ (List.mem_append_right _ ((List.mem_of_getElem? (i := 3) rfl)))))))))) rfl
theorem wp_132 : Cond.selects "StackAssemblerModel" ⟨"StackAssemblerModel", "out", "(I)V"⟩ ⟨"StackAssemblerModel", "out", "(I)V"⟩ ∈ kz_TT := kz_s (q := (⟨"StackAssemblerModel", "out", "(I)V"⟩, 64)) (List.mem_append_right _ (List.mem_append_right _ (List.mem_append_right _ (List.mem_append_right _ (List.mem_append_right _ (List.mem_append_right _ (List.mem_append_right _ (List.mem_append_right _ ((List.mem_of_getElem? (i := 4) rfl)))))))))) rfl
theorem wp_133 : Cond.selects "StackAssemblerModel" ⟨"StackAssemblerModel", "outLong", "(J)V"⟩ ⟨"StackAssemblerModel", "outLong", "(J)V"⟩ ∈ kz_TT := kz_s (q := (⟨"StackAssemblerModel", "outLong", "(J)V"⟩, 64)) (List.mem_append_right _ (List.mem_append_right _ (List.mem_append_right _ (List.mem_append_right _ (List.mem_append_right _ (List.mem_append_right _ (List.mem_append_right _ (List.mem_append_right _ ((List.mem_of_getElem? (i := 5) rfl)))))))))) rfl
theorem wp_134 : Cond.selects "StackAssemblerModel" ⟨"StackAssemblerModel", "outRow", "(JIII)V"⟩ ⟨"StackAssemblerModel", "outRow", "(JIII)V"⟩ ∈ kz_TT := kz_s (q := (⟨"StackAssemblerModel", "outRow", "(JIII)V"⟩, 64)) (List.mem_append_right _ (List.mem_append_right _ (List.mem_append_right _ (List.mem_append_right _ (List.mem_append_right _ (List.mem_append_right _ (List.mem_append_right _ (List.mem_append_right _ ((List.mem_of_getElem? (i := 6) rfl)))))))))) rfl
theorem wp_135 : Cond.selects "StackAssemblerModel" ⟨"StackAssemblerModel", "outType", "(I)V"⟩ ⟨"StackAssemblerModel", "outType", "(I)V"⟩ ∈ kz_TT := kz_s (q := (⟨"StackAssemblerModel", "outType", "(I)V"⟩, 64)) (List.mem_append_right _ (List.mem_append_right _ (List.mem_append_right _ (List.mem_append_right _ (List.mem_append_right _ (List.mem_append_right _ (List.mem_append_right _ (List.mem_append_right _ ((List.mem_of_getElem? (i := 7) rfl)))))))))) rfl
theorem wp_136 : Cond.selects "StackAssemblerModel" ⟨"StackAssemblerModel", "outResult", "(I)V"⟩ ⟨"StackAssemblerModel", "outResult", "(I)V"⟩ ∈ kz_TT := kz_s (q := (⟨"StackAssemblerModel", "outResult", "(I)V"⟩, 64)) (List.mem_append_right _ (List.mem_append_right _ (List.mem_append_right _ (List.mem_append_right _ (List.mem_append_right _ (List.mem_append_right _ (List.mem_append_right _ (List.mem_append_right _ ((List.mem_of_getElem? (i := 8) rfl)))))))))) rfl
theorem wp_137 : Cond.selects "StackAssemblerModel" ⟨"StackAssemblerModel", "outInstruction", "(I)V"⟩ ⟨"StackAssemblerModel", "outInstruction", "(I)V"⟩ ∈ kz_TT := kz_s (q := (⟨"StackAssemblerModel", "outInstruction", "(I)V"⟩, 64)) (List.mem_append_right _ (List.mem_append_right _ (List.mem_append_right _ (List.mem_append_right _ (List.mem_append_right _ (List.mem_append_right _ (List.mem_append_right _ (List.mem_append_right _ ((List.mem_of_getElem? (i := 9) rfl)))))))))) rfl
theorem wp_138 : Cond.selects "StackAssemblerModel" ⟨"StackAssemblerModel", "outNumber", "(J)V"⟩ ⟨"StackAssemblerModel", "outNumber", "(J)V"⟩ ∈ kz_TT := kz_s (q := (⟨"StackAssemblerModel", "outNumber", "(J)V"⟩, 64)) (List.mem_append_right _ (List.mem_append_right _ (List.mem_append_right _ (List.mem_append_right _ (List.mem_append_right _ (List.mem_append_right _ (List.mem_append_right _ (List.mem_append_right _ ((List.mem_of_getElem? (i := 10) rfl)))))))))) rfl
theorem wp_139 : Cond.selects "StackAssemblerModel" ⟨"StackAssemblerModel", "isFunction", "(I)Z"⟩ ⟨"StackAssemblerModel", "isFunction", "(I)Z"⟩ ∈ kz_TT := kz_s (q := (⟨"StackAssemblerModel", "isFunction", "(I)Z"⟩, 64)) (List.mem_append_right _ (List.mem_append_right _ (List.mem_append_right _ (List.mem_append_right _ (List.mem_append_right _ (List.mem_append_right _ (List.mem_append_right _ (List.mem_append_right _ ((List.mem_of_getElem? (i := 11) rfl)))))))))) rfl
theorem wp_140 : Cond.selects "StackAssemblerModel" ⟨"StackAssemblerModel", "isInstruction", "(II)Z"⟩ ⟨"StackAssemblerModel", "isInstruction", "(II)Z"⟩ ∈ kz_TT := kz_s (q := (⟨"StackAssemblerModel", "isInstruction", "(II)Z"⟩, 64)) (List.mem_append_right _ (List.mem_append_right _ (List.mem_append_right _ (List.mem_append_right _ (List.mem_append_right _ (List.mem_append_right _ (List.mem_append_right _ (List.mem_append_right _ ((List.mem_of_getElem? (i := 12) rfl)))))))))) rfl
end
section
theorem kw_0 : qz_cw 0 := ⟨_, rfl, rfl, by decide, List.forall_mem_cons.mpr ⟨wt_356, List.forall_mem_cons.mpr ⟨wt_358, List.forall_mem_cons.mpr ⟨wt_360, List.forall_mem_cons.mpr ⟨wt_362, List.forall_mem_cons.mpr ⟨wt_364, List.forall_mem_cons.mpr ⟨wt_366, List.forall_mem_cons.mpr ⟨wt_368, List.forall_mem_cons.mpr ⟨wt_370, List.forall_mem_cons.mpr ⟨wt_372, (fun _ z => by cases z)⟩⟩⟩⟩⟩⟩⟩⟩⟩, by decide +kernel, by decide +kernel, by decide +kernel⟩
theorem kg_0 : qz_cg 0 := Or.inl kw_0
theorem kw_1 : qz_cw 1 := ⟨_, rfl, rfl, by decide, List.forall_mem_cons.mpr ⟨wt_302, List.forall_mem_cons.mpr ⟨wt_304, List.forall_mem_cons.mpr ⟨wt_306, List.forall_mem_cons.mpr ⟨wt_308, List.forall_mem_cons.mpr ⟨wt_310, List.forall_mem_cons.mpr ⟨wt_312, List.forall_mem_cons.mpr ⟨wt_314, List.forall_mem_cons.mpr ⟨wt_316, (fun _ z => by cases z)⟩⟩⟩⟩⟩⟩⟩⟩, by decide +kernel, by decide +kernel, by decide +kernel⟩
theorem kg_1 : qz_cg 1 := Or.inl kw_1
theorem kw_2 : qz_cw 2 := ⟨_, rfl, rfl, by decide, List.forall_mem_cons.mpr ⟨wt_329, List.forall_mem_cons.mpr ⟨wt_331, List.forall_mem_cons.mpr ⟨wt_333, (fun _ z => by cases z)⟩⟩⟩, by decide +kernel, by decide +kernel, by decide +kernel⟩
theorem kg_2 : qz_cg 2 := Or.inl kw_2
theorem kw_3 : qz_cw 3 := ⟨_, rfl, rfl, by decide, List.forall_mem_cons.mpr ⟨wt_282, List.forall_mem_cons.mpr ⟨wt_284, List.forall_mem_cons.mpr ⟨wt_286, List.forall_mem_cons.mpr ⟨wt_288, List.forall_mem_cons.mpr ⟨wt_290, (fun _ z => by cases z)⟩⟩⟩⟩⟩, by decide +kernel, by decide +kernel, by decide +kernel⟩
theorem kg_3 : qz_cg 3 := Or.inl kw_3
theorem kw_4 : qz_cw 4 := ⟨_, rfl, rfl, by decide, List.forall_mem_cons.mpr ⟨wt_100, List.forall_mem_cons.mpr ⟨wt_102, List.forall_mem_cons.mpr ⟨wt_104, List.forall_mem_cons.mpr ⟨wt_106, List.forall_mem_cons.mpr ⟨wt_108, List.forall_mem_cons.mpr ⟨wt_110, (fun _ z => by cases z)⟩⟩⟩⟩⟩⟩, by decide +kernel, by decide +kernel, by decide +kernel⟩
theorem kg_4 : qz_cg 4 := Or.inl kw_4
theorem kw_5 : qz_cw 5 := ⟨_, rfl, rfl, by decide, List.forall_mem_cons.mpr ⟨wt_206, List.forall_mem_cons.mpr ⟨wt_208, List.forall_mem_cons.mpr ⟨wt_210, List.forall_mem_cons.mpr ⟨wt_212, List.forall_mem_cons.mpr ⟨wt_214, (fun _ z => by cases z)⟩⟩⟩⟩⟩, by decide +kernel, by decide +kernel, by decide +kernel⟩
theorem kg_5 : qz_cg 5 := Or.inl kw_5
theorem kw_6 : qz_cw 6 := ⟨_, rfl, rfl, by decide, List.forall_mem_cons.mpr ⟨wt_142, List.forall_mem_cons.mpr ⟨wt_144, List.forall_mem_cons.mpr ⟨wt_146, List.forall_mem_cons.mpr ⟨wt_148, List.forall_mem_cons.mpr ⟨wt_150, (fun _ z => by cases z)⟩⟩⟩⟩⟩, by decide +kernel, by decide +kernel, by decide +kernel⟩
theorem kg_6 : qz_cg 6 := Or.inl kw_6
theorem kg_7 : qz_cg 7 := Or.inr ⟨by decide, by decide, _, rfl, rfl⟩
theorem kw_8 : qz_cw 8 := ⟨_, rfl, rfl, by decide, List.forall_mem_cons.mpr ⟨wt_344, (fun _ z => by cases z)⟩, by decide +kernel, by decide +kernel, by decide +kernel⟩
theorem kg_8 : qz_cg 8 := Or.inl kw_8
theorem kw_9 : qz_cw 9 := ⟨_, rfl, rfl, by decide, List.forall_mem_cons.mpr ⟨wt_228, List.forall_mem_cons.mpr ⟨wt_230, List.forall_mem_cons.mpr ⟨wt_232, List.forall_mem_cons.mpr ⟨wt_234, List.forall_mem_cons.mpr ⟨wt_236, List.forall_mem_cons.mpr ⟨wt_238, List.forall_mem_cons.mpr ⟨wt_240, List.forall_mem_cons.mpr ⟨wt_242, List.forall_mem_cons.mpr ⟨wt_244, List.forall_mem_cons.mpr ⟨wt_246, (fun _ z => by cases z)⟩⟩⟩⟩⟩⟩⟩⟩⟩⟩, by decide +kernel, by decide +kernel, by decide +kernel⟩
theorem kg_9 : qz_cg 9 := Or.inl kw_9
theorem kw_10 : qz_cw 10 := ⟨_, rfl, rfl, by decide, List.forall_mem_cons.mpr ⟨wt_177, List.forall_mem_cons.mpr ⟨wt_179, List.forall_mem_cons.mpr ⟨wt_181, List.forall_mem_cons.mpr ⟨wt_183, List.forall_mem_cons.mpr ⟨wt_185, List.forall_mem_cons.mpr ⟨wt_187, (fun _ z => by cases z)⟩⟩⟩⟩⟩⟩, by decide +kernel, by decide +kernel, by decide +kernel⟩
theorem kg_10 : qz_cg 10 := Or.inl kw_10
theorem kw_11 : qz_cw 11 := ⟨_, rfl, rfl, by decide, List.forall_mem_cons.mpr ⟨wt_47, List.forall_mem_cons.mpr ⟨wt_49, (fun _ z => by cases z)⟩⟩, by decide +kernel, by decide +kernel, by decide +kernel⟩
theorem kg_11 : qz_cg 11 := Or.inl kw_11
theorem kw_12 : qz_cw 12 := ⟨_, rfl, rfl, by decide, List.forall_mem_cons.mpr ⟨wt_1181, List.forall_mem_cons.mpr ⟨wt_1183, List.forall_mem_cons.mpr ⟨wt_1185, List.forall_mem_cons.mpr ⟨wt_1187, List.forall_mem_cons.mpr ⟨wt_1189, List.forall_mem_cons.mpr ⟨wt_1191, List.forall_mem_cons.mpr ⟨wt_1193, List.forall_mem_cons.mpr ⟨wt_1195, List.forall_mem_cons.mpr ⟨wt_1197, List.forall_mem_cons.mpr ⟨wt_1199, List.forall_mem_cons.mpr ⟨wt_1201, List.forall_mem_cons.mpr ⟨wt_1203, List.forall_mem_cons.mpr ⟨wt_1205, List.forall_mem_cons.mpr ⟨wt_1207, List.forall_mem_cons.mpr ⟨wt_1209, List.forall_mem_cons.mpr ⟨wt_1211, List.forall_mem_cons.mpr ⟨wt_1213, List.forall_mem_cons.mpr ⟨wt_1215, List.forall_mem_cons.mpr ⟨wt_1217, List.forall_mem_cons.mpr ⟨wt_1219, List.forall_mem_cons.mpr ⟨wt_1221, List.forall_mem_cons.mpr ⟨wt_1223, List.forall_mem_cons.mpr ⟨wt_1225, List.forall_mem_cons.mpr ⟨wt_1227, List.forall_mem_cons.mpr ⟨wt_1229, List.forall_mem_cons.mpr ⟨wt_1231, List.forall_mem_cons.mpr ⟨wt_1233, List.forall_mem_cons.mpr ⟨wt_1235, List.forall_mem_cons.mpr ⟨wt_1237, List.forall_mem_cons.mpr ⟨wt_1239, List.forall_mem_cons.mpr ⟨wt_1241, List.forall_mem_cons.mpr ⟨wt_1243, List.forall_mem_cons.mpr ⟨wt_1245, List.forall_mem_cons.mpr ⟨wt_1247, List.forall_mem_cons.mpr ⟨wt_1249, List.forall_mem_cons.mpr ⟨wt_1251, List.forall_mem_cons.mpr ⟨wt_1253, List.forall_mem_cons.mpr ⟨wt_1255, List.forall_mem_cons.mpr ⟨wt_1257, List.forall_mem_cons.mpr ⟨wt_1259, List.forall_mem_cons.mpr ⟨wt_1261, List.forall_mem_cons.mpr ⟨wt_1263, List.forall_mem_cons.mpr ⟨wt_1265, List.forall_mem_cons.mpr ⟨wt_1267, List.forall_mem_cons.mpr ⟨wt_1269, List.forall_mem_cons.mpr ⟨wt_1271, List.forall_mem_cons.mpr ⟨wt_1273, List.forall_mem_cons.mpr ⟨wt_1275, List.forall_mem_cons.mpr ⟨wt_1277, List.forall_mem_cons.mpr ⟨wt_1279, List.forall_mem_cons.mpr ⟨wt_1281, List.forall_mem_cons.mpr ⟨wt_1283, List.forall_mem_cons.mpr ⟨wt_1285, List.forall_mem_cons.mpr ⟨wt_1287, List.forall_mem_cons.mpr ⟨wt_1289, List.forall_mem_cons.mpr ⟨wt_1291, List.forall_mem_cons.mpr ⟨wt_1293, List.forall_mem_cons.mpr ⟨wt_1295, List.forall_mem_cons.mpr ⟨wt_1297, List.forall_mem_cons.mpr ⟨wt_1299, List.forall_mem_cons.mpr ⟨wt_1301, List.forall_mem_cons.mpr ⟨wt_1303, List.forall_mem_cons.mpr ⟨wt_1305, List.forall_mem_cons.mpr ⟨wt_1307, (fun _ z => by cases z)⟩⟩⟩⟩⟩⟩⟩⟩⟩⟩⟩⟩⟩⟩⟩⟩⟩⟩⟩⟩⟩⟩⟩⟩⟩⟩⟩⟩⟩⟩⟩⟩⟩⟩⟩⟩⟩⟩⟩⟩⟩⟩⟩⟩⟩⟩⟩⟩⟩⟩⟩⟩⟩⟩⟩⟩⟩⟩⟩⟩⟩⟩⟩⟩, by decide +kernel, by decide +kernel, by decide +kernel⟩
theorem kg_12 : qz_cg 12 := Or.inl kw_12
theorem kg_13 : qz_cg 13 := Or.inr ⟨by decide, by decide, _, rfl, rfl⟩
def yd_Text_init : qz_Y := (⟨"StackAssembler$Text", "<init>", "()V"⟩, prog_13_method_1_code, 1, (Option.none : Option Jvm.ClassFile.FieldType), 0, { frames := 1, cells := 1, slots := 320, locals := 20 })
theorem pc_StackAssembler_Text : ("StackAssembler$Text" : String) ≠ "java/lang/invoke/MethodHandle" ∧ ("StackAssembler$Text" : String) ≠ "java/lang/invoke/VarHandle" ∧ plainName "StackAssembler$Text" = true := by decide +kernel
theorem pd_0 : (parseMethodDescriptor "()V").map (fun d => d.parameters.length) = some 0 := by decide +kernel
theorem mw_Text_init : qz_mw yd_Text_init 0 := ⟨wt_40, wt_2, ⟨pc_StackAssembler_Text.1, pc_StackAssembler_Text.2.1, pd_0⟩, pc_StackAssembler_Text.2.2⟩
theorem vi_Text_init : Cond.instanceMethod yd_Text_init.1 ∈ kz_TT ∧ yd_Text_init.1.name = "<init>" ∧ yd_Text_init.2.2.2.1 = none := ⟨wt_39, rfl, rfl⟩
def yd_Function_init : qz_Y := (⟨"StackAssembler$Function", "<init>", "()V"⟩, prog_6_method_1_code, 1, (Option.none : Option Jvm.ClassFile.FieldType), 0, { frames := 1, cells := 1, slots := 8, locals := 20 })
theorem pc_StackAssembler_Function : ("StackAssembler$Function" : String) ≠ "java/lang/invoke/MethodHandle" ∧ ("StackAssembler$Function" : String) ≠ "java/lang/invoke/VarHandle" ∧ plainName "StackAssembler$Function" = true := by decide +kernel
theorem mw_Function_init : qz_mw yd_Function_init 0 := ⟨wt_66, wt_4, ⟨pc_StackAssembler_Function.1, pc_StackAssembler_Function.2.1, pd_0⟩, pc_StackAssembler_Function.2.2⟩
theorem vi_Function_init : Cond.instanceMethod yd_Function_init.1 ∈ kz_TT ∧ yd_Function_init.1.name = "<init>" ∧ yd_Function_init.2.2.2.1 = none := ⟨wt_65, rfl, rfl⟩
def yd_Module_init : qz_Y := (⟨"StackAssembler$Module", "<init>", "()V"⟩, prog_8_method_1_code, 2, (Option.none : Option Jvm.ClassFile.FieldType), 0, { frames := 2, cells := 11, slots := 188, locals := 40 })
theorem pc_StackAssembler_Module : ("StackAssembler$Module" : String) ≠ "java/lang/invoke/MethodHandle" ∧ ("StackAssembler$Module" : String) ≠ "java/lang/invoke/VarHandle" ∧ plainName "StackAssembler$Module" = true := by decide +kernel
theorem mw_Module_init : qz_mw yd_Module_init 0 := ⟨wt_57, wt_3, ⟨pc_StackAssembler_Module.1, pc_StackAssembler_Module.2.1, pd_0⟩, pc_StackAssembler_Module.2.2⟩
theorem vi_Module_init : Cond.instanceMethod yd_Module_init.1 ∈ kz_TT ∧ yd_Module_init.1.name = "<init>" ∧ yd_Module_init.2.2.2.1 = none := ⟨wt_56, rfl, rfl⟩
def yd_Scanner_init : qz_Y := (⟨"StackAssembler$Scanner", "<init>", "(LStackAssembler$Text;)V"⟩, prog_12_method_1_code, 2, (Option.none : Option Jvm.ClassFile.FieldType), 0, { frames := 1, cells := 0, slots := 0, locals := 20 })
theorem pc_StackAssembler_Scanner : ("StackAssembler$Scanner" : String) ≠ "java/lang/invoke/MethodHandle" ∧ ("StackAssembler$Scanner" : String) ≠ "java/lang/invoke/VarHandle" ∧ plainName "StackAssembler$Scanner" = true := by decide +kernel
theorem pd_1 : (parseMethodDescriptor "(LStackAssembler$Text;)V").map (fun d => d.parameters.length) = some 1 := by decide +kernel
theorem mw_Scanner_init : qz_mw yd_Scanner_init 1 := ⟨wt_165, wt_8, ⟨pc_StackAssembler_Scanner.1, pc_StackAssembler_Scanner.2.1, pd_1⟩, pc_StackAssembler_Scanner.2.2⟩
theorem vi_Scanner_init : Cond.instanceMethod yd_Scanner_init.1 ∈ kz_TT ∧ yd_Scanner_init.1.name = "<init>" ∧ yd_Scanner_init.2.2.2.1 = none := ⟨wt_164, rfl, rfl⟩
def yd_Level_init : qz_Y := (⟨"StackAssembler$Level", "<init>", "()V"⟩, prog_7_method_1_code, 1, (Option.none : Option Jvm.ClassFile.FieldType), 0, { frames := 1, cells := 0, slots := 0, locals := 20 })
theorem pc_StackAssembler_Level : ("StackAssembler$Level" : String) ≠ "java/lang/invoke/MethodHandle" ∧ ("StackAssembler$Level" : String) ≠ "java/lang/invoke/VarHandle" ∧ plainName "StackAssembler$Level" = true := by decide +kernel
theorem mw_Level_init : qz_mw yd_Level_init 0 := ⟨wt_193, wt_9, ⟨pc_StackAssembler_Level.1, pc_StackAssembler_Level.2.1, pd_0⟩, pc_StackAssembler_Level.2.2⟩
theorem vi_Level_init : Cond.instanceMethod yd_Level_init.1 ∈ kz_TT ∧ yd_Level_init.1.name = "<init>" ∧ yd_Level_init.2.2.2.1 = none := ⟨wt_192, rfl, rfl⟩
def yd_Reader_init : qz_Y := (⟨"StackAssembler$Reader", "<init>", "(LStackAssembler$Text;LStackAssembler$Module;)V"⟩, prog_11_method_1_code, 4, (Option.none : Option Jvm.ClassFile.FieldType), 0, { frames := 2, cells := 17, slots := 96, locals := 41 })
theorem pc_StackAssembler_Reader : ("StackAssembler$Reader" : String) ≠ "java/lang/invoke/MethodHandle" ∧ ("StackAssembler$Reader" : String) ≠ "java/lang/invoke/VarHandle" ∧ plainName "StackAssembler$Reader" = true := by decide +kernel
theorem pd_2 : (parseMethodDescriptor "(LStackAssembler$Text;LStackAssembler$Module;)V").map (fun d => d.parameters.length) = some 2 := by decide +kernel
theorem mw_Reader_init : qz_mw yd_Reader_init 2 := ⟨wt_157, wt_7, ⟨pc_StackAssembler_Reader.1, pc_StackAssembler_Reader.2.1, pd_2⟩, pc_StackAssembler_Reader.2.2⟩
theorem vi_Reader_init : Cond.instanceMethod yd_Reader_init.1 ∈ kz_TT ∧ yd_Reader_init.1.name = "<init>" ∧ yd_Reader_init.2.2.2.1 = none := ⟨wt_156, rfl, rfl⟩
def yd_Module_latest : qz_Y := (⟨"StackAssembler$Module", "latest", "()LStackAssembler$Function;"⟩, prog_8_method_5_code, 1, (Option.some (Jvm.ClassFile.FieldType.object "StackAssembler$Function")), 14, { frames := 1, cells := 0, slots := 0, locals := 21 })
theorem pd_3 : (parseMethodDescriptor "()LStackAssembler$Function;").map (fun d => d.parameters.length) = some 0 := by decide +kernel
theorem mw_Module_latest : qz_mw yd_Module_latest 0 := ⟨wt_260, wt_3, ⟨pc_StackAssembler_Module.1, pc_StackAssembler_Module.2.1, pd_3⟩, pc_StackAssembler_Module.2.2⟩
theorem vw_Module_latest : qz_vw yd_Module_latest := ⟨wt_258, wt_259⟩
def yd_Frame_init : qz_Y := (⟨"StackAssembler$Frame", "<init>", "()V"⟩, prog_5_method_1_code, 1, (Option.none : Option Jvm.ClassFile.FieldType), 0, { frames := 1, cells := 0, slots := 0, locals := 20 })
theorem pc_StackAssembler_Frame : ("StackAssembler$Frame" : String) ≠ "java/lang/invoke/MethodHandle" ∧ ("StackAssembler$Frame" : String) ≠ "java/lang/invoke/VarHandle" ∧ plainName "StackAssembler$Frame" = true := by decide +kernel
theorem mw_Frame_init : qz_mw yd_Frame_init 0 := ⟨wt_270, wt_12, ⟨pc_StackAssembler_Frame.1, pc_StackAssembler_Frame.2.1, pd_0⟩, pc_StackAssembler_Frame.2.2⟩
theorem vi_Frame_init : Cond.instanceMethod yd_Frame_init.1 ∈ kz_TT ∧ yd_Frame_init.1.name = "<init>" ∧ yd_Frame_init.2.2.2.1 = none := ⟨wt_269, rfl, rfl⟩
def yd_Checker_init : qz_Y := (⟨"StackAssembler$Checker", "<init>", "(LStackAssembler$Module;)V"⟩, prog_3_method_1_code, 3, (Option.none : Option Jvm.ClassFile.FieldType), 0, { frames := 2, cells := 14, slots := 136, locals := 41 })
theorem pc_StackAssembler_Checker : ("StackAssembler$Checker" : String) ≠ "java/lang/invoke/MethodHandle" ∧ ("StackAssembler$Checker" : String) ≠ "java/lang/invoke/VarHandle" ∧ plainName "StackAssembler$Checker" = true := by decide +kernel
theorem pd_4 : (parseMethodDescriptor "(LStackAssembler$Module;)V").map (fun d => d.parameters.length) = some 1 := by decide +kernel
theorem mw_Checker_init : qz_mw yd_Checker_init 1 := ⟨wt_253, wt_10, ⟨pc_StackAssembler_Checker.1, pc_StackAssembler_Checker.2.1, pd_4⟩, pc_StackAssembler_Checker.2.2⟩
theorem vi_Checker_init : Cond.instanceMethod yd_Checker_init.1 ∈ kz_TT ∧ yd_Checker_init.1.name = "<init>" ∧ yd_Checker_init.2.2.2.1 = none := ⟨wt_252, rfl, rfl⟩
def yd_Encoder_init : qz_Y := (⟨"StackAssembler$Encoder", "<init>", "()V"⟩, prog_4_method_1_code, 1, (Option.none : Option Jvm.ClassFile.FieldType), 0, { frames := 1, cells := 2, slots := 1028, locals := 20 })
theorem pc_StackAssembler_Encoder : ("StackAssembler$Encoder" : String) ≠ "java/lang/invoke/MethodHandle" ∧ ("StackAssembler$Encoder" : String) ≠ "java/lang/invoke/VarHandle" ∧ plainName "StackAssembler$Encoder" = true := by decide +kernel
theorem mw_Encoder_init : qz_mw yd_Encoder_init 0 := ⟨wt_323, wt_13, ⟨pc_StackAssembler_Encoder.1, pc_StackAssembler_Encoder.2.1, pd_0⟩, pc_StackAssembler_Encoder.2.2⟩
theorem vi_Encoder_init : Cond.instanceMethod yd_Encoder_init.1 ∈ kz_TT ∧ yd_Encoder_init.1.name = "<init>" ∧ yd_Encoder_init.2.2.2.1 = none := ⟨wt_322, rfl, rfl⟩
def yd_Printer_init : qz_Y := (⟨"StackAssembler$Printer", "<init>", "(LStackAssembler$Text;)V"⟩, prog_10_method_1_code, 2, (Option.none : Option Jvm.ClassFile.FieldType), 0, { frames := 1, cells := 0, slots := 0, locals := 20 })
theorem pc_StackAssembler_Printer : ("StackAssembler$Printer" : String) ≠ "java/lang/invoke/MethodHandle" ∧ ("StackAssembler$Printer" : String) ≠ "java/lang/invoke/VarHandle" ∧ plainName "StackAssembler$Printer" = true := by decide +kernel
theorem mw_Printer_init : qz_mw yd_Printer_init 1 := ⟨wt_341, wt_14, ⟨pc_StackAssembler_Printer.1, pc_StackAssembler_Printer.2.1, pd_1⟩, pc_StackAssembler_Printer.2.2⟩
theorem vi_Printer_init : Cond.instanceMethod yd_Printer_init.1 ∈ kz_TT ∧ yd_Printer_init.1.name = "<init>" ∧ yd_Printer_init.2.2.2.1 = none := ⟨wt_340, rfl, rfl⟩
def yd_SA_init : qz_Y := (⟨"StackAssembler", "<init>", "()V"⟩, prog_1_method_1_code, 1, (Option.none : Option Jvm.ClassFile.FieldType), 0, { frames := 3, cells := 65, slots := 2312, locals := 64 })
theorem pc_StackAssembler : ("StackAssembler" : String) ≠ "java/lang/invoke/MethodHandle" ∧ ("StackAssembler" : String) ≠ "java/lang/invoke/VarHandle" ∧ plainName "StackAssembler" = true := by decide +kernel
theorem mw_SA_init : qz_mw yd_SA_init 0 := ⟨wt_32, wt_1, ⟨pc_StackAssembler.1, pc_StackAssembler.2.1, pd_0⟩, pc_StackAssembler.2.2⟩
theorem vi_SA_init : Cond.instanceMethod yd_SA_init.1 ∈ kz_TT ∧ yd_SA_init.1.name = "<init>" ∧ yd_SA_init.2.2.2.1 = none := ⟨wt_31, rfl, rfl⟩
def yd_Text_add : qz_Y := (⟨"StackAssembler$Text", "add", "(C)V"⟩, prog_13_method_3_code, 2, (Option.none : Option Jvm.ClassFile.FieldType), 0, { frames := 0, cells := 0, slots := 0, locals := 0 })
theorem pd_5 : (parseMethodDescriptor "(C)V").map (fun d => d.parameters.length) = some 1 := by decide +kernel
theorem mw_Text_add : qz_mw yd_Text_add 1 := ⟨wt_386, wt_2, ⟨pc_StackAssembler_Text.1, pc_StackAssembler_Text.2.1, pd_5⟩, pc_StackAssembler_Text.2.2⟩
theorem vw_Text_add : qz_vw yd_Text_add := ⟨wt_384, wt_385⟩
def yd_Text_addBytes : qz_Y := (⟨"StackAssembler$Text", "addBytes", "(J)Z"⟩, prog_13_method_6_code, 6, (Option.some Jvm.ClassFile.FieldType.boolean), 3, { frames := 1, cells := 0, slots := 0, locals := 21 })
theorem pd_6 : (parseMethodDescriptor "(J)Z").map (fun d => d.parameters.length) = some 1 := by decide +kernel
theorem mw_Text_addBytes : qz_mw yd_Text_addBytes 1 := ⟨wt_382, wt_2, ⟨pc_StackAssembler_Text.1, pc_StackAssembler_Text.2.1, pd_6⟩, pc_StackAssembler_Text.2.2⟩
theorem vw_Text_addBytes : qz_vw yd_Text_addBytes := ⟨wt_380, wt_381⟩
def yd_SA_type : qz_Y := (⟨"StackAssembler", "type", "(J)Z"⟩, prog_1_method_2_code, 3, (Option.some Jvm.ClassFile.FieldType.boolean), 3, { frames := 2, cells := 0, slots := 0, locals := 46 })
theorem mw_SA_type : qz_mw yd_SA_type 1 := ⟨wt_378, wt_1, ⟨pc_StackAssembler.1, pc_StackAssembler.2.1, pd_6⟩, pc_StackAssembler.2.2⟩
theorem vw_SA_type : qz_vw yd_SA_type := ⟨wt_376, wt_377⟩
def yd_SA_wipe : qz_Y := (⟨"StackAssembler", "wipe", "()V"⟩, prog_1_method_3_code, 1, (Option.none : Option Jvm.ClassFile.FieldType), 0, { frames := 0, cells := 0, slots := 0, locals := 0 })
theorem mw_SA_wipe : qz_mw yd_SA_wipe 0 := ⟨wt_390, wt_1, ⟨pc_StackAssembler.1, pc_StackAssembler.2.1, pd_0⟩, pc_StackAssembler.2.2⟩
theorem vw_SA_wipe : qz_vw yd_SA_wipe := ⟨wt_388, wt_389⟩
def yd_Text_at : qz_Y := (⟨"StackAssembler$Text", "at", "(I)C"⟩, prog_13_method_2_code, 2, (Option.some Jvm.ClassFile.FieldType.char), 4, { frames := 0, cells := 0, slots := 0, locals := 0 })
theorem pd_7 : (parseMethodDescriptor "(I)C").map (fun d => d.parameters.length) = some 1 := by decide +kernel
theorem mw_Text_at : qz_mw yd_Text_at 1 := ⟨wt_398, wt_2, ⟨pc_StackAssembler_Text.1, pc_StackAssembler_Text.2.1, pd_7⟩, pc_StackAssembler_Text.2.2⟩
theorem vw_Text_at : qz_vw yd_Text_at := ⟨wt_396, wt_397⟩
def yd_SA_character : qz_Y := (⟨"StackAssembler", "character", "(I)C"⟩, prog_1_method_4_code, 2, (Option.some Jvm.ClassFile.FieldType.char), 4, { frames := 1, cells := 0, slots := 0, locals := 21 })
theorem mw_SA_character : qz_mw yd_SA_character 1 := ⟨wt_394, wt_1, ⟨pc_StackAssembler.1, pc_StackAssembler.2.1, pd_7⟩, pc_StackAssembler.2.2⟩
theorem vw_SA_character : qz_vw yd_SA_character := ⟨wt_392, wt_393⟩
def yd_Encoder_add : qz_Y := (⟨"StackAssembler$Encoder", "add", "(I)V"⟩, prog_4_method_16_code, 2, (Option.none : Option Jvm.ClassFile.FieldType), 0, { frames := 0, cells := 0, slots := 0, locals := 0 })
theorem pd_8 : (parseMethodDescriptor "(I)V").map (fun d => d.parameters.length) = some 1 := by decide +kernel
theorem mw_Encoder_add : qz_mw yd_Encoder_add 1 := ⟨wt_412, wt_13, ⟨pc_StackAssembler_Encoder.1, pc_StackAssembler_Encoder.2.1, pd_8⟩, pc_StackAssembler_Encoder.2.2⟩
theorem vw_Encoder_add : qz_vw yd_Encoder_add := ⟨wt_411, wp_0⟩
def yd_Function_isCalledLike : qz_Y := (⟨"StackAssembler$Function", "isCalledLike", "(LStackAssembler$Function;)Z"⟩, prog_6_method_6_code, 4, (Option.some Jvm.ClassFile.FieldType.boolean), 3, { frames := 0, cells := 0, slots := 0, locals := 0 })
theorem pd_9 : (parseMethodDescriptor "(LStackAssembler$Function;)Z").map (fun d => d.parameters.length) = some 1 := by decide +kernel
theorem mw_Function_isCalledLike : qz_mw yd_Function_isCalledLike 1 := ⟨wt_424, wt_4, ⟨pc_StackAssembler_Function.1, pc_StackAssembler_Function.2.1, pd_9⟩, pc_StackAssembler_Function.2.2⟩
theorem vw_Function_isCalledLike : qz_vw yd_Function_isCalledLike := ⟨wt_422, wt_423⟩
def yd_Encoder_numberSignatures : qz_Y := (⟨"StackAssembler$Encoder", "numberSignatures", "(LStackAssembler$Module;)I"⟩, prog_4_method_5_code, 5, (Option.some Jvm.ClassFile.FieldType.int), 1, { frames := 1, cells := 0, slots := 0, locals := 23 })
theorem pd_10 : (parseMethodDescriptor "(LStackAssembler$Module;)I").map (fun d => d.parameters.length) = some 1 := by decide +kernel
theorem mw_Encoder_numberSignatures : qz_mw yd_Encoder_numberSignatures 1 := ⟨wt_420, wt_13, ⟨pc_StackAssembler_Encoder.1, pc_StackAssembler_Encoder.2.1, pd_10⟩, pc_StackAssembler_Encoder.2.2⟩
theorem vw_Encoder_numberSignatures : qz_vw yd_Encoder_numberSignatures := ⟨wt_419, wp_2⟩
def yd_Encoder_addUnsigned : qz_Y := (⟨"StackAssembler$Encoder", "addUnsigned", "(J)V"⟩, prog_4_method_14_code, 6, (Option.none : Option Jvm.ClassFile.FieldType), 0, { frames := 1, cells := 0, slots := 0, locals := 21 })
theorem pd_11 : (parseMethodDescriptor "(J)V").map (fun d => d.parameters.length) = some 1 := by decide +kernel
theorem mw_Encoder_addUnsigned : qz_mw yd_Encoder_addUnsigned 1 := ⟨wt_428, wt_13, ⟨pc_StackAssembler_Encoder.1, pc_StackAssembler_Encoder.2.1, pd_11⟩, pc_StackAssembler_Encoder.2.2⟩
theorem vw_Encoder_addUnsigned : qz_vw yd_Encoder_addUnsigned := ⟨wt_427, wp_3⟩
def yd_Encoder_addType : qz_Y := (⟨"StackAssembler$Encoder", "addType", "(I)V"⟩, prog_4_method_13_code, 2, (Option.none : Option Jvm.ClassFile.FieldType), 0, { frames := 1, cells := 0, slots := 0, locals := 21 })
theorem mw_Encoder_addType : qz_mw yd_Encoder_addType 1 := ⟨wt_437, wt_13, ⟨pc_StackAssembler_Encoder.1, pc_StackAssembler_Encoder.2.1, pd_8⟩, pc_StackAssembler_Encoder.2.2⟩
theorem vw_Encoder_addType : qz_vw yd_Encoder_addType := ⟨wt_436, wp_5⟩
def yd_Encoder_addSignature : qz_Y := (⟨"StackAssembler$Encoder", "addSignature", "(LStackAssembler$Function;)V"⟩, prog_4_method_6_code, 3, (Option.none : Option Jvm.ClassFile.FieldType), 0, { frames := 2, cells := 0, slots := 0, locals := 46 })
theorem pd_12 : (parseMethodDescriptor "(LStackAssembler$Function;)V").map (fun d => d.parameters.length) = some 1 := by decide +kernel
theorem mw_Encoder_addSignature : qz_mw yd_Encoder_addSignature 1 := ⟨wt_433, wt_13, ⟨pc_StackAssembler_Encoder.1, pc_StackAssembler_Encoder.2.1, pd_12⟩, pc_StackAssembler_Encoder.2.2⟩
theorem vw_Encoder_addSignature : qz_vw yd_Encoder_addSignature := ⟨wt_432, wp_4⟩
def yd_Encoder_putSizeAhead : qz_Y := (⟨"StackAssembler$Encoder", "putSizeAhead", "(I)V"⟩, prog_4_method_17_code, 6, (Option.none : Option Jvm.ClassFile.FieldType), 0, { frames := 2, cells := 0, slots := 0, locals := 46 })
theorem mw_Encoder_putSizeAhead : qz_mw yd_Encoder_putSizeAhead 1 := ⟨wt_441, wt_13, ⟨pc_StackAssembler_Encoder.1, pc_StackAssembler_Encoder.2.1, pd_8⟩, pc_StackAssembler_Encoder.2.2⟩
theorem vw_Encoder_putSizeAhead : qz_vw yd_Encoder_putSizeAhead := ⟨wt_440, wp_6⟩
def yd_Encoder_addSignatures : qz_Y := (⟨"StackAssembler$Encoder", "addSignatures", "(LStackAssembler$Module;)V"⟩, prog_4_method_4_code, 5, (Option.none : Option Jvm.ClassFile.FieldType), 0, { frames := 3, cells := 0, slots := 0, locals := 71 })
theorem mw_Encoder_addSignatures : qz_mw yd_Encoder_addSignatures 1 := ⟨wt_416, wt_13, ⟨pc_StackAssembler_Encoder.1, pc_StackAssembler_Encoder.2.1, pd_4⟩, pc_StackAssembler_Encoder.2.2⟩
theorem vw_Encoder_addSignatures : qz_vw yd_Encoder_addSignatures := ⟨wt_415, wp_1⟩
def yd_Encoder_addSignatureNumbers : qz_Y := (⟨"StackAssembler$Encoder", "addSignatureNumbers", "(LStackAssembler$Module;)V"⟩, prog_4_method_7_code, 4, (Option.none : Option Jvm.ClassFile.FieldType), 0, { frames := 3, cells := 0, slots := 0, locals := 71 })
theorem mw_Encoder_addSignatureNumbers : qz_mw yd_Encoder_addSignatureNumbers 1 := ⟨wt_445, wt_13, ⟨pc_StackAssembler_Encoder.1, pc_StackAssembler_Encoder.2.1, pd_4⟩, pc_StackAssembler_Encoder.2.2⟩
theorem vw_Encoder_addSignatureNumbers : qz_vw yd_Encoder_addSignatureNumbers := ⟨wt_444, wp_7⟩
def yd_Function_hasSlot : qz_Y := (⟨"StackAssembler$Function", "hasSlot", "(J)Z"⟩, prog_6_method_3_code, 3, (Option.some Jvm.ClassFile.FieldType.boolean), 3, { frames := 0, cells := 0, slots := 0, locals := 0 })
theorem mw_Function_hasSlot : qz_mw yd_Function_hasSlot 1 := ⟨wt_461, wt_4, ⟨pc_StackAssembler_Function.1, pc_StackAssembler_Function.2.1, pd_6⟩, pc_StackAssembler_Function.2.2⟩
theorem vw_Function_hasSlot : qz_vw yd_Function_hasSlot := ⟨wt_459, wt_460⟩
def yd_Encoder_endsRun : qz_Y := (⟨"StackAssembler$Encoder", "endsRun", "(LStackAssembler$Function;I)Z"⟩, prog_4_method_11_code, 2, (Option.some Jvm.ClassFile.FieldType.boolean), 3, { frames := 1, cells := 0, slots := 0, locals := 22 })
theorem pd_13 : (parseMethodDescriptor "(LStackAssembler$Function;I)Z").map (fun d => d.parameters.length) = some 2 := by decide +kernel
theorem mw_Encoder_endsRun : qz_mw yd_Encoder_endsRun 2 := ⟨wt_465, wt_13, ⟨pc_StackAssembler_Encoder.1, pc_StackAssembler_Encoder.2.1, pd_13⟩, pc_StackAssembler_Encoder.2.2⟩
theorem vs_Encoder_endsRun : Cond.static yd_Encoder_endsRun.1 ∈ kz_TT := wt_464
def yd_Encoder_addRuns : qz_Y := (⟨"StackAssembler$Encoder", "addRuns", "(LStackAssembler$Function;)V"⟩, prog_4_method_10_code, 5, (Option.none : Option Jvm.ClassFile.FieldType), 0, { frames := 2, cells := 0, slots := 0, locals := 46 })
theorem mw_Encoder_addRuns : qz_mw yd_Encoder_addRuns 1 := ⟨wt_457, wt_13, ⟨pc_StackAssembler_Encoder.1, pc_StackAssembler_Encoder.2.1, pd_12⟩, pc_StackAssembler_Encoder.2.2⟩
theorem vw_Encoder_addRuns : qz_vw yd_Encoder_addRuns := ⟨wt_456, wp_10⟩
def yd_Encoder_addSigned : qz_Y := (⟨"StackAssembler$Encoder", "addSigned", "(J)V"⟩, prog_4_method_15_code, 6, (Option.none : Option Jvm.ClassFile.FieldType), 0, { frames := 1, cells := 0, slots := 0, locals := 21 })
theorem mw_Encoder_addSigned : qz_mw yd_Encoder_addSigned 1 := ⟨wt_473, wt_13, ⟨pc_StackAssembler_Encoder.1, pc_StackAssembler_Encoder.2.1, pd_11⟩, pc_StackAssembler_Encoder.2.2⟩
theorem vw_Encoder_addSigned : qz_vw yd_Encoder_addSigned := ⟨wt_472, wp_12⟩
def yd_Encoder_addOperand : qz_Y := (⟨"StackAssembler$Encoder", "addOperand", "(LStackAssembler$Op;J)V"⟩, prog_4_method_12_code, 4, (Option.none : Option Jvm.ClassFile.FieldType), 0, { frames := 2, cells := 0, slots := 0, locals := 46 })
theorem pd_14 : (parseMethodDescriptor "(LStackAssembler$Op;J)V").map (fun d => d.parameters.length) = some 2 := by decide +kernel
theorem mw_Encoder_addOperand : qz_mw yd_Encoder_addOperand 2 := ⟨wt_469, wt_13, ⟨pc_StackAssembler_Encoder.1, pc_StackAssembler_Encoder.2.1, pd_14⟩, pc_StackAssembler_Encoder.2.2⟩
theorem vw_Encoder_addOperand : qz_vw yd_Encoder_addOperand := ⟨wt_468, wp_11⟩
def yd_Encoder_addBody : qz_Y := (⟨"StackAssembler$Encoder", "addBody", "(LStackAssembler$Module;LStackAssembler$Function;)V"⟩, prog_4_method_9_code, 6, (Option.none : Option Jvm.ClassFile.FieldType), 0, { frames := 3, cells := 0, slots := 0, locals := 71 })
theorem pd_15 : (parseMethodDescriptor "(LStackAssembler$Module;LStackAssembler$Function;)V").map (fun d => d.parameters.length) = some 2 := by decide +kernel
theorem mw_Encoder_addBody : qz_mw yd_Encoder_addBody 2 := ⟨wt_453, wt_13, ⟨pc_StackAssembler_Encoder.1, pc_StackAssembler_Encoder.2.1, pd_15⟩, pc_StackAssembler_Encoder.2.2⟩
theorem vw_Encoder_addBody : qz_vw yd_Encoder_addBody := ⟨wt_452, wp_9⟩
def yd_Encoder_addBodies : qz_Y := (⟨"StackAssembler$Encoder", "addBodies", "(LStackAssembler$Module;)V"⟩, prog_4_method_8_code, 4, (Option.none : Option Jvm.ClassFile.FieldType), 0, { frames := 4, cells := 0, slots := 0, locals := 96 })
theorem mw_Encoder_addBodies : qz_mw yd_Encoder_addBodies 1 := ⟨wt_449, wt_13, ⟨pc_StackAssembler_Encoder.1, pc_StackAssembler_Encoder.2.1, pd_4⟩, pc_StackAssembler_Encoder.2.2⟩
theorem vw_Encoder_addBodies : qz_vw yd_Encoder_addBodies := ⟨wt_448, wp_8⟩
def yd_Encoder_write : qz_Y := (⟨"StackAssembler$Encoder", "write", "(LStackAssembler$Module;)V"⟩, prog_4_method_3_code, 3, (Option.none : Option Jvm.ClassFile.FieldType), 0, { frames := 5, cells := 0, slots := 0, locals := 119 })
theorem mw_Encoder_write : qz_mw yd_Encoder_write 1 := ⟨wt_406, wt_13, ⟨pc_StackAssembler_Encoder.1, pc_StackAssembler_Encoder.2.1, pd_4⟩, pc_StackAssembler_Encoder.2.2⟩
theorem vw_Encoder_write : qz_vw yd_Encoder_write := ⟨wt_404, wt_405⟩
def yd_SA_encode : qz_Y := (⟨"StackAssembler", "encode", "()I"⟩, prog_1_method_6_code, 1, (Option.some Jvm.ClassFile.FieldType.int), 1, { frames := 6, cells := 0, slots := 0, locals := 141 })
theorem pd_16 : (parseMethodDescriptor "()I").map (fun d => d.parameters.length) = some 0 := by decide +kernel
theorem mw_SA_encode : qz_mw yd_SA_encode 0 := ⟨wt_402, wt_1, ⟨pc_StackAssembler.1, pc_StackAssembler.2.1, pd_16⟩, pc_StackAssembler.2.2⟩
theorem vw_SA_encode : qz_vw yd_SA_encode := ⟨wt_400, wt_401⟩
def yd_Encoder_at : qz_Y := (⟨"StackAssembler$Encoder", "at", "(I)I"⟩, prog_4_method_2_code, 2, (Option.some Jvm.ClassFile.FieldType.int), 1, { frames := 0, cells := 0, slots := 0, locals := 0 })
theorem pd_17 : (parseMethodDescriptor "(I)I").map (fun d => d.parameters.length) = some 1 := by decide +kernel
theorem mw_Encoder_at : qz_mw yd_Encoder_at 1 := ⟨wt_484, wt_13, ⟨pc_StackAssembler_Encoder.1, pc_StackAssembler_Encoder.2.1, pd_17⟩, pc_StackAssembler_Encoder.2.2⟩
theorem vw_Encoder_at : qz_vw yd_Encoder_at := ⟨wt_482, wt_483⟩
def yd_SA_octet : qz_Y := (⟨"StackAssembler", "octet", "(I)I"⟩, prog_1_method_7_code, 2, (Option.some Jvm.ClassFile.FieldType.int), 1, { frames := 1, cells := 0, slots := 0, locals := 21 })
theorem mw_SA_octet : qz_mw yd_SA_octet 1 := ⟨wt_480, wt_1, ⟨pc_StackAssembler.1, pc_StackAssembler.2.1, pd_17⟩, pc_StackAssembler.2.2⟩
theorem vw_SA_octet : qz_vw yd_SA_octet := ⟨wt_478, wt_479⟩
def yd_SA_place : qz_Y := (⟨"StackAssembler", "place", "()I"⟩, prog_1_method_9_code, 1, (Option.some Jvm.ClassFile.FieldType.int), 1, { frames := 0, cells := 0, slots := 0, locals := 0 })
theorem mw_SA_place : qz_mw yd_SA_place 0 := ⟨wt_488, wt_1, ⟨pc_StackAssembler.1, pc_StackAssembler.2.1, pd_16⟩, pc_StackAssembler.2.2⟩
theorem vw_SA_place : qz_vw yd_SA_place := ⟨wt_486, wt_487⟩
def yd_SA_functions : qz_Y := (⟨"StackAssembler", "functions", "()I"⟩, prog_1_method_10_code, 1, (Option.some Jvm.ClassFile.FieldType.int), 1, { frames := 0, cells := 0, slots := 0, locals := 0 })
theorem mw_SA_functions : qz_mw yd_SA_functions 0 := ⟨wt_492, wt_1, ⟨pc_StackAssembler.1, pc_StackAssembler.2.1, pd_16⟩, pc_StackAssembler.2.2⟩
theorem vw_SA_functions : qz_vw yd_SA_functions := ⟨wt_490, wt_491⟩
def yd_Module_hasFunction : qz_Y := (⟨"StackAssembler$Module", "hasFunction", "(J)Z"⟩, prog_8_method_3_code, 3, (Option.some Jvm.ClassFile.FieldType.boolean), 3, { frames := 0, cells := 0, slots := 0, locals := 0 })
theorem mw_Module_hasFunction : qz_mw yd_Module_hasFunction 1 := ⟨wt_500, wt_3, ⟨pc_StackAssembler_Module.1, pc_StackAssembler_Module.2.1, pd_6⟩, pc_StackAssembler_Module.2.2⟩
theorem vw_Module_hasFunction : qz_vw yd_Module_hasFunction := ⟨wt_498, wt_499⟩
def yd_SA_function : qz_Y := (⟨"StackAssembler", "function", "(II)I"⟩, prog_1_method_11_code, 4, (Option.some Jvm.ClassFile.FieldType.int), 1, { frames := 1, cells := 0, slots := 0, locals := 22 })
theorem pd_18 : (parseMethodDescriptor "(II)I").map (fun d => d.parameters.length) = some 2 := by decide +kernel
theorem mw_SA_function : qz_mw yd_SA_function 2 := ⟨wt_496, wt_1, ⟨pc_StackAssembler.1, pc_StackAssembler.2.1, pd_18⟩, pc_StackAssembler.2.2⟩
theorem vw_SA_function : qz_vw yd_SA_function := ⟨wt_494, wt_495⟩
def yd_Module_hasInstruction : qz_Y := (⟨"StackAssembler$Module", "hasInstruction", "(II)Z"⟩, prog_8_method_4_code, 3, (Option.some Jvm.ClassFile.FieldType.boolean), 3, { frames := 1, cells := 0, slots := 0, locals := 22 })
theorem pd_19 : (parseMethodDescriptor "(II)Z").map (fun d => d.parameters.length) = some 2 := by decide +kernel
theorem mw_Module_hasInstruction : qz_mw yd_Module_hasInstruction 2 := ⟨wt_510, wt_3, ⟨pc_StackAssembler_Module.1, pc_StackAssembler_Module.2.1, pd_19⟩, pc_StackAssembler_Module.2.2⟩
theorem vw_Module_hasInstruction : qz_vw yd_Module_hasInstruction := ⟨wt_508, wt_509⟩
def yd_SA_instruction : qz_Y := (⟨"StackAssembler", "instruction", "(II)I"⟩, prog_1_method_12_code, 3, (Option.some Jvm.ClassFile.FieldType.int), 1, { frames := 2, cells := 0, slots := 0, locals := 44 })
theorem mw_SA_instruction : qz_mw yd_SA_instruction 2 := ⟨wt_506, wt_1, ⟨pc_StackAssembler.1, pc_StackAssembler.2.1, pd_18⟩, pc_StackAssembler.2.2⟩
theorem vw_SA_instruction : qz_vw yd_SA_instruction := ⟨wt_504, wt_505⟩
def yd_SA_immediate : qz_Y := (⟨"StackAssembler", "immediate", "(II)J"⟩, prog_1_method_13_code, 3, (Option.some Jvm.ClassFile.FieldType.long), 2, { frames := 2, cells := 0, slots := 0, locals := 44 })
theorem pd_20 : (parseMethodDescriptor "(II)J").map (fun d => d.parameters.length) = some 2 := by decide +kernel
theorem mw_SA_immediate : qz_mw yd_SA_immediate 2 := ⟨wt_515, wt_1, ⟨pc_StackAssembler.1, pc_StackAssembler.2.1, pd_20⟩, pc_StackAssembler.2.2⟩
theorem vw_SA_immediate : qz_vw yd_SA_immediate := ⟨wt_513, wt_514⟩
def yd_Md_init : qz_Y := (⟨"StackAssemblerModel", "<init>", "()V"⟩, prog_15_method_1_code, 1, (Option.none : Option Jvm.ClassFile.FieldType), 0, { frames := 1, cells := 41, slots := 4442, locals := 20 })
theorem pc_StackAssemblerModel : ("StackAssemblerModel" : String) ≠ "java/lang/invoke/MethodHandle" ∧ ("StackAssemblerModel" : String) ≠ "java/lang/invoke/VarHandle" ∧ plainName "StackAssemblerModel" = true := by decide +kernel
theorem mw_Md_init : qz_mw yd_Md_init 0 := ⟨wt_1080, wt_15, ⟨pc_StackAssemblerModel.1, pc_StackAssemblerModel.2.1, pd_0⟩, pc_StackAssemblerModel.2.2⟩
theorem vi_Md_init : Cond.instanceMethod yd_Md_init.1 ∈ kz_TT ∧ yd_Md_init.1.name = "<init>" ∧ yd_Md_init.2.2.2.1 = none := ⟨wt_1079, rfl, rfl⟩
def yd_Md_thrown : qz_Y := (⟨"StackAssemblerModel", "thrown", "()I"⟩, prog_15_method_2_code, 1, (Option.some Jvm.ClassFile.FieldType.int), 1, { frames := 0, cells := 0, slots := 0, locals := 0 })
theorem mw_Md_thrown : qz_mw yd_Md_thrown 0 := ⟨wt_1314, wt_15, ⟨pc_StackAssemblerModel.1, pc_StackAssemblerModel.2.1, pd_16⟩, pc_StackAssemblerModel.2.2⟩
theorem vw_Md_thrown : qz_vw yd_Md_thrown := ⟨wt_1312, wt_1313⟩
def yd_Md_raise : qz_Y := (⟨"StackAssemblerModel", "raise", "(I)I"⟩, prog_15_method_3_code, 2, (Option.some Jvm.ClassFile.FieldType.int), 1, { frames := 0, cells := 0, slots := 0, locals := 0 })
theorem mw_Md_raise : qz_mw yd_Md_raise 1 := ⟨wt_1493, wt_15, ⟨pc_StackAssemblerModel.1, pc_StackAssemblerModel.2.1, pd_17⟩, pc_StackAssemblerModel.2.2⟩
theorem vw_Md_raise : qz_vw yd_Md_raise := ⟨wt_1492, wp_101⟩
def yd_Md_type : qz_Y := (⟨"StackAssemblerModel", "type", "(J)Z"⟩, prog_15_method_4_code, 7, (Option.some Jvm.ClassFile.FieldType.boolean), 3, { frames := 0, cells := 0, slots := 0, locals := 0 })
theorem mw_Md_type : qz_mw yd_Md_type 1 := ⟨wt_1318, wt_15, ⟨pc_StackAssemblerModel.1, pc_StackAssemblerModel.2.1, pd_6⟩, pc_StackAssemblerModel.2.2⟩
theorem vw_Md_type : qz_vw yd_Md_type := ⟨wt_1316, wt_1317⟩
def yd_Md_wipe : qz_Y := (⟨"StackAssemblerModel", "wipe", "()V"⟩, prog_15_method_5_code, 1, (Option.none : Option Jvm.ClassFile.FieldType), 0, { frames := 0, cells := 0, slots := 0, locals := 0 })
theorem mw_Md_wipe : qz_mw yd_Md_wipe 0 := ⟨wt_1322, wt_15, ⟨pc_StackAssemblerModel.1, pc_StackAssemblerModel.2.1, pd_0⟩, pc_StackAssemblerModel.2.2⟩
theorem vw_Md_wipe : qz_vw yd_Md_wipe := ⟨wt_1320, wt_1321⟩
def yd_Md_character : qz_Y := (⟨"StackAssemblerModel", "character", "(I)C"⟩, prog_15_method_6_code, 2, (Option.some Jvm.ClassFile.FieldType.char), 4, { frames := 0, cells := 0, slots := 0, locals := 0 })
theorem mw_Md_character : qz_mw yd_Md_character 1 := ⟨wt_1326, wt_15, ⟨pc_StackAssemblerModel.1, pc_StackAssemblerModel.2.1, pd_7⟩, pc_StackAssemblerModel.2.2⟩
theorem vw_Md_character : qz_vw yd_Md_character := ⟨wt_1324, wt_1325⟩
def yd_Md_ch : qz_Y := (⟨"StackAssemblerModel", "ch", "(I)I"⟩, prog_15_method_7_code, 2, (Option.some Jvm.ClassFile.FieldType.int), 1, { frames := 0, cells := 0, slots := 0, locals := 0 })
theorem mw_Md_ch : qz_mw yd_Md_ch 1 := ⟨wt_1342, wt_15, ⟨pc_StackAssemblerModel.1, pc_StackAssemblerModel.2.1, pd_17⟩, pc_StackAssemblerModel.2.2⟩
theorem vw_Md_ch : qz_vw yd_Md_ch := ⟨wt_1341, wp_69⟩
def yd_Md_isDigit : qz_Y := (⟨"StackAssemblerModel", "isDigit", "(I)Z"⟩, prog_15_method_8_code, 1, (Option.some Jvm.ClassFile.FieldType.boolean), 3, { frames := 0, cells := 0, slots := 0, locals := 0 })
theorem pd_21 : (parseMethodDescriptor "(I)Z").map (fun d => d.parameters.length) = some 1 := by decide +kernel
theorem mw_Md_isDigit : qz_mw yd_Md_isDigit 1 := ⟨wt_1352, wt_15, ⟨pc_StackAssemblerModel.1, pc_StackAssemblerModel.2.1, pd_21⟩, pc_StackAssemblerModel.2.2⟩
theorem vs_Md_isDigit : Cond.static yd_Md_isDigit.1 ∈ kz_TT := wt_1351
def yd_Md_isSign : qz_Y := (⟨"StackAssemblerModel", "isSign", "(I)Z"⟩, prog_15_method_9_code, 4, (Option.some Jvm.ClassFile.FieldType.boolean), 3, { frames := 1, cells := 0, slots := 0, locals := 20 })
theorem mw_Md_isSign : qz_mw yd_Md_isSign 1 := ⟨wt_1349, wt_15, ⟨pc_StackAssemblerModel.1, pc_StackAssemblerModel.2.1, pd_21⟩, pc_StackAssemblerModel.2.2⟩
theorem vs_Md_isSign : Cond.static yd_Md_isSign.1 ∈ kz_TT := wt_1348
def yd_Md_comment : qz_Y := (⟨"StackAssemblerModel", "comment", "()Z"⟩, prog_15_method_10_code, 5, (Option.some Jvm.ClassFile.FieldType.boolean), 3, { frames := 1, cells := 0, slots := 0, locals := 21 })
theorem pd_22 : (parseMethodDescriptor "()Z").map (fun d => d.parameters.length) = some 0 := by decide +kernel
theorem mw_Md_comment : qz_mw yd_Md_comment 0 := ⟨wt_1346, wt_15, ⟨pc_StackAssemblerModel.1, pc_StackAssemblerModel.2.1, pd_22⟩, pc_StackAssemblerModel.2.2⟩
theorem vw_Md_comment : qz_vw yd_Md_comment := ⟨wt_1345, wp_70⟩
def yd_Md_readWord : qz_Y := (⟨"StackAssemblerModel", "readWord", "()V"⟩, prog_15_method_12_code, 2, (Option.none : Option Jvm.ClassFile.FieldType), 0, { frames := 2, cells := 0, slots := 0, locals := 43 })
theorem mw_Md_readWord : qz_mw yd_Md_readWord 0 := ⟨wt_1356, wt_15, ⟨pc_StackAssemblerModel.1, pc_StackAssemblerModel.2.1, pd_0⟩, pc_StackAssemblerModel.2.2⟩
theorem vw_Md_readWord : qz_vw yd_Md_readWord := ⟨wt_1355, wp_71⟩
def yd_Md_next : qz_Y := (⟨"StackAssemblerModel", "next", "()V"⟩, prog_15_method_11_code, 3, (Option.none : Option Jvm.ClassFile.FieldType), 0, { frames := 3, cells := 0, slots := 0, locals := 64 })
theorem mw_Md_next : qz_mw yd_Md_next 0 := ⟨wt_1338, wt_15, ⟨pc_StackAssemblerModel.1, pc_StackAssemblerModel.2.1, pd_0⟩, pc_StackAssemblerModel.2.2⟩
theorem vw_Md_next : qz_vw yd_Md_next := ⟨wt_1337, wp_68⟩
def yd_Md_is : qz_Y := (⟨"StackAssemblerModel", "is", "(JI)Z"⟩, prog_15_method_13_code, 4, (Option.some Jvm.ClassFile.FieldType.boolean), 3, { frames := 0, cells := 0, slots := 0, locals := 0 })
theorem pd_23 : (parseMethodDescriptor "(JI)Z").map (fun d => d.parameters.length) = some 2 := by decide +kernel
theorem mw_Md_is : qz_mw yd_Md_is 2 := ⟨wt_1373, wt_15, ⟨pc_StackAssemblerModel.1, pc_StackAssemblerModel.2.1, pd_23⟩, pc_StackAssemblerModel.2.2⟩
theorem vw_Md_is : qz_vw yd_Md_is := ⟨wt_1372, wp_75⟩
def yd_Md_isId : qz_Y := (⟨"StackAssemblerModel", "isId", "()Z"⟩, prog_15_method_14_code, 1, (Option.some Jvm.ClassFile.FieldType.boolean), 3, { frames := 0, cells := 0, slots := 0, locals := 0 })
theorem mw_Md_isId : qz_mw yd_Md_isId 0 := ⟨wt_1382, wt_15, ⟨pc_StackAssemblerModel.1, pc_StackAssemblerModel.2.1, pd_22⟩, pc_StackAssemblerModel.2.2⟩
theorem vw_Md_isId : qz_vw yd_Md_isId := ⟨wt_1381, wp_77⟩
def yd_Md_fail : qz_Y := (⟨"StackAssemblerModel", "fail", "(I)Z"⟩, prog_15_method_15_code, 2, (Option.some Jvm.ClassFile.FieldType.boolean), 3, { frames := 0, cells := 0, slots := 0, locals := 0 })
theorem mw_Md_fail : qz_mw yd_Md_fail 1 := ⟨wt_1364, wt_15, ⟨pc_StackAssemblerModel.1, pc_StackAssemblerModel.2.1, pd_21⟩, pc_StackAssemblerModel.2.2⟩
theorem vw_Md_fail : qz_vw yd_Md_fail := ⟨wt_1363, wp_73⟩
def yd_Md_pass : qz_Y := (⟨"StackAssemblerModel", "pass", "(I)Z"⟩, prog_15_method_16_code, 2, (Option.some Jvm.ClassFile.FieldType.boolean), 3, { frames := 4, cells := 0, slots := 0, locals := 86 })
theorem mw_Md_pass : qz_mw yd_Md_pass 1 := ⟨wt_1360, wt_15, ⟨pc_StackAssemblerModel.1, pc_StackAssemblerModel.2.1, pd_21⟩, pc_StackAssemblerModel.2.2⟩
theorem vw_Md_pass : qz_vw yd_Md_pass := ⟨wt_1359, wp_72⟩
def yd_Md_passWord : qz_Y := (⟨"StackAssemblerModel", "passWord", "(JI)Z"⟩, prog_15_method_17_code, 4, (Option.some Jvm.ClassFile.FieldType.boolean), 3, { frames := 4, cells := 0, slots := 0, locals := 86 })
theorem mw_Md_passWord : qz_mw yd_Md_passWord 2 := ⟨wt_1369, wt_15, ⟨pc_StackAssemblerModel.1, pc_StackAssemblerModel.2.1, pd_23⟩, pc_StackAssemblerModel.2.2⟩
theorem vw_Md_passWord : qz_vw yd_Md_passWord := ⟨wt_1368, wp_74⟩
def yd_Md_sameName : qz_Y := (⟨"StackAssemblerModel", "sameName", "(IIII)Z"⟩, prog_15_method_18_code, 7, (Option.some Jvm.ClassFile.FieldType.boolean), 3, { frames := 0, cells := 0, slots := 0, locals := 0 })
theorem pd_24 : (parseMethodDescriptor "(IIII)Z").map (fun d => d.parameters.length) = some 4 := by decide +kernel
theorem mw_Md_sameName : qz_mw yd_Md_sameName 4 := ⟨wt_1386, wt_15, ⟨pc_StackAssemblerModel.1, pc_StackAssemblerModel.2.1, pd_24⟩, pc_StackAssemblerModel.2.2⟩
theorem vw_Md_sameName : qz_vw yd_Md_sameName := ⟨wt_1385, wp_78⟩
def yd_Md_digits : qz_Y := (⟨"StackAssemblerModel", "digits", "(I)Z"⟩, prog_15_method_19_code, 6, (Option.some Jvm.ClassFile.FieldType.boolean), 3, { frames := 0, cells := 0, slots := 0, locals := 0 })
theorem mw_Md_digits : qz_mw yd_Md_digits 1 := ⟨wt_1434, wt_15, ⟨pc_StackAssemblerModel.1, pc_StackAssemblerModel.2.1, pd_21⟩, pc_StackAssemblerModel.2.2⟩
theorem vw_Md_digits : qz_vw yd_Md_digits := ⟨wt_1433, wp_88⟩
def yd_Md_below32 : qz_Y := (⟨"StackAssemblerModel", "below32", "(J)Z"⟩, prog_15_method_20_code, 2, (Option.some Jvm.ClassFile.FieldType.boolean), 3, { frames := 0, cells := 0, slots := 0, locals := 0 })
theorem mw_Md_below32 : qz_mw yd_Md_below32 1 := ⟨wt_1440, wt_15, ⟨pc_StackAssemblerModel.1, pc_StackAssemblerModel.2.1, pd_6⟩, pc_StackAssemblerModel.2.2⟩
theorem vs_Md_below32 : Cond.static yd_Md_below32.1 ∈ kz_TT := wt_1439
def yd_Md_constant : qz_Y := (⟨"StackAssemblerModel", "constant", "(Z)Z"⟩, prog_15_method_21_code, 5, (Option.some Jvm.ClassFile.FieldType.boolean), 3, { frames := 4, cells := 0, slots := 0, locals := 86 })
theorem pd_25 : (parseMethodDescriptor "(Z)Z").map (fun d => d.parameters.length) = some 1 := by decide +kernel
theorem mw_Md_constant : qz_mw yd_Md_constant 1 := ⟨wt_1430, wt_15, ⟨pc_StackAssemblerModel.1, pc_StackAssemblerModel.2.1, pd_25⟩, pc_StackAssemblerModel.2.2⟩
theorem vw_Md_constant : qz_vw yd_Md_constant := ⟨wt_1429, wp_87⟩
def yd_Md_labelOf : qz_Y := (⟨"StackAssemblerModel", "labelOf", "()I"⟩, prog_15_method_23_code, 3, (Option.some Jvm.ClassFile.FieldType.int), 1, { frames := 1, cells := 0, slots := 0, locals := 26 })
theorem mw_Md_labelOf : qz_mw yd_Md_labelOf 0 := ⟨wt_1449, wt_15, ⟨pc_StackAssemblerModel.1, pc_StackAssemblerModel.2.1, pd_16⟩, pc_StackAssemblerModel.2.2⟩
theorem vw_Md_labelOf : qz_vw yd_Md_labelOf := ⟨wt_1448, wp_90⟩
def yd_Md_variableOf : qz_Y := (⟨"StackAssemblerModel", "variableOf", "(I)I"⟩, prog_15_method_24_code, 3, (Option.some Jvm.ClassFile.FieldType.int), 1, { frames := 1, cells := 0, slots := 0, locals := 26 })
theorem mw_Md_variableOf : qz_mw yd_Md_variableOf 1 := ⟨wt_1395, wt_15, ⟨pc_StackAssemblerModel.1, pc_StackAssemblerModel.2.1, pd_17⟩, pc_StackAssemblerModel.2.2⟩
theorem vw_Md_variableOf : qz_vw yd_Md_variableOf := ⟨wt_1394, wp_80⟩
def yd_Md_index : qz_Y := (⟨"StackAssemblerModel", "index", "(II)Z"⟩, prog_15_method_22_code, 4, (Option.some Jvm.ClassFile.FieldType.boolean), 3, { frames := 4, cells := 0, slots := 0, locals := 86 })
theorem mw_Md_index : qz_mw yd_Md_index 2 := ⟨wt_1445, wt_15, ⟨pc_StackAssemblerModel.1, pc_StackAssemblerModel.2.1, pd_19⟩, pc_StackAssemblerModel.2.2⟩
theorem vw_Md_index : qz_vw yd_Md_index := ⟨wt_1444, wp_89⟩
def yd_Md_instructionWord : qz_Y := (⟨"StackAssemblerModel", "instructionWord", "()I"⟩, prog_15_method_25_code, 3, (Option.some Jvm.ClassFile.FieldType.int), 1, { frames := 0, cells := 0, slots := 0, locals := 0 })
theorem mw_Md_instructionWord : qz_mw yd_Md_instructionWord 0 := ⟨wt_1419, wt_15, ⟨pc_StackAssemblerModel.1, pc_StackAssemblerModel.2.1, pd_16⟩, pc_StackAssemblerModel.2.2⟩
theorem vw_Md_instructionWord : qz_vw yd_Md_instructionWord := ⟨wt_1418, wp_85⟩
def yd_Md_isPlain : qz_Y := (⟨"StackAssemblerModel", "isPlain", "(I)Z"⟩, prog_15_method_26_code, 1, (Option.some Jvm.ClassFile.FieldType.boolean), 3, { frames := 0, cells := 0, slots := 0, locals := 0 })
theorem mw_Md_isPlain : qz_mw yd_Md_isPlain 1 := ⟨wt_1422, wt_15, ⟨pc_StackAssemblerModel.1, pc_StackAssemblerModel.2.1, pd_21⟩, pc_StackAssemblerModel.2.2⟩
theorem vs_Md_isPlain : Cond.static yd_Md_isPlain.1 ∈ kz_TT := wt_1421
def yd_Md_variable : qz_Y := (⟨"StackAssemblerModel", "variable", "(IZII)Z"⟩, prog_15_method_30_code, 7, (Option.some Jvm.ClassFile.FieldType.boolean), 3, { frames := 4, cells := 0, slots := 0, locals := 86 })
theorem pd_26 : (parseMethodDescriptor "(IZII)Z").map (fun d => d.parameters.length) = some 4 := by decide +kernel
theorem mw_Md_variable : qz_mw yd_Md_variable 4 := ⟨wt_1399, wt_15, ⟨pc_StackAssemblerModel.1, pc_StackAssemblerModel.2.1, pd_26⟩, pc_StackAssemblerModel.2.2⟩
theorem vw_Md_variable : qz_vw yd_Md_variable := ⟨wt_1398, wp_81⟩
def yd_Md_variables : qz_Y := (⟨"StackAssemblerModel", "variables", "(IZ)Z"⟩, prog_15_method_31_code, 5, (Option.some Jvm.ClassFile.FieldType.boolean), 3, { frames := 5, cells := 0, slots := 0, locals := 112 })
theorem pd_27 : (parseMethodDescriptor "(IZ)Z").map (fun d => d.parameters.length) = some 2 := by decide +kernel
theorem mw_Md_variables : qz_mw yd_Md_variables 2 := ⟨wt_1391, wt_15, ⟨pc_StackAssemblerModel.1, pc_StackAssemblerModel.2.1, pd_27⟩, pc_StackAssemblerModel.2.2⟩
theorem vw_Md_variables : qz_vw yd_Md_variables := ⟨wt_1390, wp_79⟩
def yd_Md_readType : qz_Y := (⟨"StackAssemblerModel", "readType", "()I"⟩, prog_15_method_29_code, 2, (Option.some Jvm.ClassFile.FieldType.int), 1, { frames := 4, cells := 0, slots := 0, locals := 86 })
theorem mw_Md_readType : qz_mw yd_Md_readType 0 := ⟨wt_1406, wt_15, ⟨pc_StackAssemblerModel.1, pc_StackAssemblerModel.2.1, pd_16⟩, pc_StackAssemblerModel.2.2⟩
theorem vw_Md_readType : qz_vw yd_Md_readType := ⟨wt_1405, wp_82⟩
def yd_Md_readImmediate : qz_Y := (⟨"StackAssemblerModel", "readImmediate", "(II)Z"⟩, prog_15_method_34_code, 4, (Option.some Jvm.ClassFile.FieldType.boolean), 3, { frames := 5, cells := 0, slots := 0, locals := 110 })
theorem mw_Md_readImmediate : qz_mw yd_Md_readImmediate 2 := ⟨wt_1426, wt_15, ⟨pc_StackAssemblerModel.1, pc_StackAssemblerModel.2.1, pd_19⟩, pc_StackAssemblerModel.2.2⟩
theorem vw_Md_readImmediate : qz_vw yd_Md_readImmediate := ⟨wt_1425, wp_86⟩
def yd_Md_fold : qz_Y := (⟨"StackAssemblerModel", "fold", "(I)Z"⟩, prog_15_method_35_code, 4, (Option.some Jvm.ClassFile.FieldType.boolean), 3, { frames := 6, cells := 0, slots := 0, locals := 133 })
theorem mw_Md_fold : qz_mw yd_Md_fold 1 := ⟨wt_1415, wt_15, ⟨pc_StackAssemblerModel.1, pc_StackAssemblerModel.2.1, pd_21⟩, pc_StackAssemblerModel.2.2⟩
theorem vw_Md_fold : qz_vw yd_Md_fold := ⟨wt_1414, wp_84⟩
def yd_Md_open : qz_Y := (⟨"StackAssemblerModel", "open", "()Z"⟩, prog_15_method_38_code, 1, (Option.some Jvm.ClassFile.FieldType.boolean), 3, { frames := 4, cells := 0, slots := 0, locals := 86 })
theorem mw_Md_open : qz_mw yd_Md_open 0 := ⟨wt_1457, wt_15, ⟨pc_StackAssemblerModel.1, pc_StackAssemblerModel.2.1, pd_22⟩, pc_StackAssemblerModel.2.2⟩
theorem vw_Md_open : qz_vw yd_Md_open := ⟨wt_1456, wp_92⟩
def yd_Md_hasRoom : qz_Y := (⟨"StackAssemblerModel", "hasRoom", "()Z"⟩, prog_15_method_33_code, 1, (Option.some Jvm.ClassFile.FieldType.boolean), 3, { frames := 1, cells := 0, slots := 0, locals := 21 })
theorem mw_Md_hasRoom : qz_mw yd_Md_hasRoom 0 := ⟨wt_1461, wt_15, ⟨pc_StackAssemblerModel.1, pc_StackAssemblerModel.2.1, pd_22⟩, pc_StackAssemblerModel.2.2⟩
theorem vw_Md_hasRoom : qz_vw yd_Md_hasRoom := ⟨wt_1460, wp_93⟩
def yd_Md_emit : qz_Y := (⟨"StackAssemblerModel", "emit", "(IJ)I"⟩, prog_15_method_32_code, 4, (Option.some Jvm.ClassFile.FieldType.int), 1, { frames := 0, cells := 0, slots := 0, locals := 0 })
theorem pd_28 : (parseMethodDescriptor "(IJ)I").map (fun d => d.parameters.length) = some 2 := by decide +kernel
theorem mw_Md_emit : qz_mw yd_Md_emit 2 := ⟨wt_1465, wt_15, ⟨pc_StackAssemblerModel.1, pc_StackAssemblerModel.2.1, pd_28⟩, pc_StackAssemblerModel.2.2⟩
theorem vw_Md_emit : qz_vw yd_Md_emit := ⟨wt_1464, wp_94⟩
def yd_Md_noteCall : qz_Y := (⟨"StackAssemblerModel", "noteCall", "(II)V"⟩, prog_15_method_36_code, 3, (Option.none : Option Jvm.ClassFile.FieldType), 0, { frames := 0, cells := 0, slots := 0, locals := 0 })
theorem pd_29 : (parseMethodDescriptor "(II)V").map (fun d => d.parameters.length) = some 2 := by decide +kernel
theorem mw_Md_noteCall : qz_mw yd_Md_noteCall 2 := ⟨wt_1469, wt_15, ⟨pc_StackAssemblerModel.1, pc_StackAssemblerModel.2.1, pd_29⟩, pc_StackAssemblerModel.2.2⟩
theorem vw_Md_noteCall : qz_vw yd_Md_noteCall := ⟨wt_1468, wp_95⟩
def yd_Md_inFold : qz_Y := (⟨"StackAssemblerModel", "inFold", "(I)Z"⟩, prog_15_method_37_code, 2, (Option.some Jvm.ClassFile.FieldType.boolean), 3, { frames := 7, cells := 0, slots := 0, locals := 156 })
theorem mw_Md_inFold : qz_mw yd_Md_inFold 1 := ⟨wt_1453, wt_15, ⟨pc_StackAssemblerModel.1, pc_StackAssemblerModel.2.1, pd_21⟩, pc_StackAssemblerModel.2.2⟩
theorem vw_Md_inFold : qz_vw yd_Md_inFold := ⟨wt_1452, wp_91⟩
def yd_Md_beginBlock : qz_Y := (⟨"StackAssemblerModel", "beginBlock", "(II)Z"⟩, prog_15_method_40_code, 5, (Option.some Jvm.ClassFile.FieldType.boolean), 3, { frames := 7, cells := 0, slots := 0, locals := 156 })
theorem mw_Md_beginBlock : qz_mw yd_Md_beginBlock 2 := ⟨wt_1477, wt_15, ⟨pc_StackAssemblerModel.1, pc_StackAssemblerModel.2.1, pd_19⟩, pc_StackAssemblerModel.2.2⟩
theorem vw_Md_beginBlock : qz_vw yd_Md_beginBlock := ⟨wt_1476, wp_97⟩
def yd_Md_blockName : qz_Y := (⟨"StackAssemblerModel", "blockName", "(I)Z"⟩, prog_15_method_39_code, 2, (Option.some Jvm.ClassFile.FieldType.boolean), 3, { frames := 4, cells := 0, slots := 0, locals := 86 })
theorem mw_Md_blockName : qz_mw yd_Md_blockName 1 := ⟨wt_1485, wt_15, ⟨pc_StackAssemblerModel.1, pc_StackAssemblerModel.2.1, pd_21⟩, pc_StackAssemblerModel.2.2⟩
theorem vw_Md_blockName : qz_vw yd_Md_blockName := ⟨wt_1484, wp_99⟩
def yd_Md_turnBlock : qz_Y := (⟨"StackAssemblerModel", "turnBlock", "(I)Z"⟩, prog_15_method_41_code, 5, (Option.some Jvm.ClassFile.FieldType.boolean), 3, { frames := 5, cells := 0, slots := 0, locals := 107 })
theorem mw_Md_turnBlock : qz_mw yd_Md_turnBlock 1 := ⟨wt_1481, wt_15, ⟨pc_StackAssemblerModel.1, pc_StackAssemblerModel.2.1, pd_21⟩, pc_StackAssemblerModel.2.2⟩
theorem vw_Md_turnBlock : qz_vw yd_Md_turnBlock := ⟨wt_1480, wp_98⟩
def yd_Md_readInstruction : qz_Y := (⟨"StackAssemblerModel", "readInstruction", "(I)Z"⟩, prog_15_method_42_code, 4, (Option.some Jvm.ClassFile.FieldType.boolean), 3, { frames := 8, cells := 0, slots := 0, locals := 180 })
theorem mw_Md_readInstruction : qz_mw yd_Md_readInstruction 1 := ⟨wt_1473, wt_15, ⟨pc_StackAssemblerModel.1, pc_StackAssemblerModel.2.1, pd_21⟩, pc_StackAssemblerModel.2.2⟩
theorem vw_Md_readInstruction : qz_vw yd_Md_readInstruction := ⟨wt_1472, wp_96⟩
def yd_Md_body : qz_Y := (⟨"StackAssemblerModel", "body", "(IZ)Z"⟩, prog_15_method_43_code, 5, (Option.some Jvm.ClassFile.FieldType.boolean), 3, { frames := 9, cells := 0, slots := 0, locals := 203 })
theorem mw_Md_body : qz_mw yd_Md_body 2 := ⟨wt_1411, wt_15, ⟨pc_StackAssemblerModel.1, pc_StackAssemblerModel.2.1, pd_27⟩, pc_StackAssemblerModel.2.2⟩
theorem vw_Md_body : qz_vw yd_Md_body := ⟨wt_1410, wp_83⟩
def yd_Md_readFunction : qz_Y := (⟨"StackAssemblerModel", "readFunction", "(I)Z"⟩, prog_15_method_28_code, 4, (Option.some Jvm.ClassFile.FieldType.boolean), 3, { frames := 10, cells := 0, slots := 0, locals := 227 })
theorem mw_Md_readFunction : qz_mw yd_Md_readFunction 1 := ⟨wt_1378, wt_15, ⟨pc_StackAssemblerModel.1, pc_StackAssemblerModel.2.1, pd_21⟩, pc_StackAssemblerModel.2.2⟩
theorem vw_Md_readFunction : qz_vw yd_Md_readFunction := ⟨wt_1377, wp_76⟩
def yd_Md_readModule : qz_Y := (⟨"StackAssemblerModel", "readModule", "()Z"⟩, prog_15_method_27_code, 1, (Option.some Jvm.ClassFile.FieldType.boolean), 3, { frames := 11, cells := 0, slots := 0, locals := 250 })
theorem mw_Md_readModule : qz_mw yd_Md_readModule 0 := ⟨wt_1334, wt_15, ⟨pc_StackAssemblerModel.1, pc_StackAssemblerModel.2.1, pd_22⟩, pc_StackAssemblerModel.2.2⟩
theorem vw_Md_readModule : qz_vw yd_Md_readModule := ⟨wt_1333, wp_67⟩
def yd_Md_resolve : qz_Y := (⟨"StackAssemblerModel", "resolve", "()Z"⟩, prog_15_method_44_code, 4, (Option.some Jvm.ClassFile.FieldType.boolean), 3, { frames := 1, cells := 0, slots := 0, locals := 26 })
theorem mw_Md_resolve : qz_mw yd_Md_resolve 0 := ⟨wt_1489, wt_15, ⟨pc_StackAssemblerModel.1, pc_StackAssemblerModel.2.1, pd_22⟩, pc_StackAssemblerModel.2.2⟩
theorem vw_Md_resolve : qz_vw yd_Md_resolve := ⟨wt_1488, wp_100⟩
def yd_Md_bad : qz_Y := (⟨"StackAssemblerModel", "bad", "()V"⟩, prog_15_method_45_code, 1, (Option.none : Option Jvm.ClassFile.FieldType), 0, { frames := 0, cells := 0, slots := 0, locals := 0 })
theorem mw_Md_bad : qz_mw yd_Md_bad 0 := ⟨wt_1537, wt_15, ⟨pc_StackAssemblerModel.1, pc_StackAssemblerModel.2.1, pd_0⟩, pc_StackAssemblerModel.2.2⟩
theorem vw_Md_bad : qz_vw yd_Md_bad := ⟨wt_1536, wp_112⟩
def yd_Md_take : qz_Y := (⟨"StackAssemblerModel", "take", "(I)I"⟩, prog_15_method_46_code, 4, (Option.some Jvm.ClassFile.FieldType.int), 1, { frames := 0, cells := 0, slots := 0, locals := 0 })
theorem mw_Md_take : qz_mw yd_Md_take 1 := ⟨wt_1513, wt_15, ⟨pc_StackAssemblerModel.1, pc_StackAssemblerModel.2.1, pd_17⟩, pc_StackAssemblerModel.2.2⟩
theorem vw_Md_take : qz_vw yd_Md_take := ⟨wt_1512, wp_106⟩
def yd_Md_put : qz_Y := (⟨"StackAssemblerModel", "put", "(I)V"⟩, prog_15_method_47_code, 2, (Option.none : Option Jvm.ClassFile.FieldType), 0, { frames := 0, cells := 0, slots := 0, locals := 0 })
theorem mw_Md_put : qz_mw yd_Md_put 1 := ⟨wt_1529, wt_15, ⟨pc_StackAssemblerModel.1, pc_StackAssemblerModel.2.1, pd_8⟩, pc_StackAssemblerModel.2.2⟩
theorem vw_Md_put : qz_vw yd_Md_put := ⟨wt_1528, wp_110⟩
def yd_Md_takeAndPut : qz_Y := (⟨"StackAssemblerModel", "takeAndPut", "(I)V"⟩, prog_15_method_48_code, 3, (Option.none : Option Jvm.ClassFile.FieldType), 0, { frames := 1, cells := 0, slots := 0, locals := 23 })
theorem mw_Md_takeAndPut : qz_mw yd_Md_takeAndPut 1 := ⟨wt_1541, wt_15, ⟨pc_StackAssemblerModel.1, pc_StackAssemblerModel.2.1, pd_8⟩, pc_StackAssemblerModel.2.2⟩
theorem vw_Md_takeAndPut : qz_vw yd_Md_takeAndPut := ⟨wt_1540, wp_113⟩
def yd_Md_takeResult : qz_Y := (⟨"StackAssemblerModel", "takeResult", "(I)V"⟩, prog_15_method_49_code, 3, (Option.none : Option Jvm.ClassFile.FieldType), 0, { frames := 1, cells := 0, slots := 0, locals := 23 })
theorem mw_Md_takeResult : qz_mw yd_Md_takeResult 1 := ⟨wt_1509, wt_15, ⟨pc_StackAssemblerModel.1, pc_StackAssemblerModel.2.1, pd_8⟩, pc_StackAssemblerModel.2.2⟩
theorem vw_Md_takeResult : qz_vw yd_Md_takeResult := ⟨wt_1508, wp_105⟩
def yd_Md_die : qz_Y := (⟨"StackAssemblerModel", "die", "()V"⟩, prog_15_method_50_code, 1, (Option.none : Option Jvm.ClassFile.FieldType), 0, { frames := 0, cells := 0, slots := 0, locals := 0 })
theorem mw_Md_die : qz_mw yd_Md_die 0 := ⟨wt_1521, wt_15, ⟨pc_StackAssemblerModel.1, pc_StackAssemblerModel.2.1, pd_0⟩, pc_StackAssemblerModel.2.2⟩
theorem vw_Md_die : qz_vw yd_Md_die := ⟨wt_1520, wp_108⟩
def yd_Md_frame : qz_Y := (⟨"StackAssemblerModel", "frame", "(III)V"⟩, prog_15_method_51_code, 4, (Option.none : Option Jvm.ClassFile.FieldType), 0, { frames := 0, cells := 0, slots := 0, locals := 0 })
theorem pd_30 : (parseMethodDescriptor "(III)V").map (fun d => d.parameters.length) = some 3 := by decide +kernel
theorem mw_Md_frame : qz_mw yd_Md_frame 3 := ⟨wt_1501, wt_15, ⟨pc_StackAssemblerModel.1, pc_StackAssemblerModel.2.1, pd_30⟩, pc_StackAssemblerModel.2.2⟩
theorem vw_Md_frame : qz_vw yd_Md_frame := ⟨wt_1500, wp_103⟩
def yd_Md_endFrame : qz_Y := (⟨"StackAssemblerModel", "endFrame", "()V"⟩, prog_15_method_52_code, 2, (Option.none : Option Jvm.ClassFile.FieldType), 0, { frames := 2, cells := 0, slots := 0, locals := 45 })
theorem mw_Md_endFrame : qz_mw yd_Md_endFrame 0 := ⟨wt_1505, wt_15, ⟨pc_StackAssemblerModel.1, pc_StackAssemblerModel.2.1, pd_0⟩, pc_StackAssemblerModel.2.2⟩
theorem vw_Md_endFrame : qz_vw yd_Md_endFrame := ⟨wt_1504, wp_104⟩
def yd_Md_control : qz_Y := (⟨"StackAssemblerModel", "control", "(II)V"⟩, prog_15_method_53_code, 4, (Option.none : Option Jvm.ClassFile.FieldType), 0, { frames := 3, cells := 0, slots := 0, locals := 66 })
theorem mw_Md_control : qz_mw yd_Md_control 2 := ⟨wt_1525, wt_15, ⟨pc_StackAssemblerModel.1, pc_StackAssemblerModel.2.1, pd_29⟩, pc_StackAssemblerModel.2.2⟩
theorem vw_Md_control : qz_vw yd_Md_control := ⟨wt_1524, wp_109⟩
def yd_Md_branch : qz_Y := (⟨"StackAssemblerModel", "branch", "(IJ)V"⟩, prog_15_method_54_code, 5, (Option.none : Option Jvm.ClassFile.FieldType), 0, { frames := 2, cells := 0, slots := 0, locals := 45 })
theorem pd_31 : (parseMethodDescriptor "(IJ)V").map (fun d => d.parameters.length) = some 2 := by decide +kernel
theorem mw_Md_branch : qz_mw yd_Md_branch 2 := ⟨wt_1533, wt_15, ⟨pc_StackAssemblerModel.1, pc_StackAssemblerModel.2.1, pd_31⟩, pc_StackAssemblerModel.2.2⟩
theorem vw_Md_branch : qz_vw yd_Md_branch := ⟨wt_1532, wp_111⟩
def yd_Md_callOf : qz_Y := (⟨"StackAssemblerModel", "callOf", "(J)V"⟩, prog_15_method_55_code, 5, (Option.none : Option Jvm.ClassFile.FieldType), 0, { frames := 2, cells := 0, slots := 0, locals := 45 })
theorem mw_Md_callOf : qz_mw yd_Md_callOf 1 := ⟨wt_1545, wt_15, ⟨pc_StackAssemblerModel.1, pc_StackAssemblerModel.2.1, pd_11⟩, pc_StackAssemblerModel.2.2⟩
theorem vw_Md_callOf : qz_vw yd_Md_callOf := ⟨wt_1544, wp_114⟩
def yd_Md_local : qz_Y := (⟨"StackAssemblerModel", "local", "(IIJ)V"⟩, prog_15_method_56_code, 6, (Option.none : Option Jvm.ClassFile.FieldType), 0, { frames := 2, cells := 0, slots := 0, locals := 45 })
theorem pd_32 : (parseMethodDescriptor "(IIJ)V").map (fun d => d.parameters.length) = some 3 := by decide +kernel
theorem mw_Md_local : qz_mw yd_Md_local 3 := ⟨wt_1553, wt_15, ⟨pc_StackAssemblerModel.1, pc_StackAssemblerModel.2.1, pd_32⟩, pc_StackAssemblerModel.2.2⟩
theorem vw_Md_local : qz_vw yd_Md_local := ⟨wt_1552, wp_116⟩
def yd_Md_select : qz_Y := (⟨"StackAssemblerModel", "select", "()V"⟩, prog_15_method_57_code, 3, (Option.none : Option Jvm.ClassFile.FieldType), 0, { frames := 2, cells := 0, slots := 0, locals := 45 })
theorem mw_Md_select : qz_mw yd_Md_select 0 := ⟨wt_1549, wt_15, ⟨pc_StackAssemblerModel.1, pc_StackAssemblerModel.2.1, pd_0⟩, pc_StackAssemblerModel.2.2⟩
theorem vw_Md_select : qz_vw yd_Md_select := ⟨wt_1548, wp_115⟩
def yd_Md_arithmetic : qz_Y := (⟨"StackAssemblerModel", "arithmetic", "(I)V"⟩, prog_15_method_58_code, 4, (Option.none : Option Jvm.ClassFile.FieldType), 0, { frames := 2, cells := 0, slots := 0, locals := 45 })
theorem mw_Md_arithmetic : qz_mw yd_Md_arithmetic 1 := ⟨wt_1557, wt_15, ⟨pc_StackAssemblerModel.1, pc_StackAssemblerModel.2.1, pd_8⟩, pc_StackAssemblerModel.2.2⟩
theorem vw_Md_arithmetic : qz_vw yd_Md_arithmetic := ⟨wt_1556, wp_117⟩
def yd_Md_check : qz_Y := (⟨"StackAssemblerModel", "check", "(IIJ)V"⟩, prog_15_method_59_code, 6, (Option.none : Option Jvm.ClassFile.FieldType), 0, { frames := 4, cells := 0, slots := 0, locals := 89 })
theorem mw_Md_check : qz_mw yd_Md_check 3 := ⟨wt_1517, wt_15, ⟨pc_StackAssemblerModel.1, pc_StackAssemblerModel.2.1, pd_32⟩, pc_StackAssemblerModel.2.2⟩
theorem vw_Md_check : qz_vw yd_Md_check := ⟨wt_1516, wp_107⟩
def yd_Md_isValid : qz_Y := (⟨"StackAssemblerModel", "isValid", "()Z"⟩, prog_15_method_60_code, 5, (Option.some Jvm.ClassFile.FieldType.boolean), 3, { frames := 5, cells := 0, slots := 0, locals := 114 })
theorem mw_Md_isValid : qz_mw yd_Md_isValid 0 := ⟨wt_1497, wt_15, ⟨pc_StackAssemblerModel.1, pc_StackAssemblerModel.2.1, pd_22⟩, pc_StackAssemblerModel.2.2⟩
theorem vw_Md_isValid : qz_vw yd_Md_isValid := ⟨wt_1496, wp_102⟩
def yd_Md_adopt : qz_Y := (⟨"StackAssemblerModel", "adopt", "()V"⟩, prog_15_method_61_code, 2, (Option.none : Option Jvm.ClassFile.FieldType), 0, { frames := 0, cells := 0, slots := 0, locals := 0 })
theorem mw_Md_adopt : qz_mw yd_Md_adopt 0 := ⟨wt_1561, wt_15, ⟨pc_StackAssemblerModel.1, pc_StackAssemblerModel.2.1, pd_0⟩, pc_StackAssemblerModel.2.2⟩
theorem vw_Md_adopt : qz_vw yd_Md_adopt := ⟨wt_1560, wp_118⟩
def yd_Md_assemble : qz_Y := (⟨"StackAssemblerModel", "assemble", "()I"⟩, prog_15_method_62_code, 1, (Option.some Jvm.ClassFile.FieldType.int), 1, { frames := 12, cells := 0, slots := 0, locals := 270 })
theorem mw_Md_assemble : qz_mw yd_Md_assemble 0 := ⟨wt_1330, wt_15, ⟨pc_StackAssemblerModel.1, pc_StackAssemblerModel.2.1, pd_16⟩, pc_StackAssemblerModel.2.2⟩
theorem vw_Md_assemble : qz_vw yd_Md_assemble := ⟨wt_1328, wt_1329⟩
def yd_Md_add : qz_Y := (⟨"StackAssemblerModel", "add", "(I)V"⟩, prog_15_method_63_code, 2, (Option.none : Option Jvm.ClassFile.FieldType), 0, { frames := 0, cells := 0, slots := 0, locals := 0 })
theorem mw_Md_add : qz_mw yd_Md_add 1 := ⟨wt_1569, wt_15, ⟨pc_StackAssemblerModel.1, pc_StackAssemblerModel.2.1, pd_8⟩, pc_StackAssemblerModel.2.2⟩
theorem vw_Md_add : qz_vw yd_Md_add := ⟨wt_1568, wp_119⟩
def yd_Md_unsigned : qz_Y := (⟨"StackAssemblerModel", "unsigned", "(J)V"⟩, prog_15_method_64_code, 5, (Option.none : Option Jvm.ClassFile.FieldType), 0, { frames := 1, cells := 0, slots := 0, locals := 21 })
theorem mw_Md_unsigned : qz_mw yd_Md_unsigned 1 := ⟨wt_1589, wt_15, ⟨pc_StackAssemblerModel.1, pc_StackAssemblerModel.2.1, pd_11⟩, pc_StackAssemblerModel.2.2⟩
theorem vw_Md_unsigned : qz_vw yd_Md_unsigned := ⟨wt_1588, wp_124⟩
def yd_Md_signed : qz_Y := (⟨"StackAssemblerModel", "signed", "(J)V"⟩, prog_15_method_65_code, 5, (Option.none : Option Jvm.ClassFile.FieldType), 0, { frames := 1, cells := 0, slots := 0, locals := 21 })
theorem mw_Md_signed : qz_mw yd_Md_signed 1 := ⟨wt_1621, wt_15, ⟨pc_StackAssemblerModel.1, pc_StackAssemblerModel.2.1, pd_11⟩, pc_StackAssemblerModel.2.2⟩
theorem vw_Md_signed : qz_vw yd_Md_signed := ⟨wt_1620, wp_131⟩
def yd_Md_typeByte : qz_Y := (⟨"StackAssemblerModel", "typeByte", "(I)I"⟩, prog_15_method_66_code, 1, (Option.some Jvm.ClassFile.FieldType.int), 1, { frames := 0, cells := 0, slots := 0, locals := 0 })
theorem mw_Md_typeByte : qz_mw yd_Md_typeByte 1 := ⟨wt_1593, wt_15, ⟨pc_StackAssemblerModel.1, pc_StackAssemblerModel.2.1, pd_17⟩, pc_StackAssemblerModel.2.2⟩
theorem vs_Md_typeByte : Cond.static yd_Md_typeByte.1 ∈ kz_TT := wt_1592
def yd_Md_close : qz_Y := (⟨"StackAssemblerModel", "close", "(I)V"⟩, prog_15_method_67_code, 5, (Option.none : Option Jvm.ClassFile.FieldType), 0, { frames := 0, cells := 0, slots := 0, locals := 0 })
theorem mw_Md_close : qz_mw yd_Md_close 1 := ⟨wt_1597, wt_15, ⟨pc_StackAssemblerModel.1, pc_StackAssemblerModel.2.1, pd_8⟩, pc_StackAssemblerModel.2.2⟩
theorem vw_Md_close : qz_vw yd_Md_close := ⟨wt_1596, wp_125⟩
def yd_Md_sameSignature : qz_Y := (⟨"StackAssemblerModel", "sameSignature", "(II)Z"⟩, prog_15_method_68_code, 5, (Option.some Jvm.ClassFile.FieldType.boolean), 3, { frames := 0, cells := 0, slots := 0, locals := 0 })
theorem mw_Md_sameSignature : qz_mw yd_Md_sameSignature 2 := ⟨wt_1585, wt_15, ⟨pc_StackAssemblerModel.1, pc_StackAssemblerModel.2.1, pd_19⟩, pc_StackAssemblerModel.2.2⟩
theorem vw_Md_sameSignature : qz_vw yd_Md_sameSignature := ⟨wt_1584, wp_123⟩
def yd_Md_firstLike : qz_Y := (⟨"StackAssemblerModel", "firstLike", "(I)I"⟩, prog_15_method_69_code, 3, (Option.some Jvm.ClassFile.FieldType.int), 1, { frames := 1, cells := 0, slots := 0, locals := 24 })
theorem mw_Md_firstLike : qz_mw yd_Md_firstLike 1 := ⟨wt_1581, wt_15, ⟨pc_StackAssemblerModel.1, pc_StackAssemblerModel.2.1, pd_17⟩, pc_StackAssemblerModel.2.2⟩
theorem vw_Md_firstLike : qz_vw yd_Md_firstLike := ⟨wt_1580, wp_122⟩
def yd_Md_signaturesBefore : qz_Y := (⟨"StackAssemblerModel", "signaturesBefore", "(I)I"⟩, prog_15_method_70_code, 4, (Option.some Jvm.ClassFile.FieldType.int), 1, { frames := 2, cells := 0, slots := 0, locals := 46 })
theorem mw_Md_signaturesBefore : qz_mw yd_Md_signaturesBefore 1 := ⟨wt_1577, wt_15, ⟨pc_StackAssemblerModel.1, pc_StackAssemblerModel.2.1, pd_17⟩, pc_StackAssemblerModel.2.2⟩
theorem vw_Md_signaturesBefore : qz_vw yd_Md_signaturesBefore := ⟨wt_1576, wp_121⟩
def yd_Md_signatureSection : qz_Y := (⟨"StackAssemblerModel", "signatureSection", "()V"⟩, prog_15_method_71_code, 4, (Option.none : Option Jvm.ClassFile.FieldType), 0, { frames := 3, cells := 0, slots := 0, locals := 69 })
theorem mw_Md_signatureSection : qz_mw yd_Md_signatureSection 0 := ⟨wt_1573, wt_15, ⟨pc_StackAssemblerModel.1, pc_StackAssemblerModel.2.1, pd_0⟩, pc_StackAssemblerModel.2.2⟩
theorem vw_Md_signatureSection : qz_vw yd_Md_signatureSection := ⟨wt_1572, wp_120⟩
def yd_Md_functionSection : qz_Y := (⟨"StackAssemblerModel", "functionSection", "()V"⟩, prog_15_method_72_code, 3, (Option.none : Option Jvm.ClassFile.FieldType), 0, { frames := 3, cells := 0, slots := 0, locals := 69 })
theorem mw_Md_functionSection : qz_mw yd_Md_functionSection 0 := ⟨wt_1601, wt_15, ⟨pc_StackAssemblerModel.1, pc_StackAssemblerModel.2.1, pd_0⟩, pc_StackAssemblerModel.2.2⟩
theorem vw_Md_functionSection : qz_vw yd_Md_functionSection := ⟨wt_1600, wp_126⟩
def yd_Md_runBegins : qz_Y := (⟨"StackAssemblerModel", "runBegins", "(II)Z"⟩, prog_15_method_73_code, 3, (Option.some Jvm.ClassFile.FieldType.boolean), 3, { frames := 0, cells := 0, slots := 0, locals := 0 })
theorem mw_Md_runBegins : qz_mw yd_Md_runBegins 2 := ⟨wt_1613, wt_15, ⟨pc_StackAssemblerModel.1, pc_StackAssemblerModel.2.1, pd_19⟩, pc_StackAssemblerModel.2.2⟩
theorem vw_Md_runBegins : qz_vw yd_Md_runBegins := ⟨wt_1612, wp_129⟩
def yd_Md_runs : qz_Y := (⟨"StackAssemblerModel", "runs", "(I)V"⟩, prog_15_method_74_code, 5, (Option.none : Option Jvm.ClassFile.FieldType), 0, { frames := 2, cells := 0, slots := 0, locals := 45 })
theorem mw_Md_runs : qz_mw yd_Md_runs 1 := ⟨wt_1609, wt_15, ⟨pc_StackAssemblerModel.1, pc_StackAssemblerModel.2.1, pd_8⟩, pc_StackAssemblerModel.2.2⟩
theorem vw_Md_runs : qz_vw yd_Md_runs := ⟨wt_1608, wp_128⟩
def yd_Md_instructionBytes : qz_Y := (⟨"StackAssemblerModel", "instructionBytes", "(I)V"⟩, prog_15_method_75_code, 3, (Option.none : Option Jvm.ClassFile.FieldType), 0, { frames := 2, cells := 0, slots := 0, locals := 45 })
theorem mw_Md_instructionBytes : qz_mw yd_Md_instructionBytes 1 := ⟨wt_1617, wt_15, ⟨pc_StackAssemblerModel.1, pc_StackAssemblerModel.2.1, pd_8⟩, pc_StackAssemblerModel.2.2⟩
theorem vw_Md_instructionBytes : qz_vw yd_Md_instructionBytes := ⟨wt_1616, wp_130⟩
def yd_Md_codeSection : qz_Y := (⟨"StackAssemblerModel", "codeSection", "()V"⟩, prog_15_method_76_code, 5, (Option.none : Option Jvm.ClassFile.FieldType), 0, { frames := 3, cells := 0, slots := 0, locals := 69 })
theorem mw_Md_codeSection : qz_mw yd_Md_codeSection 0 := ⟨wt_1605, wt_15, ⟨pc_StackAssemblerModel.1, pc_StackAssemblerModel.2.1, pd_0⟩, pc_StackAssemblerModel.2.2⟩
theorem vw_Md_codeSection : qz_vw yd_Md_codeSection := ⟨wt_1604, wp_127⟩
def yd_Md_encode : qz_Y := (⟨"StackAssemblerModel", "encode", "()I"⟩, prog_15_method_77_code, 2, (Option.some Jvm.ClassFile.FieldType.int), 1, { frames := 4, cells := 0, slots := 0, locals := 93 })
theorem mw_Md_encode : qz_mw yd_Md_encode 0 := ⟨wt_1565, wt_15, ⟨pc_StackAssemblerModel.1, pc_StackAssemblerModel.2.1, pd_16⟩, pc_StackAssemblerModel.2.2⟩
theorem vw_Md_encode : qz_vw yd_Md_encode := ⟨wt_1563, wt_1564⟩
def yd_Md_octet : qz_Y := (⟨"StackAssemblerModel", "octet", "(I)I"⟩, prog_15_method_78_code, 2, (Option.some Jvm.ClassFile.FieldType.int), 1, { frames := 0, cells := 0, slots := 0, locals := 0 })
theorem mw_Md_octet : qz_mw yd_Md_octet 1 := ⟨wt_1627, wt_15, ⟨pc_StackAssemblerModel.1, pc_StackAssemblerModel.2.1, pd_17⟩, pc_StackAssemblerModel.2.2⟩
theorem vw_Md_octet : qz_vw yd_Md_octet := ⟨wt_1625, wt_1626⟩
def yd_Md_out : qz_Y := (⟨"StackAssemblerModel", "out", "(I)V"⟩, prog_15_method_79_code, 2, (Option.none : Option Jvm.ClassFile.FieldType), 0, { frames := 0, cells := 0, slots := 0, locals := 0 })
theorem mw_Md_out : qz_mw yd_Md_out 1 := ⟨wt_1635, wt_15, ⟨pc_StackAssemblerModel.1, pc_StackAssemblerModel.2.1, pd_8⟩, pc_StackAssemblerModel.2.2⟩
theorem vw_Md_out : qz_vw yd_Md_out := ⟨wt_1634, wp_132⟩
def yd_Md_outLong : qz_Y := (⟨"StackAssemblerModel", "outLong", "(J)V"⟩, prog_15_method_80_code, 5, (Option.none : Option Jvm.ClassFile.FieldType), 0, { frames := 1, cells := 0, slots := 0, locals := 21 })
theorem mw_Md_outLong : qz_mw yd_Md_outLong 1 := ⟨wt_1639, wt_15, ⟨pc_StackAssemblerModel.1, pc_StackAssemblerModel.2.1, pd_11⟩, pc_StackAssemblerModel.2.2⟩
theorem vw_Md_outLong : qz_vw yd_Md_outLong := ⟨wt_1638, wp_133⟩
def yd_Md_outNumber : qz_Y := (⟨"StackAssemblerModel", "outNumber", "(J)V"⟩, prog_15_method_81_code, 9, (Option.none : Option Jvm.ClassFile.FieldType), 0, { frames := 1, cells := 0, slots := 0, locals := 21 })
theorem mw_Md_outNumber : qz_mw yd_Md_outNumber 1 := ⟨wt_1659, wt_15, ⟨pc_StackAssemblerModel.1, pc_StackAssemblerModel.2.1, pd_11⟩, pc_StackAssemblerModel.2.2⟩
theorem vw_Md_outNumber : qz_vw yd_Md_outNumber := ⟨wt_1658, wp_138⟩
def yd_Md_outType : qz_Y := (⟨"StackAssemblerModel", "outType", "(I)V"⟩, prog_15_method_82_code, 2, (Option.none : Option Jvm.ClassFile.FieldType), 0, { frames := 2, cells := 0, slots := 0, locals := 45 })
theorem mw_Md_outType : qz_mw yd_Md_outType 1 := ⟨wt_1647, wt_15, ⟨pc_StackAssemblerModel.1, pc_StackAssemblerModel.2.1, pd_8⟩, pc_StackAssemblerModel.2.2⟩
theorem vw_Md_outType : qz_vw yd_Md_outType := ⟨wt_1646, wp_135⟩
def yd_Md_outRow : qz_Y := (⟨"StackAssemblerModel", "outRow", "(JIII)V"⟩, prog_15_method_83_code, 7, (Option.none : Option Jvm.ClassFile.FieldType), 0, { frames := 3, cells := 0, slots := 0, locals := 66 })
theorem pd_33 : (parseMethodDescriptor "(JIII)V").map (fun d => d.parameters.length) = some 4 := by decide +kernel
theorem mw_Md_outRow : qz_mw yd_Md_outRow 4 := ⟨wt_1643, wt_15, ⟨pc_StackAssemblerModel.1, pc_StackAssemblerModel.2.1, pd_33⟩, pc_StackAssemblerModel.2.2⟩
theorem vw_Md_outRow : qz_vw yd_Md_outRow := ⟨wt_1642, wp_134⟩
def yd_Md_outResult : qz_Y := (⟨"StackAssemblerModel", "outResult", "(I)V"⟩, prog_15_method_85_code, 2, (Option.none : Option Jvm.ClassFile.FieldType), 0, { frames := 3, cells := 0, slots := 0, locals := 66 })
theorem mw_Md_outResult : qz_mw yd_Md_outResult 1 := ⟨wt_1651, wt_15, ⟨pc_StackAssemblerModel.1, pc_StackAssemblerModel.2.1, pd_8⟩, pc_StackAssemblerModel.2.2⟩
theorem vw_Md_outResult : qz_vw yd_Md_outResult := ⟨wt_1650, wp_136⟩
def yd_Md_outInstruction : qz_Y := (⟨"StackAssemblerModel", "outInstruction", "(I)V"⟩, prog_15_method_84_code, 5, (Option.none : Option Jvm.ClassFile.FieldType), 0, { frames := 4, cells := 0, slots := 0, locals := 87 })
theorem mw_Md_outInstruction : qz_mw yd_Md_outInstruction 1 := ⟨wt_1655, wt_15, ⟨pc_StackAssemblerModel.1, pc_StackAssemblerModel.2.1, pd_8⟩, pc_StackAssemblerModel.2.2⟩
theorem vw_Md_outInstruction : qz_vw yd_Md_outInstruction := ⟨wt_1654, wp_137⟩
def yd_Md_print : qz_Y := (⟨"StackAssemblerModel", "print", "()I"⟩, prog_15_method_86_code, 3, (Option.some Jvm.ClassFile.FieldType.int), 1, { frames := 5, cells := 0, slots := 0, locals := 111 })
theorem mw_Md_print : qz_mw yd_Md_print 0 := ⟨wt_1631, wt_15, ⟨pc_StackAssemblerModel.1, pc_StackAssemblerModel.2.1, pd_16⟩, pc_StackAssemblerModel.2.2⟩
theorem vw_Md_print : qz_vw yd_Md_print := ⟨wt_1629, wt_1630⟩
def yd_Md_place : qz_Y := (⟨"StackAssemblerModel", "place", "()I"⟩, prog_15_method_87_code, 1, (Option.some Jvm.ClassFile.FieldType.int), 1, { frames := 0, cells := 0, slots := 0, locals := 0 })
theorem mw_Md_place : qz_mw yd_Md_place 0 := ⟨wt_1665, wt_15, ⟨pc_StackAssemblerModel.1, pc_StackAssemblerModel.2.1, pd_16⟩, pc_StackAssemblerModel.2.2⟩
theorem vw_Md_place : qz_vw yd_Md_place := ⟨wt_1663, wt_1664⟩
def yd_Md_functions : qz_Y := (⟨"StackAssemblerModel", "functions", "()I"⟩, prog_15_method_88_code, 1, (Option.some Jvm.ClassFile.FieldType.int), 1, { frames := 0, cells := 0, slots := 0, locals := 0 })
theorem mw_Md_functions : qz_mw yd_Md_functions 0 := ⟨wt_1669, wt_15, ⟨pc_StackAssemblerModel.1, pc_StackAssemblerModel.2.1, pd_16⟩, pc_StackAssemblerModel.2.2⟩
theorem vw_Md_functions : qz_vw yd_Md_functions := ⟨wt_1667, wt_1668⟩
def yd_Md_isFunction : qz_Y := (⟨"StackAssemblerModel", "isFunction", "(I)Z"⟩, prog_15_method_89_code, 2, (Option.some Jvm.ClassFile.FieldType.boolean), 3, { frames := 0, cells := 0, slots := 0, locals := 0 })
theorem mw_Md_isFunction : qz_mw yd_Md_isFunction 1 := ⟨wt_1677, wt_15, ⟨pc_StackAssemblerModel.1, pc_StackAssemblerModel.2.1, pd_21⟩, pc_StackAssemblerModel.2.2⟩
theorem vw_Md_isFunction : qz_vw yd_Md_isFunction := ⟨wt_1676, wp_139⟩
def yd_Md_function : qz_Y := (⟨"StackAssemblerModel", "function", "(II)I"⟩, prog_15_method_90_code, 3, (Option.some Jvm.ClassFile.FieldType.int), 1, { frames := 1, cells := 0, slots := 0, locals := 21 })
theorem mw_Md_function : qz_mw yd_Md_function 2 := ⟨wt_1673, wt_15, ⟨pc_StackAssemblerModel.1, pc_StackAssemblerModel.2.1, pd_18⟩, pc_StackAssemblerModel.2.2⟩
theorem vw_Md_function : qz_vw yd_Md_function := ⟨wt_1671, wt_1672⟩
def yd_Md_isInstruction : qz_Y := (⟨"StackAssemblerModel", "isInstruction", "(II)Z"⟩, prog_15_method_91_code, 3, (Option.some Jvm.ClassFile.FieldType.boolean), 3, { frames := 1, cells := 0, slots := 0, locals := 21 })
theorem mw_Md_isInstruction : qz_mw yd_Md_isInstruction 2 := ⟨wt_1685, wt_15, ⟨pc_StackAssemblerModel.1, pc_StackAssemblerModel.2.1, pd_19⟩, pc_StackAssemblerModel.2.2⟩
theorem vw_Md_isInstruction : qz_vw yd_Md_isInstruction := ⟨wt_1684, wp_140⟩
def yd_Md_instruction : qz_Y := (⟨"StackAssemblerModel", "instruction", "(II)I"⟩, prog_15_method_92_code, 3, (Option.some Jvm.ClassFile.FieldType.int), 1, { frames := 2, cells := 0, slots := 0, locals := 43 })
theorem mw_Md_instruction : qz_mw yd_Md_instruction 2 := ⟨wt_1681, wt_15, ⟨pc_StackAssemblerModel.1, pc_StackAssemblerModel.2.1, pd_18⟩, pc_StackAssemblerModel.2.2⟩
theorem vw_Md_instruction : qz_vw yd_Md_instruction := ⟨wt_1679, wt_1680⟩
def yd_Md_immediate : qz_Y := (⟨"StackAssemblerModel", "immediate", "(II)J"⟩, prog_15_method_93_code, 3, (Option.some Jvm.ClassFile.FieldType.long), 2, { frames := 2, cells := 0, slots := 0, locals := 43 })
theorem mw_Md_immediate : qz_mw yd_Md_immediate 2 := ⟨wt_1689, wt_15, ⟨pc_StackAssemblerModel.1, pc_StackAssemblerModel.2.1, pd_20⟩, pc_StackAssemblerModel.2.2⟩
theorem vw_Md_immediate : qz_vw yd_Md_immediate := ⟨wt_1687, wt_1688⟩
def yd_Frame_begin : qz_Y := (⟨"StackAssembler$Frame", "begin", "(III)V"⟩, prog_5_method_2_code, 4, (Option.none : Option Jvm.ClassFile.FieldType), 0, { frames := 0, cells := 0, slots := 0, locals := 0 })
theorem mw_Frame_begin : qz_mw yd_Frame_begin 3 := ⟨wt_841, wt_12, ⟨pc_StackAssembler_Frame.1, pc_StackAssembler_Frame.2.1, pd_30⟩, pc_StackAssembler_Frame.2.2⟩
theorem vw_Frame_begin : qz_vw yd_Frame_begin := ⟨wt_839, wt_840⟩
def yd_Enum_ordinal : qz_Y := (⟨"java/lang/Enum", "ordinal", "()I"⟩, prog_16_method_2_code, 1, (Option.some Jvm.ClassFile.FieldType.int), 1, { frames := 0, cells := 0, slots := 0, locals := 0 })
theorem pc_java_lang_Enum : ("java/lang/Enum" : String) ≠ "java/lang/invoke/MethodHandle" ∧ ("java/lang/Enum" : String) ≠ "java/lang/invoke/VarHandle" ∧ plainName "java/lang/Enum" = true := by decide +kernel
theorem mw_Enum_ordinal : qz_mw yd_Enum_ordinal 0 := ⟨wt_853, wt_5, ⟨pc_java_lang_Enum.1, pc_java_lang_Enum.2.1, pd_16⟩, pc_java_lang_Enum.2.2⟩
def yd_Checker_take : qz_Y := (⟨"StackAssembler$Checker", "take", "(I)I"⟩, prog_3_method_16_code, 4, (Option.some Jvm.ClassFile.FieldType.int), 1, { frames := 0, cells := 0, slots := 0, locals := 0 })
theorem mw_Checker_take : qz_mw yd_Checker_take 1 := ⟨wt_862, wt_10, ⟨pc_StackAssembler_Checker.1, pc_StackAssembler_Checker.2.1, pd_17⟩, pc_StackAssembler_Checker.2.2⟩
theorem vw_Checker_take : qz_vw yd_Checker_take := ⟨wt_861, wp_49⟩
def yd_Checker_beginFrame : qz_Y := (⟨"StackAssembler$Checker", "beginFrame", "(LStackAssembler$Op;I)V"⟩, prog_3_method_6_code, 3, (Option.none : Option Jvm.ClassFile.FieldType), 0, { frames := 1, cells := 0, slots := 0, locals := 23 })
theorem pd_34 : (parseMethodDescriptor "(LStackAssembler$Op;I)V").map (fun d => d.parameters.length) = some 2 := by decide +kernel
theorem mw_Checker_beginFrame : qz_mw yd_Checker_beginFrame 2 := ⟨wt_857, wt_10, ⟨pc_StackAssembler_Checker.1, pc_StackAssembler_Checker.2.1, pd_34⟩, pc_StackAssembler_Checker.2.2⟩
theorem vw_Checker_beginFrame : qz_vw yd_Checker_beginFrame := ⟨wt_856, wp_48⟩
def yd_Checker_takeResult : qz_Y := (⟨"StackAssembler$Checker", "takeResult", "(I)V"⟩, prog_3_method_15_code, 2, (Option.none : Option Jvm.ClassFile.FieldType), 0, { frames := 1, cells := 0, slots := 0, locals := 23 })
theorem mw_Checker_takeResult : qz_mw yd_Checker_takeResult 1 := ⟨wt_872, wt_10, ⟨pc_StackAssembler_Checker.1, pc_StackAssembler_Checker.2.1, pd_8⟩, pc_StackAssembler_Checker.2.2⟩
theorem vw_Checker_takeResult : qz_vw yd_Checker_takeResult := ⟨wt_871, wp_51⟩
def yd_Checker_endFrame : qz_Y := (⟨"StackAssembler$Checker", "endFrame", "()V"⟩, prog_3_method_7_code, 1, (Option.none : Option Jvm.ClassFile.FieldType), 0, { frames := 2, cells := 0, slots := 0, locals := 44 })
theorem mw_Checker_endFrame : qz_mw yd_Checker_endFrame 0 := ⟨wt_868, wt_10, ⟨pc_StackAssembler_Checker.1, pc_StackAssembler_Checker.2.1, pd_0⟩, pc_StackAssembler_Checker.2.2⟩
theorem vw_Checker_endFrame : qz_vw yd_Checker_endFrame := ⟨wt_867, wp_50⟩
def yd_Checker_restartFrame : qz_Y := (⟨"StackAssembler$Checker", "restartFrame", "()V"⟩, prog_3_method_8_code, 2, (Option.none : Option Jvm.ClassFile.FieldType), 0, { frames := 0, cells := 0, slots := 0, locals := 0 })
theorem mw_Checker_restartFrame : qz_mw yd_Checker_restartFrame 0 := ⟨wt_876, wt_10, ⟨pc_StackAssembler_Checker.1, pc_StackAssembler_Checker.2.1, pd_0⟩, pc_StackAssembler_Checker.2.2⟩
theorem vw_Checker_restartFrame : qz_vw yd_Checker_restartFrame := ⟨wt_875, wp_52⟩
def yd_Checker_put : qz_Y := (⟨"StackAssembler$Checker", "put", "(I)V"⟩, prog_3_method_17_code, 2, (Option.none : Option Jvm.ClassFile.FieldType), 0, { frames := 0, cells := 0, slots := 0, locals := 0 })
theorem mw_Checker_put : qz_mw yd_Checker_put 1 := ⟨wt_885, wt_10, ⟨pc_StackAssembler_Checker.1, pc_StackAssembler_Checker.2.1, pd_8⟩, pc_StackAssembler_Checker.2.2⟩
theorem vw_Checker_put : qz_vw yd_Checker_put := ⟨wt_884, wp_54⟩
def yd_Checker_leaveFrame : qz_Y := (⟨"StackAssembler$Checker", "leaveFrame", "()V"⟩, prog_3_method_9_code, 2, (Option.none : Option Jvm.ClassFile.FieldType), 0, { frames := 3, cells := 0, slots := 0, locals := 64 })
theorem mw_Checker_leaveFrame : qz_mw yd_Checker_leaveFrame 0 := ⟨wt_880, wt_10, ⟨pc_StackAssembler_Checker.1, pc_StackAssembler_Checker.2.1, pd_0⟩, pc_StackAssembler_Checker.2.2⟩
theorem vw_Checker_leaveFrame : qz_vw yd_Checker_leaveFrame := ⟨wt_879, wp_53⟩
def yd_Checker_makeUnreachable : qz_Y := (⟨"StackAssembler$Checker", "makeUnreachable", "()V"⟩, prog_3_method_10_code, 1, (Option.none : Option Jvm.ClassFile.FieldType), 0, { frames := 0, cells := 0, slots := 0, locals := 0 })
theorem mw_Checker_makeUnreachable : qz_mw yd_Checker_makeUnreachable 0 := ⟨wt_895, wt_10, ⟨pc_StackAssembler_Checker.1, pc_StackAssembler_Checker.2.1, pd_0⟩, pc_StackAssembler_Checker.2.2⟩
theorem vw_Checker_makeUnreachable : qz_vw yd_Checker_makeUnreachable := ⟨wt_894, wp_56⟩
def yd_Checker_checkBranch : qz_Y := (⟨"StackAssembler$Checker", "checkBranch", "(LStackAssembler$Op;J)V"⟩, prog_3_method_11_code, 5, (Option.none : Option Jvm.ClassFile.FieldType), 0, { frames := 2, cells := 0, slots := 0, locals := 44 })
theorem mw_Checker_checkBranch : qz_mw yd_Checker_checkBranch 2 := ⟨wt_889, wt_10, ⟨pc_StackAssembler_Checker.1, pc_StackAssembler_Checker.2.1, pd_14⟩, pc_StackAssembler_Checker.2.2⟩
theorem vw_Checker_checkBranch : qz_vw yd_Checker_checkBranch := ⟨wt_888, wp_55⟩
def yd_Checker_checkCall : qz_Y := (⟨"StackAssembler$Checker", "checkCall", "(J)V"⟩, prog_3_method_12_code, 5, (Option.none : Option Jvm.ClassFile.FieldType), 0, { frames := 1, cells := 0, slots := 0, locals := 23 })
theorem mw_Checker_checkCall : qz_mw yd_Checker_checkCall 1 := ⟨wt_899, wt_10, ⟨pc_StackAssembler_Checker.1, pc_StackAssembler_Checker.2.1, pd_11⟩, pc_StackAssembler_Checker.2.2⟩
theorem vw_Checker_checkCall : qz_vw yd_Checker_checkCall := ⟨wt_898, wp_57⟩
def yd_Checker_checkSelect : qz_Y := (⟨"StackAssembler$Checker", "checkSelect", "()V"⟩, prog_3_method_14_code, 3, (Option.none : Option Jvm.ClassFile.FieldType), 0, { frames := 1, cells := 0, slots := 0, locals := 23 })
theorem mw_Checker_checkSelect : qz_mw yd_Checker_checkSelect 0 := ⟨wt_905, wt_10, ⟨pc_StackAssembler_Checker.1, pc_StackAssembler_Checker.2.1, pd_0⟩, pc_StackAssembler_Checker.2.2⟩
theorem vw_Checker_checkSelect : qz_vw yd_Checker_checkSelect := ⟨wt_904, wp_58⟩
def yd_Checker_checkSlot : qz_Y := (⟨"StackAssembler$Checker", "checkSlot", "(LStackAssembler$Op;J)V"⟩, prog_3_method_13_code, 5, (Option.none : Option Jvm.ClassFile.FieldType), 0, { frames := 1, cells := 0, slots := 0, locals := 23 })
theorem mw_Checker_checkSlot : qz_mw yd_Checker_checkSlot 2 := ⟨wt_909, wt_10, ⟨pc_StackAssembler_Checker.1, pc_StackAssembler_Checker.2.1, pd_14⟩, pc_StackAssembler_Checker.2.2⟩
theorem vw_Checker_checkSlot : qz_vw yd_Checker_checkSlot := ⟨wt_908, wp_59⟩
def yd_Checker_checkSimple : qz_Y := (⟨"StackAssembler$Checker", "checkSimple", "(LStackAssembler$Op;)V"⟩, prog_3_method_5_code, 3, (Option.none : Option Jvm.ClassFile.FieldType), 0, { frames := 1, cells := 0, slots := 0, locals := 23 })
theorem pd_35 : (parseMethodDescriptor "(LStackAssembler$Op;)V").map (fun d => d.parameters.length) = some 1 := by decide +kernel
theorem mw_Checker_checkSimple : qz_mw yd_Checker_checkSimple 1 := ⟨wt_918, wt_10, ⟨pc_StackAssembler_Checker.1, pc_StackAssembler_Checker.2.1, pd_35⟩, pc_StackAssembler_Checker.2.2⟩
theorem vw_Checker_checkSimple : qz_vw yd_Checker_checkSimple := ⟨wt_917, wp_60⟩
def yd_Checker_check : qz_Y := (⟨"StackAssembler$Checker", "check", "(LStackAssembler$Op;J)V"⟩, prog_3_method_4_code, 4, (Option.none : Option Jvm.ClassFile.FieldType), 0, { frames := 4, cells := 0, slots := 0, locals := 85 })
theorem mw_Checker_check : qz_mw yd_Checker_check 2 := ⟨wt_845, wt_10, ⟨pc_StackAssembler_Checker.1, pc_StackAssembler_Checker.2.1, pd_14⟩, pc_StackAssembler_Checker.2.2⟩
theorem vw_Checker_check : qz_vw yd_Checker_check := ⟨wt_844, wp_47⟩
def yd_Checker_checkFunction : qz_Y := (⟨"StackAssembler$Checker", "checkFunction", "()I"⟩, prog_3_method_3_code, 2, (Option.some Jvm.ClassFile.FieldType.int), 1, { frames := 5, cells := 0, slots := 0, locals := 108 })
theorem mw_Checker_checkFunction : qz_mw yd_Checker_checkFunction 0 := ⟨wt_837, wt_10, ⟨pc_StackAssembler_Checker.1, pc_StackAssembler_Checker.2.1, pd_16⟩, pc_StackAssembler_Checker.2.2⟩
theorem vw_Checker_checkFunction : qz_vw yd_Checker_checkFunction := ⟨wt_836, wp_46⟩
def yd_Checker_accepts : qz_Y := (⟨"StackAssembler$Checker", "accepts", "(LStackAssembler$Module;)Z"⟩, prog_3_method_2_code, 4, (Option.some Jvm.ClassFile.FieldType.boolean), 3, { frames := 6, cells := 0, slots := 0, locals := 129 })
theorem pd_36 : (parseMethodDescriptor "(LStackAssembler$Module;)Z").map (fun d => d.parameters.length) = some 1 := by decide +kernel
theorem mw_Checker_accepts : qz_mw yd_Checker_accepts 1 := ⟨wt_833, wt_10, ⟨pc_StackAssembler_Checker.1, pc_StackAssembler_Checker.2.1, pd_36⟩, pc_StackAssembler_Checker.2.2⟩
theorem vw_Checker_accepts : qz_vw yd_Checker_accepts := ⟨wt_831, wt_832⟩
def yd_Function_begin : qz_Y := (⟨"StackAssembler$Function", "begin", "(I)V"⟩, prog_6_method_2_code, 2, (Option.none : Option Jvm.ClassFile.FieldType), 0, { frames := 0, cells := 0, slots := 0, locals := 0 })
theorem mw_Function_begin : qz_mw yd_Function_begin 1 := ⟨wt_724, wt_4, ⟨pc_StackAssembler_Function.1, pc_StackAssembler_Function.2.1, pd_8⟩, pc_StackAssembler_Function.2.2⟩
theorem vw_Function_begin : qz_vw yd_Function_begin := ⟨wt_722, wt_723⟩
def yd_Function_addLocal : qz_Y := (⟨"StackAssembler$Function", "addLocal", "(I)Z"⟩, prog_6_method_5_code, 2, (Option.some Jvm.ClassFile.FieldType.boolean), 3, { frames := 0, cells := 0, slots := 0, locals := 0 })
theorem mw_Function_addLocal : qz_mw yd_Function_addLocal 1 := ⟨wt_784, wt_4, ⟨pc_StackAssembler_Function.1, pc_StackAssembler_Function.2.1, pd_21⟩, pc_StackAssembler_Function.2.2⟩
theorem vw_Function_addLocal : qz_vw yd_Function_addLocal := ⟨wt_782, wt_783⟩
def yd_Function_addParameter : qz_Y := (⟨"StackAssembler$Function", "addParameter", "(I)Z"⟩, prog_6_method_4_code, 2, (Option.some Jvm.ClassFile.FieldType.boolean), 3, { frames := 1, cells := 0, slots := 0, locals := 21 })
theorem mw_Function_addParameter : qz_mw yd_Function_addParameter 1 := ⟨wt_780, wt_4, ⟨pc_StackAssembler_Function.1, pc_StackAssembler_Function.2.1, pd_21⟩, pc_StackAssembler_Function.2.2⟩
theorem vw_Function_addParameter : qz_vw yd_Function_addParameter := ⟨wt_778, wt_779⟩
def yd_Level_begin : qz_Y := (⟨"StackAssembler$Level", "begin", "(I)V"⟩, prog_7_method_2_code, 2, (Option.none : Option Jvm.ClassFile.FieldType), 0, { frames := 0, cells := 0, slots := 0, locals := 0 })
theorem mw_Level_begin : qz_mw yd_Level_begin 1 := ⟨wt_541, wt_9, ⟨pc_StackAssembler_Level.1, pc_StackAssembler_Level.2.1, pd_8⟩, pc_StackAssembler_Level.2.2⟩
theorem vw_Level_begin : qz_vw yd_Level_begin := ⟨wt_539, wt_540⟩
def yd_Level_isBlock : qz_Y := (⟨"StackAssembler$Level", "isBlock", "()Z"⟩, prog_7_method_3_code, 1, (Option.some Jvm.ClassFile.FieldType.boolean), 3, { frames := 0, cells := 0, slots := 0, locals := 0 })
theorem mw_Level_isBlock : qz_mw yd_Level_isBlock 0 := ⟨wt_678, wt_9, ⟨pc_StackAssembler_Level.1, pc_StackAssembler_Level.2.1, pd_22⟩, pc_StackAssembler_Level.2.2⟩
theorem vw_Level_isBlock : qz_vw yd_Level_isBlock := ⟨wt_676, wt_677⟩
def yd_Module_clear : qz_Y := (⟨"StackAssembler$Module", "clear", "()V"⟩, prog_8_method_2_code, 1, (Option.none : Option Jvm.ClassFile.FieldType), 0, { frames := 0, cells := 0, slots := 0, locals := 0 })
theorem mw_Module_clear : qz_mw yd_Module_clear 0 := ⟨wt_537, wt_3, ⟨pc_StackAssembler_Module.1, pc_StackAssembler_Module.2.1, pd_0⟩, pc_StackAssembler_Module.2.2⟩
theorem vw_Module_clear : qz_vw yd_Module_clear := ⟨wt_535, wt_536⟩
def yd_Module_addFunction : qz_Y := (⟨"StackAssembler$Module", "addFunction", "()Z"⟩, prog_8_method_6_code, 1, (Option.some Jvm.ClassFile.FieldType.boolean), 3, { frames := 2, cells := 0, slots := 0, locals := 41 })
theorem mw_Module_addFunction : qz_mw yd_Module_addFunction 0 := ⟨wt_719, wt_3, ⟨pc_StackAssembler_Module.1, pc_StackAssembler_Module.2.1, pd_22⟩, pc_StackAssembler_Module.2.2⟩
theorem vw_Module_addFunction : qz_vw yd_Module_addFunction := ⟨wt_717, wt_718⟩
def yd_Module_add : qz_Y := (⟨"StackAssembler$Module", "add", "(LStackAssembler$Op;J)Z"⟩, prog_8_method_7_code, 4, (Option.some Jvm.ClassFile.FieldType.boolean), 3, { frames := 2, cells := 0, slots := 0, locals := 41 })
theorem pd_37 : (parseMethodDescriptor "(LStackAssembler$Op;J)Z").map (fun d => d.parameters.length) = some 2 := by decide +kernel
theorem mw_Module_add : qz_mw yd_Module_add 2 := ⟨wt_801, wt_3, ⟨pc_StackAssembler_Module.1, pc_StackAssembler_Module.2.1, pd_37⟩, pc_StackAssembler_Module.2.2⟩
theorem vw_Module_add : qz_vw yd_Module_add := ⟨wt_799, wt_800⟩
def yd_Op_opensBlock : qz_Y := (⟨"StackAssembler$Op", "opensBlock", "()Z"⟩, prog_9_method_5_code, 1, (Option.some Jvm.ClassFile.FieldType.boolean), 3, { frames := 0, cells := 0, slots := 0, locals := 0 })
theorem pc_StackAssembler_Op : ("StackAssembler$Op" : String) ≠ "java/lang/invoke/MethodHandle" ∧ ("StackAssembler$Op" : String) ≠ "java/lang/invoke/VarHandle" ∧ plainName "StackAssembler$Op" = true := by decide +kernel
theorem mw_Op_opensBlock : qz_mw yd_Op_opensBlock 0 := ⟨wt_740, wt_6, ⟨pc_StackAssembler_Op.1, pc_StackAssembler_Op.2.1, pd_22⟩, pc_StackAssembler_Op.2.2⟩
theorem vw_Op_opensBlock : qz_vw yd_Op_opensBlock := ⟨wt_738, wt_739⟩
def yd_Op_isPlain : qz_Y := (⟨"StackAssembler$Op", "isPlain", "()Z"⟩, prog_9_method_6_code, 1, (Option.some Jvm.ClassFile.FieldType.boolean), 3, { frames := 1, cells := 0, slots := 0, locals := 20 })
theorem mw_Op_isPlain : qz_mw yd_Op_isPlain 0 := ⟨wt_736, wt_6, ⟨pc_StackAssembler_Op.1, pc_StackAssembler_Op.2.1, pd_22⟩, pc_StackAssembler_Op.2.2⟩
theorem vw_Op_isPlain : qz_vw yd_Op_isPlain := ⟨wt_734, wt_735⟩
def yd_Op_awaitsOperand : qz_Y := (⟨"StackAssembler$Op", "awaitsOperand", "()Z"⟩, prog_9_method_7_code, 1, (Option.some Jvm.ClassFile.FieldType.boolean), 3, { frames := 0, cells := 0, slots := 0, locals := 0 })
theorem mw_Op_awaitsOperand : qz_mw yd_Op_awaitsOperand 0 := ⟨wt_747, wt_6, ⟨pc_StackAssembler_Op.1, pc_StackAssembler_Op.2.1, pd_22⟩, pc_StackAssembler_Op.2.2⟩
theorem vw_Op_awaitsOperand : qz_vw yd_Op_awaitsOperand := ⟨wt_745, wt_746⟩
def yd_String_coder : qz_Y := (⟨"java/lang/String", "coder", "()B"⟩, prog_23_method_152_code, 1, (Option.some Jvm.ClassFile.FieldType.byte), 5, { frames := 0, cells := 0, slots := 0, locals := 0 })
theorem pc_java_lang_String : ("java/lang/String" : String) ≠ "java/lang/invoke/MethodHandle" ∧ ("java/lang/String" : String) ≠ "java/lang/invoke/VarHandle" ∧ plainName "java/lang/String" = true := by decide +kernel
theorem pd_38 : (parseMethodDescriptor "()B").map (fun d => d.parameters.length) = some 0 := by decide +kernel
theorem mw_String_coder : qz_mw yd_String_coder 0 := ⟨wt_587, wt_16, ⟨pc_java_lang_String.1, pc_java_lang_String.2.1, pd_38⟩, pc_java_lang_String.2.2⟩
theorem vw_String_coder : qz_vw yd_String_coder := ⟨wt_585, wt_586⟩
def yd_String_length : qz_Y := (⟨"java/lang/String", "length", "()I"⟩, prog_23_method_54_code, 1, (Option.some Jvm.ClassFile.FieldType.int), 1, { frames := 1, cells := 0, slots := 0, locals := 20 })
theorem mw_String_length : qz_mw yd_String_length 0 := ⟨wt_583, wt_16, ⟨pc_java_lang_String.1, pc_java_lang_String.2.1, pd_16⟩, pc_java_lang_String.2.2⟩
theorem vw_String_length : qz_vw yd_String_length := ⟨wt_581, wt_582⟩
def yd_String_isLatin1 : qz_Y := (⟨"java/lang/String", "isLatin1", "()Z"⟩, prog_23_method_154_code, 1, (Option.some Jvm.ClassFile.FieldType.boolean), 3, { frames := 0, cells := 0, slots := 0, locals := 0 })
theorem mw_String_isLatin1 : qz_mw yd_String_isLatin1 0 := ⟨wt_597, wt_16, ⟨pc_java_lang_String.1, pc_java_lang_String.2.1, pd_22⟩, pc_java_lang_String.2.2⟩
theorem vw_String_isLatin1 : qz_vw yd_String_isLatin1 := ⟨wt_595, wt_596⟩
def yd_Preconditions_checkIndex : qz_Y := (⟨"jdk/internal/util/Preconditions", "checkIndex", "(IILjava/util/function/BiFunction;)I"⟩, prog_28_method_11_code, 3, (Option.some Jvm.ClassFile.FieldType.int), 1, { frames := 0, cells := 0, slots := 0, locals := 0 })
theorem pc_jdk_internal_util_Preconditions : ("jdk/internal/util/Preconditions" : String) ≠ "java/lang/invoke/MethodHandle" ∧ ("jdk/internal/util/Preconditions" : String) ≠ "java/lang/invoke/VarHandle" ∧ plainName "jdk/internal/util/Preconditions" = true := by decide +kernel
theorem pd_39 : (parseMethodDescriptor "(IILjava/util/function/BiFunction;)I").map (fun d => d.parameters.length) = some 3 := by decide +kernel
theorem mw_Preconditions_checkIndex : qz_mw yd_Preconditions_checkIndex 3 := ⟨wt_608, wt_18, ⟨pc_jdk_internal_util_Preconditions.1, pc_jdk_internal_util_Preconditions.2.1, pd_39⟩, pc_jdk_internal_util_Preconditions.2.2⟩
theorem vs_Preconditions_checkIndex : Cond.static yd_Preconditions_checkIndex.1 ∈ kz_TT := wt_607
def yd_String_checkIndex : qz_Y := (⟨"java/lang/String", "checkIndex", "(II)V"⟩, prog_23_method_155_code, 2, (Option.none : Option Jvm.ClassFile.FieldType), 0, { frames := 1, cells := 0, slots := 0, locals := 22 })
theorem mw_String_checkIndex : qz_mw yd_String_checkIndex 2 := ⟨wt_603, wt_16, ⟨pc_java_lang_String.1, pc_java_lang_String.2.1, pd_29⟩, pc_java_lang_String.2.2⟩
theorem vs_String_checkIndex : Cond.static yd_String_checkIndex.1 ∈ kz_TT := wt_602
def yd_StringLatin1_charAt : qz_Y := (⟨"java/lang/StringLatin1", "charAt", "([BI)C"⟩, prog_24_method_2_code, 2, (Option.some Jvm.ClassFile.FieldType.char), 4, { frames := 2, cells := 0, slots := 0, locals := 43 })
theorem pc_java_lang_StringLatin1 : ("java/lang/StringLatin1" : String) ≠ "java/lang/invoke/MethodHandle" ∧ ("java/lang/StringLatin1" : String) ≠ "java/lang/invoke/VarHandle" ∧ plainName "java/lang/StringLatin1" = true := by decide +kernel
theorem pd_40 : (parseMethodDescriptor "([BI)C").map (fun d => d.parameters.length) = some 2 := by decide +kernel
theorem mw_StringLatin1_charAt : qz_mw yd_StringLatin1_charAt 2 := ⟨wt_600, wt_17, ⟨pc_java_lang_StringLatin1.1, pc_java_lang_StringLatin1.2.1, pd_40⟩, pc_java_lang_StringLatin1.2.2⟩
theorem vs_StringLatin1_charAt : Cond.static yd_StringLatin1_charAt.1 ∈ kz_TT := wt_599
def yd_String_charAt : qz_Y := (⟨"java/lang/String", "charAt", "(I)C"⟩, prog_23_method_56_code, 2, (Option.some Jvm.ClassFile.FieldType.char), 4, { frames := 3, cells := 0, slots := 0, locals := 64 })
theorem mw_String_charAt : qz_mw yd_String_charAt 1 := ⟨wt_593, wt_16, ⟨pc_java_lang_String.1, pc_java_lang_String.2.1, pd_7⟩, pc_java_lang_String.2.2⟩
theorem vw_String_charAt : qz_vw yd_String_charAt := ⟨wt_591, wt_592⟩
def yd_Text_addAll : qz_Y := (⟨"StackAssembler$Text", "addAll", "(Ljava/lang/String;)V"⟩, prog_13_method_4_code, 3, (Option.none : Option Jvm.ClassFile.FieldType), 0, { frames := 4, cells := 0, slots := 0, locals := 85 })
theorem pd_41 : (parseMethodDescriptor "(Ljava/lang/String;)V").map (fun d => d.parameters.length) = some 1 := by decide +kernel
theorem mw_Text_addAll : qz_mw yd_Text_addAll 1 := ⟨wt_1033, wt_2, ⟨pc_StackAssembler_Text.1, pc_StackAssembler_Text.2.1, pd_41⟩, pc_StackAssembler_Text.2.2⟩
theorem vw_Text_addAll : qz_vw yd_Text_addAll := ⟨wt_1031, wt_1032⟩
def yd_Printer_writeType : qz_Y := (⟨"StackAssembler$Printer", "writeType", "(I)V"⟩, prog_10_method_6_code, 2, (Option.none : Option Jvm.ClassFile.FieldType), 0, { frames := 5, cells := 0, slots := 0, locals := 107 })
theorem mw_Printer_writeType : qz_mw yd_Printer_writeType 1 := ⟨wt_1051, wt_14, ⟨pc_StackAssembler_Printer.1, pc_StackAssembler_Printer.2.1, pd_8⟩, pc_StackAssembler_Printer.2.2⟩
theorem vw_Printer_writeType : qz_vw yd_Printer_writeType := ⟨wt_1050, wp_64⟩
def yd_Printer_writeSlots : qz_Y := (⟨"StackAssembler$Printer", "writeSlots", "(Ljava/lang/String;LStackAssembler$Function;II)V"⟩, prog_10_method_4_code, 6, (Option.none : Option Jvm.ClassFile.FieldType), 0, { frames := 6, cells := 0, slots := 0, locals := 128 })
theorem pd_42 : (parseMethodDescriptor "(Ljava/lang/String;LStackAssembler$Function;II)V").map (fun d => d.parameters.length) = some 4 := by decide +kernel
theorem mw_Printer_writeSlots : qz_mw yd_Printer_writeSlots 4 := ⟨wt_1045, wt_14, ⟨pc_StackAssembler_Printer.1, pc_StackAssembler_Printer.2.1, pd_42⟩, pc_StackAssembler_Printer.2.2⟩
theorem vw_Printer_writeSlots : qz_vw yd_Printer_writeSlots := ⟨wt_1044, wp_63⟩
def yd_Printer_writeResult : qz_Y := (⟨"StackAssembler$Printer", "writeResult", "(I)V"⟩, prog_10_method_5_code, 2, (Option.none : Option Jvm.ClassFile.FieldType), 0, { frames := 6, cells := 0, slots := 0, locals := 128 })
theorem mw_Printer_writeResult : qz_mw yd_Printer_writeResult 1 := ⟨wt_1057, wt_14, ⟨pc_StackAssembler_Printer.1, pc_StackAssembler_Printer.2.1, pd_8⟩, pc_StackAssembler_Printer.2.2⟩
theorem vw_Printer_writeResult : qz_vw yd_Printer_writeResult := ⟨wt_1056, wp_65⟩
def yd_Text_addNumber : qz_Y := (⟨"StackAssembler$Text", "addNumber", "(J)V"⟩, prog_13_method_5_code, 6, (Option.none : Option Jvm.ClassFile.FieldType), 0, { frames := 1, cells := 0, slots := 0, locals := 21 })
theorem mw_Text_addNumber : qz_mw yd_Text_addNumber 1 := ⟨wt_1068, wt_2, ⟨pc_StackAssembler_Text.1, pc_StackAssembler_Text.2.1, pd_11⟩, pc_StackAssembler_Text.2.2⟩
theorem vw_Text_addNumber : qz_vw yd_Text_addNumber := ⟨wt_1066, wt_1067⟩
def yd_Printer_writeInstruction : qz_Y := (⟨"StackAssembler$Printer", "writeInstruction", "(LStackAssembler$Op;J)V"⟩, prog_10_method_7_code, 4, (Option.none : Option Jvm.ClassFile.FieldType), 0, { frames := 7, cells := 0, slots := 0, locals := 149 })
theorem mw_Printer_writeInstruction : qz_mw yd_Printer_writeInstruction 2 := ⟨wt_1063, wt_14, ⟨pc_StackAssembler_Printer.1, pc_StackAssembler_Printer.2.1, pd_14⟩, pc_StackAssembler_Printer.2.2⟩
theorem vw_Printer_writeInstruction : qz_vw yd_Printer_writeInstruction := ⟨wt_1062, wp_66⟩
def yd_Printer_writeFunction : qz_Y := (⟨"StackAssembler$Printer", "writeFunction", "(LStackAssembler$Module;LStackAssembler$Function;)V"⟩, prog_10_method_3_code, 4, (Option.none : Option Jvm.ClassFile.FieldType), 0, { frames := 8, cells := 0, slots := 0, locals := 172 })
theorem mw_Printer_writeFunction : qz_mw yd_Printer_writeFunction 2 := ⟨wt_1039, wt_14, ⟨pc_StackAssembler_Printer.1, pc_StackAssembler_Printer.2.1, pd_15⟩, pc_StackAssembler_Printer.2.2⟩
theorem vw_Printer_writeFunction : qz_vw yd_Printer_writeFunction := ⟨wt_1038, wp_62⟩
def yd_Printer_write : qz_Y := (⟨"StackAssembler$Printer", "write", "(LStackAssembler$Module;LStackAssembler$Text;)V"⟩, prog_10_method_2_code, 4, (Option.none : Option Jvm.ClassFile.FieldType), 0, { frames := 9, cells := 0, slots := 0, locals := 195 })
theorem pd_43 : (parseMethodDescriptor "(LStackAssembler$Module;LStackAssembler$Text;)V").map (fun d => d.parameters.length) = some 2 := by decide +kernel
theorem mw_Printer_write : qz_mw yd_Printer_write 2 := ⟨wt_1028, wt_14, ⟨pc_StackAssembler_Printer.1, pc_StackAssembler_Printer.2.1, pd_43⟩, pc_StackAssembler_Printer.2.2⟩
theorem vw_Printer_write : qz_vw yd_Printer_write := ⟨wt_1026, wt_1027⟩
def yd_Scanner_begin : qz_Y := (⟨"StackAssembler$Scanner", "begin", "(LStackAssembler$Text;)V"⟩, prog_12_method_2_code, 2, (Option.none : Option Jvm.ClassFile.FieldType), 0, { frames := 0, cells := 0, slots := 0, locals := 0 })
theorem mw_Scanner_begin : qz_mw yd_Scanner_begin 1 := ⟨wt_533, wt_8, ⟨pc_StackAssembler_Scanner.1, pc_StackAssembler_Scanner.2.1, pd_1⟩, pc_StackAssembler_Scanner.2.2⟩
theorem vw_Scanner_begin : qz_vw yd_Scanner_begin := ⟨wt_531, wt_532⟩
def yd_Scanner_behindLine : qz_Y := (⟨"StackAssembler$Scanner", "behindLine", "(I)I"⟩, prog_12_method_6_code, 3, (Option.some Jvm.ClassFile.FieldType.int), 1, { frames := 1, cells := 0, slots := 0, locals := 21 })
theorem mw_Scanner_behindLine : qz_mw yd_Scanner_behindLine 1 := ⟨wt_558, wt_8, ⟨pc_StackAssembler_Scanner.1, pc_StackAssembler_Scanner.2.1, pd_17⟩, pc_StackAssembler_Scanner.2.2⟩
theorem vw_Scanner_behindLine : qz_vw yd_Scanner_behindLine := ⟨wt_557, wp_15⟩
def yd_Scanner_behindComment : qz_Y := (⟨"StackAssembler$Scanner", "behindComment", "(I)I"⟩, prog_12_method_7_code, 6, (Option.some Jvm.ClassFile.FieldType.int), 1, { frames := 1, cells := 0, slots := 0, locals := 21 })
theorem mw_Scanner_behindComment : qz_mw yd_Scanner_behindComment 1 := ⟨wt_562, wt_8, ⟨pc_StackAssembler_Scanner.1, pc_StackAssembler_Scanner.2.1, pd_17⟩, pc_StackAssembler_Scanner.2.2⟩
theorem vw_Scanner_behindComment : qz_vw yd_Scanner_behindComment := ⟨wt_561, wp_16⟩
def yd_Scanner_behindGap : qz_Y := (⟨"StackAssembler$Scanner", "behindGap", "(I)I"⟩, prog_12_method_5_code, 4, (Option.some Jvm.ClassFile.FieldType.int), 1, { frames := 2, cells := 0, slots := 0, locals := 46 })
theorem mw_Scanner_behindGap : qz_mw yd_Scanner_behindGap 1 := ⟨wt_553, wt_8, ⟨pc_StackAssembler_Scanner.1, pc_StackAssembler_Scanner.2.1, pd_17⟩, pc_StackAssembler_Scanner.2.2⟩
theorem vw_Scanner_behindGap : qz_vw yd_Scanner_behindGap := ⟨wt_552, wp_14⟩
def yd_Scanner_behindGaps : qz_Y := (⟨"StackAssembler$Scanner", "behindGaps", "(I)I"⟩, prog_12_method_4_code, 5, (Option.some Jvm.ClassFile.FieldType.int), 1, { frames := 3, cells := 0, slots := 0, locals := 69 })
theorem mw_Scanner_behindGaps : qz_mw yd_Scanner_behindGaps 1 := ⟨wt_549, wt_8, ⟨pc_StackAssembler_Scanner.1, pc_StackAssembler_Scanner.2.1, pd_17⟩, pc_StackAssembler_Scanner.2.2⟩
theorem vw_Scanner_behindGaps : qz_vw yd_Scanner_behindGaps := ⟨wt_548, wp_13⟩
def yd_Scanner_isOfWord : qz_Y := (⟨"StackAssembler$Scanner", "isOfWord", "(C)Z"⟩, prog_12_method_9_code, 2, (Option.some Jvm.ClassFile.FieldType.boolean), 3, { frames := 0, cells := 0, slots := 0, locals := 0 })
theorem pd_44 : (parseMethodDescriptor "(C)Z").map (fun d => d.parameters.length) = some 1 := by decide +kernel
theorem mw_Scanner_isOfWord : qz_mw yd_Scanner_isOfWord 1 := ⟨wt_565, wt_8, ⟨pc_StackAssembler_Scanner.1, pc_StackAssembler_Scanner.2.1, pd_44⟩, pc_StackAssembler_Scanner.2.2⟩
theorem vs_Scanner_isOfWord : Cond.static yd_Scanner_isOfWord.1 ∈ kz_TT := wt_564
def yd_Scanner_behindWord : qz_Y := (⟨"StackAssembler$Scanner", "behindWord", "(I)I"⟩, prog_12_method_8_code, 3, (Option.some Jvm.ClassFile.FieldType.int), 1, { frames := 1, cells := 0, slots := 0, locals := 21 })
theorem mw_Scanner_behindWord : qz_mw yd_Scanner_behindWord 1 := ⟨wt_569, wt_8, ⟨pc_StackAssembler_Scanner.1, pc_StackAssembler_Scanner.2.1, pd_17⟩, pc_StackAssembler_Scanner.2.2⟩
theorem vw_Scanner_behindWord : qz_vw yd_Scanner_behindWord := ⟨wt_568, wp_17⟩
def yd_Scanner_is : qz_Y := (⟨"StackAssembler$Scanner", "is", "(Ljava/lang/String;)Z"⟩, prog_12_method_11_code, 3, (Option.some Jvm.ClassFile.FieldType.boolean), 3, { frames := 4, cells := 0, slots := 0, locals := 85 })
theorem pd_45 : (parseMethodDescriptor "(Ljava/lang/String;)Z").map (fun d => d.parameters.length) = some 1 := by decide +kernel
theorem mw_Scanner_is : qz_mw yd_Scanner_is 1 := ⟨wt_579, wt_8, ⟨pc_StackAssembler_Scanner.1, pc_StackAssembler_Scanner.2.1, pd_45⟩, pc_StackAssembler_Scanner.2.2⟩
theorem vw_Scanner_is : qz_vw yd_Scanner_is := ⟨wt_577, wt_578⟩
def yd_Scanner_findOp : qz_Y := (⟨"StackAssembler$Scanner", "findOp", "()LStackAssembler$Op;"⟩, prog_12_method_14_code, 2, (Option.some (Jvm.ClassFile.FieldType.object "StackAssembler$Op")), 17, { frames := 5, cells := 0, slots := 0, locals := 107 })
theorem pd_46 : (parseMethodDescriptor "()LStackAssembler$Op;").map (fun d => d.parameters.length) = some 0 := by decide +kernel
theorem mw_Scanner_findOp : qz_mw yd_Scanner_findOp 0 := ⟨wt_573, wt_8, ⟨pc_StackAssembler_Scanner.1, pc_StackAssembler_Scanner.2.1, pd_46⟩, pc_StackAssembler_Scanner.2.2⟩
theorem vw_Scanner_findOp : qz_vw yd_Scanner_findOp := ⟨wt_572, wp_18⟩
def yd_Scanner_next : qz_Y := (⟨"StackAssembler$Scanner", "next", "()V"⟩, prog_12_method_3_code, 2, (Option.none : Option Jvm.ClassFile.FieldType), 0, { frames := 6, cells := 0, slots := 0, locals := 128 })
theorem mw_Scanner_next : qz_mw yd_Scanner_next 0 := ⟨wt_545, wt_8, ⟨pc_StackAssembler_Scanner.1, pc_StackAssembler_Scanner.2.1, pd_0⟩, pc_StackAssembler_Scanner.2.2⟩
theorem vw_Scanner_next : qz_vw yd_Scanner_next := ⟨wt_543, wt_544⟩
def yd_Scanner_beginsWith : qz_Y := (⟨"StackAssembler$Scanner", "beginsWith", "(C)Z"⟩, prog_12_method_15_code, 2, (Option.some Jvm.ClassFile.FieldType.boolean), 3, { frames := 1, cells := 0, slots := 0, locals := 21 })
theorem mw_Scanner_beginsWith : qz_mw yd_Scanner_beginsWith 1 := ⟨wt_649, wt_8, ⟨pc_StackAssembler_Scanner.1, pc_StackAssembler_Scanner.2.1, pd_44⟩, pc_StackAssembler_Scanner.2.2⟩
theorem vw_Scanner_beginsWith : qz_vw yd_Scanner_beginsWith := ⟨wt_647, wt_648⟩
def yd_Long_compare : qz_Y := (⟨"java/lang/Long", "compare", "(JJ)I"⟩, prog_20_method_42_code, 4, (Option.some Jvm.ClassFile.FieldType.int), 1, { frames := 0, cells := 0, slots := 0, locals := 0 })
theorem pc_java_lang_Long : ("java/lang/Long" : String) ≠ "java/lang/invoke/MethodHandle" ∧ ("java/lang/Long" : String) ≠ "java/lang/invoke/VarHandle" ∧ plainName "java/lang/Long" = true := by decide +kernel
theorem pd_47 : (parseMethodDescriptor "(JJ)I").map (fun d => d.parameters.length) = some 2 := by decide +kernel
theorem mw_Long_compare : qz_mw yd_Long_compare 2 := ⟨wt_661, wt_20, ⟨pc_java_lang_Long.1, pc_java_lang_Long.2.1, pd_47⟩, pc_java_lang_Long.2.2⟩
theorem vs_Long_compare : Cond.static yd_Long_compare.1 ∈ kz_TT := wt_660
def yd_Long_compareUnsigned : qz_Y := (⟨"java/lang/Long", "compareUnsigned", "(JJ)I"⟩, prog_20_method_43_code, 4, (Option.some Jvm.ClassFile.FieldType.int), 1, { frames := 1, cells := 0, slots := 0, locals := 23 })
theorem mw_Long_compareUnsigned : qz_mw yd_Long_compareUnsigned 2 := ⟨wt_657, wt_20, ⟨pc_java_lang_Long.1, pc_java_lang_Long.2.1, pd_47⟩, pc_java_lang_Long.2.2⟩
theorem vs_Long_compareUnsigned : Cond.static yd_Long_compareUnsigned.1 ∈ kz_TT := wt_656
def yd_Scanner_readDigits : qz_Y := (⟨"StackAssembler$Scanner", "readDigits", "(I)Z"⟩, prog_12_method_16_code, 4, (Option.some Jvm.ClassFile.FieldType.boolean), 3, { frames := 2, cells := 0, slots := 0, locals := 46 })
theorem mw_Scanner_readDigits : qz_mw yd_Scanner_readDigits 1 := ⟨wt_653, wt_8, ⟨pc_StackAssembler_Scanner.1, pc_StackAssembler_Scanner.2.1, pd_21⟩, pc_StackAssembler_Scanner.2.2⟩
theorem vw_Scanner_readDigits : qz_vw yd_Scanner_readDigits := ⟨wt_651, wt_652⟩
def yd_Reader_readNumber : qz_Y := (⟨"StackAssembler$Reader", "readNumber", "(JJ)Z"⟩, prog_11_method_25_code, 10, (Option.some Jvm.ClassFile.FieldType.boolean), 3, { frames := 3, cells := 0, slots := 0, locals := 69 })
theorem pd_48 : (parseMethodDescriptor "(JJ)Z").map (fun d => d.parameters.length) = some 2 := by decide +kernel
theorem mw_Reader_readNumber : qz_mw yd_Reader_readNumber 2 := ⟨wt_645, wt_7, ⟨pc_StackAssembler_Reader.1, pc_StackAssembler_Reader.2.1, pd_48⟩, pc_StackAssembler_Reader.2.2⟩
theorem vw_Reader_readNumber : qz_vw yd_Reader_readNumber := ⟨wt_644, wp_22⟩
def yd_Scanner_isName : qz_Y := (⟨"StackAssembler$Scanner", "isName", "()Z"⟩, prog_12_method_12_code, 1, (Option.some Jvm.ClassFile.FieldType.boolean), 3, { frames := 1, cells := 0, slots := 0, locals := 21 })
theorem mw_Scanner_isName : qz_mw yd_Scanner_isName 0 := ⟨wt_669, wt_8, ⟨pc_StackAssembler_Scanner.1, pc_StackAssembler_Scanner.2.1, pd_22⟩, pc_StackAssembler_Scanner.2.2⟩
theorem vw_Scanner_isName : qz_vw yd_Scanner_isName := ⟨wt_667, wt_668⟩
def yd_Scanner_same : qz_Y := (⟨"StackAssembler$Scanner", "same", "(II)Z"⟩, prog_12_method_10_code, 6, (Option.some Jvm.ClassFile.FieldType.boolean), 3, { frames := 1, cells := 0, slots := 0, locals := 21 })
theorem mw_Scanner_same : qz_mw yd_Scanner_same 2 := ⟨wt_682, wt_8, ⟨pc_StackAssembler_Scanner.1, pc_StackAssembler_Scanner.2.1, pd_19⟩, pc_StackAssembler_Scanner.2.2⟩
theorem vw_Scanner_same : qz_vw yd_Scanner_same := ⟨wt_680, wt_681⟩
def yd_Reader_labelNamed : qz_Y := (⟨"StackAssembler$Reader", "labelNamed", "()I"⟩, prog_11_method_26_code, 4, (Option.some Jvm.ClassFile.FieldType.int), 1, { frames := 2, cells := 0, slots := 0, locals := 46 })
theorem mw_Reader_labelNamed : qz_mw yd_Reader_labelNamed 0 := ⟨wt_674, wt_7, ⟨pc_StackAssembler_Reader.1, pc_StackAssembler_Reader.2.1, pd_16⟩, pc_StackAssembler_Reader.2.2⟩
theorem vw_Reader_labelNamed : qz_vw yd_Reader_labelNamed := ⟨wt_673, wp_23⟩
def yd_Reader_slotNamed : qz_Y := (⟨"StackAssembler$Reader", "slotNamed", "()I"⟩, prog_11_method_27_code, 3, (Option.some Jvm.ClassFile.FieldType.int), 1, { frames := 2, cells := 0, slots := 0, locals := 46 })
theorem mw_Reader_slotNamed : qz_mw yd_Reader_slotNamed 0 := ⟨wt_686, wt_7, ⟨pc_StackAssembler_Reader.1, pc_StackAssembler_Reader.2.1, pd_16⟩, pc_StackAssembler_Reader.2.2⟩
theorem vw_Reader_slotNamed : qz_vw yd_Reader_slotNamed := ⟨wt_685, wp_24⟩
def yd_Reader_readOperand : qz_Y := (⟨"StackAssembler$Reader", "readOperand", "(I)Z"⟩, prog_11_method_24_code, 3, (Option.some Jvm.ClassFile.FieldType.boolean), 3, { frames := 4, cells := 0, slots := 0, locals := 98 })
theorem mw_Reader_readOperand : qz_mw yd_Reader_readOperand 1 := ⟨wt_639, wt_7, ⟨pc_StackAssembler_Reader.1, pc_StackAssembler_Reader.2.1, pd_21⟩, pc_StackAssembler_Reader.2.2⟩
theorem vw_Reader_readOperand : qz_vw yd_Reader_readOperand := ⟨wt_638, wp_21⟩
def yd_Reader_setLatestOperand : qz_Y := (⟨"StackAssembler$Reader", "setLatestOperand", "(J)V"⟩, prog_11_method_18_code, 3, (Option.none : Option Jvm.ClassFile.FieldType), 0, { frames := 0, cells := 0, slots := 0, locals := 0 })
theorem mw_Reader_setLatestOperand : qz_mw yd_Reader_setLatestOperand 1 := ⟨wt_691, wt_7, ⟨pc_StackAssembler_Reader.1, pc_StackAssembler_Reader.2.1, pd_11⟩, pc_StackAssembler_Reader.2.2⟩
theorem vw_Reader_setLatestOperand : qz_vw yd_Reader_setLatestOperand := ⟨wt_690, wp_25⟩
def yd_Reader_inOperand : qz_Y := (⟨"StackAssembler$Reader", "inOperand", "(LStackAssembler$Level;)I"⟩, prog_11_method_23_code, 4, (Option.some Jvm.ClassFile.FieldType.int), 1, { frames := 5, cells := 0, slots := 0, locals := 120 })
theorem pd_49 : (parseMethodDescriptor "(LStackAssembler$Level;)I").map (fun d => d.parameters.length) = some 1 := by decide +kernel
theorem mw_Reader_inOperand : qz_mw yd_Reader_inOperand 1 := ⟨wt_635, wt_7, ⟨pc_StackAssembler_Reader.1, pc_StackAssembler_Reader.2.1, pd_49⟩, pc_StackAssembler_Reader.2.2⟩
theorem vw_Reader_inOperand : qz_vw yd_Reader_inOperand := ⟨wt_634, wp_20⟩
def yd_Reader_push : qz_Y := (⟨"StackAssembler$Reader", "push", "(I)Z"⟩, prog_11_method_4_code, 2, (Option.some Jvm.ClassFile.FieldType.boolean), 3, { frames := 1, cells := 0, slots := 0, locals := 21 })
theorem mw_Reader_push : qz_mw yd_Reader_push 1 := ⟨wt_703, wt_7, ⟨pc_StackAssembler_Reader.1, pc_StackAssembler_Reader.2.1, pd_21⟩, pc_StackAssembler_Reader.2.2⟩
theorem vw_Reader_push : qz_vw yd_Reader_push := ⟨wt_702, wp_28⟩
def yd_Reader_open : qz_Y := (⟨"StackAssembler$Reader", "open", "()I"⟩, prog_11_method_5_code, 1, (Option.some Jvm.ClassFile.FieldType.int), 1, { frames := 2, cells := 0, slots := 0, locals := 42 })
theorem mw_Reader_open : qz_mw yd_Reader_open 0 := ⟨wt_699, wt_7, ⟨pc_StackAssembler_Reader.1, pc_StackAssembler_Reader.2.1, pd_16⟩, pc_StackAssembler_Reader.2.2⟩
theorem vw_Reader_open : qz_vw yd_Reader_open := ⟨wt_698, wp_27⟩
def yd_Reader_inText : qz_Y := (⟨"StackAssembler$Reader", "inText", "(LStackAssembler$Level;)I"⟩, prog_11_method_7_code, 2, (Option.some Jvm.ClassFile.FieldType.int), 1, { frames := 3, cells := 0, slots := 0, locals := 62 })
theorem mw_Reader_inText : qz_mw yd_Reader_inText 1 := ⟨wt_695, wt_7, ⟨pc_StackAssembler_Reader.1, pc_StackAssembler_Reader.2.1, pd_49⟩, pc_StackAssembler_Reader.2.2⟩
theorem vw_Reader_inText : qz_vw yd_Reader_inText := ⟨wt_694, wp_26⟩
def yd_Reader_setFunctionName : qz_Y := (⟨"StackAssembler$Reader", "setFunctionName", "(I)V"⟩, prog_11_method_21_code, 3, (Option.none : Option Jvm.ClassFile.FieldType), 0, { frames := 0, cells := 0, slots := 0, locals := 0 })
theorem mw_Reader_setFunctionName : qz_mw yd_Reader_setFunctionName 1 := ⟨wt_728, wt_7, ⟨pc_StackAssembler_Reader.1, pc_StackAssembler_Reader.2.1, pd_8⟩, pc_StackAssembler_Reader.2.2⟩
theorem vw_Reader_setFunctionName : qz_vw yd_Reader_setFunctionName := ⟨wt_727, wp_31⟩
def yd_Reader_beginFunction : qz_Y := (⟨"StackAssembler$Reader", "beginFunction", "(LStackAssembler$Level;)I"⟩, prog_11_method_10_code, 2, (Option.some Jvm.ClassFile.FieldType.int), 1, { frames := 5, cells := 0, slots := 0, locals := 107 })
theorem mw_Reader_beginFunction : qz_mw yd_Reader_beginFunction 1 := ⟨wt_714, wt_7, ⟨pc_StackAssembler_Reader.1, pc_StackAssembler_Reader.2.1, pd_49⟩, pc_StackAssembler_Reader.2.2⟩
theorem vw_Reader_beginFunction : qz_vw yd_Reader_beginFunction := ⟨wt_713, wp_30⟩
def yd_Reader_beginFolded : qz_Y := (⟨"StackAssembler$Reader", "beginFolded", "(LStackAssembler$Level;)I"⟩, prog_11_method_12_code, 3, (Option.some Jvm.ClassFile.FieldType.int), 1, { frames := 2, cells := 0, slots := 0, locals := 40 })
theorem mw_Reader_beginFolded : qz_mw yd_Reader_beginFolded 1 := ⟨wt_732, wt_7, ⟨pc_StackAssembler_Reader.1, pc_StackAssembler_Reader.2.1, pd_49⟩, pc_StackAssembler_Reader.2.2⟩
theorem vw_Reader_beginFolded : qz_vw yd_Reader_beginFolded := ⟨wt_731, wp_32⟩
def yd_Reader_beginPart : qz_Y := (⟨"StackAssembler$Reader", "beginPart", "(LStackAssembler$Level;LStackAssembler$Level;)I"⟩, prog_11_method_11_code, 4, (Option.some Jvm.ClassFile.FieldType.int), 1, { frames := 5, cells := 0, slots := 0, locals := 107 })
theorem pd_50 : (parseMethodDescriptor "(LStackAssembler$Level;LStackAssembler$Level;)I").map (fun d => d.parameters.length) = some 2 := by decide +kernel
theorem mw_Reader_beginPart : qz_mw yd_Reader_beginPart 2 := ⟨wt_751, wt_7, ⟨pc_StackAssembler_Reader.1, pc_StackAssembler_Reader.2.1, pd_50⟩, pc_StackAssembler_Reader.2.2⟩
theorem vw_Reader_beginPart : qz_vw yd_Reader_beginPart := ⟨wt_750, wp_33⟩
def yd_Reader_behindOpening : qz_Y := (⟨"StackAssembler$Reader", "behindOpening", "(LStackAssembler$Level;)I"⟩, prog_11_method_9_code, 3, (Option.some Jvm.ClassFile.FieldType.int), 1, { frames := 6, cells := 0, slots := 0, locals := 130 })
theorem mw_Reader_behindOpening : qz_mw yd_Reader_behindOpening 1 := ⟨wt_707, wt_7, ⟨pc_StackAssembler_Reader.1, pc_StackAssembler_Reader.2.1, pd_49⟩, pc_StackAssembler_Reader.2.2⟩
theorem vw_Reader_behindOpening : qz_vw yd_Reader_behindOpening := ⟨wt_706, wp_29⟩
def yd_Reader_close : qz_Y := (⟨"StackAssembler$Reader", "close", "()I"⟩, prog_11_method_6_code, 1, (Option.some Jvm.ClassFile.FieldType.int), 1, { frames := 1, cells := 0, slots := 0, locals := 21 })
theorem mw_Reader_close : qz_mw yd_Reader_close 0 := ⟨wt_762, wt_7, ⟨pc_StackAssembler_Reader.1, pc_StackAssembler_Reader.2.1, pd_16⟩, pc_StackAssembler_Reader.2.2⟩
theorem vw_Reader_close : qz_vw yd_Reader_close := ⟨wt_761, wp_35⟩
def yd_Reader_inModule : qz_Y := (⟨"StackAssembler$Reader", "inModule", "()I"⟩, prog_11_method_8_code, 1, (Option.some Jvm.ClassFile.FieldType.int), 1, { frames := 3, cells := 0, slots := 0, locals := 62 })
theorem mw_Reader_inModule : qz_mw yd_Reader_inModule 0 := ⟨wt_758, wt_7, ⟨pc_StackAssembler_Reader.1, pc_StackAssembler_Reader.2.1, pd_16⟩, pc_StackAssembler_Reader.2.2⟩
theorem vw_Reader_inModule : qz_vw yd_Reader_inModule := ⟨wt_757, wp_34⟩
def yd_Scanner_valueType : qz_Y := (⟨"StackAssembler$Scanner", "valueType", "()I"⟩, prog_12_method_13_code, 1, (Option.some Jvm.ClassFile.FieldType.int), 1, { frames := 5, cells := 0, slots := 0, locals := 107 })
theorem mw_Scanner_valueType : qz_mw yd_Scanner_valueType 0 := ⟨wt_770, wt_8, ⟨pc_StackAssembler_Scanner.1, pc_StackAssembler_Scanner.2.1, pd_16⟩, pc_StackAssembler_Scanner.2.2⟩
theorem vw_Scanner_valueType : qz_vw yd_Scanner_valueType := ⟨wt_768, wt_769⟩
def yd_Reader_declare : qz_Y := (⟨"StackAssembler$Reader", "declare", "(LStackAssembler$Level;I)Z"⟩, prog_11_method_15_code, 5, (Option.some Jvm.ClassFile.FieldType.boolean), 3, { frames := 2, cells := 0, slots := 0, locals := 42 })
theorem pd_51 : (parseMethodDescriptor "(LStackAssembler$Level;I)Z").map (fun d => d.parameters.length) = some 2 := by decide +kernel
theorem mw_Reader_declare : qz_mw yd_Reader_declare 2 := ⟨wt_776, wt_7, ⟨pc_StackAssembler_Reader.1, pc_StackAssembler_Reader.2.1, pd_51⟩, pc_StackAssembler_Reader.2.2⟩
theorem vw_Reader_declare : qz_vw yd_Reader_declare := ⟨wt_775, wp_37⟩
def yd_Reader_inDeclaration : qz_Y := (⟨"StackAssembler$Reader", "inDeclaration", "(LStackAssembler$Level;)I"⟩, prog_11_method_14_code, 3, (Option.some Jvm.ClassFile.FieldType.int), 1, { frames := 6, cells := 0, slots := 0, locals := 127 })
theorem mw_Reader_inDeclaration : qz_mw yd_Reader_inDeclaration 1 := ⟨wt_766, wt_7, ⟨pc_StackAssembler_Reader.1, pc_StackAssembler_Reader.2.1, pd_49⟩, pc_StackAssembler_Reader.2.2⟩
theorem vw_Reader_inDeclaration : qz_vw yd_Reader_inDeclaration := ⟨wt_765, wp_36⟩
def yd_Reader_setResult : qz_Y := (⟨"StackAssembler$Reader", "setResult", "(I)V"⟩, prog_11_method_17_code, 3, (Option.none : Option Jvm.ClassFile.FieldType), 0, { frames := 2, cells := 0, slots := 0, locals := 41 })
theorem mw_Reader_setResult : qz_mw yd_Reader_setResult 1 := ⟨wt_793, wt_7, ⟨pc_StackAssembler_Reader.1, pc_StackAssembler_Reader.2.1, pd_8⟩, pc_StackAssembler_Reader.2.2⟩
theorem vw_Reader_setResult : qz_vw yd_Reader_setResult := ⟨wt_792, wp_39⟩
def yd_Reader_inResult : qz_Y := (⟨"StackAssembler$Reader", "inResult", "(LStackAssembler$Level;)I"⟩, prog_11_method_16_code, 3, (Option.some Jvm.ClassFile.FieldType.int), 1, { frames := 6, cells := 0, slots := 0, locals := 127 })
theorem mw_Reader_inResult : qz_mw yd_Reader_inResult 1 := ⟨wt_789, wt_7, ⟨pc_StackAssembler_Reader.1, pc_StackAssembler_Reader.2.1, pd_49⟩, pc_StackAssembler_Reader.2.2⟩
theorem vw_Reader_inResult : qz_vw yd_Reader_inResult := ⟨wt_788, wp_38⟩
def yd_Reader_inFolded : qz_Y := (⟨"StackAssembler$Reader", "inFolded", "(LStackAssembler$Level;)I"⟩, prog_11_method_13_code, 2, (Option.some Jvm.ClassFile.FieldType.int), 1, { frames := 3, cells := 0, slots := 0, locals := 64 })
theorem mw_Reader_inFolded : qz_mw yd_Reader_inFolded 1 := ⟨wt_797, wt_7, ⟨pc_StackAssembler_Reader.1, pc_StackAssembler_Reader.2.1, pd_49⟩, pc_StackAssembler_Reader.2.2⟩
theorem vw_Reader_inFolded : qz_vw yd_Reader_inFolded := ⟨wt_796, wp_40⟩
def yd_Reader_instructionIn : qz_Y := (⟨"StackAssembler$Reader", "instructionIn", "(LStackAssembler$Level;)I"⟩, prog_11_method_22_code, 3, (Option.some Jvm.ClassFile.FieldType.int), 1, { frames := 3, cells := 0, slots := 0, locals := 64 })
theorem mw_Reader_instructionIn : qz_mw yd_Reader_instructionIn 1 := ⟨wt_809, wt_7, ⟨pc_StackAssembler_Reader.1, pc_StackAssembler_Reader.2.1, pd_49⟩, pc_StackAssembler_Reader.2.2⟩
theorem vw_Reader_instructionIn : qz_vw yd_Reader_instructionIn := ⟨wt_808, wp_42⟩
def yd_Reader_functionNamed : qz_Y := (⟨"StackAssembler$Reader", "functionNamed", "(I)I"⟩, prog_11_method_28_code, 3, (Option.some Jvm.ClassFile.FieldType.int), 1, { frames := 2, cells := 0, slots := 0, locals := 46 })
theorem mw_Reader_functionNamed : qz_mw yd_Reader_functionNamed 1 := ⟨wt_822, wt_7, ⟨pc_StackAssembler_Reader.1, pc_StackAssembler_Reader.2.1, pd_17⟩, pc_StackAssembler_Reader.2.2⟩
theorem vw_Reader_functionNamed : qz_vw yd_Reader_functionNamed := ⟨wt_821, wp_44⟩
def yd_Reader_giveName : qz_Y := (⟨"StackAssembler$Reader", "giveName", "(LStackAssembler$Level;)I"⟩, prog_11_method_20_code, 3, (Option.some Jvm.ClassFile.FieldType.int), 1, { frames := 3, cells := 0, slots := 0, locals := 68 })
theorem mw_Reader_giveName : qz_mw yd_Reader_giveName 1 := ⟨wt_818, wt_7, ⟨pc_StackAssembler_Reader.1, pc_StackAssembler_Reader.2.1, pd_49⟩, pc_StackAssembler_Reader.2.2⟩
theorem vw_Reader_giveName : qz_vw yd_Reader_giveName := ⟨wt_817, wp_43⟩
def yd_Reader_inBody : qz_Y := (⟨"StackAssembler$Reader", "inBody", "(LStackAssembler$Level;)I"⟩, prog_11_method_19_code, 3, (Option.some Jvm.ClassFile.FieldType.int), 1, { frames := 4, cells := 0, slots := 0, locals := 90 })
theorem mw_Reader_inBody : qz_mw yd_Reader_inBody 1 := ⟨wt_805, wt_7, ⟨pc_StackAssembler_Reader.1, pc_StackAssembler_Reader.2.1, pd_49⟩, pc_StackAssembler_Reader.2.2⟩
theorem vw_Reader_inBody : qz_vw yd_Reader_inBody := ⟨wt_804, wp_41⟩
def yd_Reader_judge : qz_Y := (⟨"StackAssembler$Reader", "judge", "(LStackAssembler$Level;)I"⟩, prog_11_method_3_code, 2, (Option.some Jvm.ClassFile.FieldType.int), 1, { frames := 7, cells := 0, slots := 0, locals := 152 })
theorem mw_Reader_judge : qz_mw yd_Reader_judge 1 := ⟨wt_631, wt_7, ⟨pc_StackAssembler_Reader.1, pc_StackAssembler_Reader.2.1, pd_49⟩, pc_StackAssembler_Reader.2.2⟩
theorem vw_Reader_judge : qz_vw yd_Reader_judge := ⟨wt_630, wp_19⟩
def yd_Reader_findFunctions : qz_Y := (⟨"StackAssembler$Reader", "findFunctions", "()I"⟩, prog_11_method_29_code, 5, (Option.some Jvm.ClassFile.FieldType.int), 1, { frames := 3, cells := 0, slots := 0, locals := 68 })
theorem mw_Reader_findFunctions : qz_mw yd_Reader_findFunctions 0 := ⟨wt_826, wt_7, ⟨pc_StackAssembler_Reader.1, pc_StackAssembler_Reader.2.1, pd_16⟩, pc_StackAssembler_Reader.2.2⟩
theorem vw_Reader_findFunctions : qz_vw yd_Reader_findFunctions := ⟨wt_825, wp_45⟩
def yd_Reader_read : qz_Y := (⟨"StackAssembler$Reader", "read", "(LStackAssembler$Text;LStackAssembler$Module;)I"⟩, prog_11_method_2_code, 5, (Option.some Jvm.ClassFile.FieldType.int), 1, { frames := 8, cells := 0, slots := 0, locals := 173 })
theorem pd_52 : (parseMethodDescriptor "(LStackAssembler$Text;LStackAssembler$Module;)I").map (fun d => d.parameters.length) = some 2 := by decide +kernel
theorem mw_Reader_read : qz_mw yd_Reader_read 2 := ⟨wt_529, wt_7, ⟨pc_StackAssembler_Reader.1, pc_StackAssembler_Reader.2.1, pd_52⟩, pc_StackAssembler_Reader.2.2⟩
theorem vw_Reader_read : qz_vw yd_Reader_read := ⟨wt_527, wt_528⟩
theorem wa_char : Cond.arrayClass (newarray.typeOf .char) ∈ kz_TT := wt_52
theorem fl_Text_9 : qz_fl "StackAssembler$Text" 9 11 0 := ⟨_, rfl, by decide, Or.inl wt_42⟩
theorem oi_Text_3 : Cond.methodLink "StackAssembler$Text" 3 Lib.objectInit ∈ kz_TT ∧ Cond.instanceMethod Lib.objectInit ∈ kz_TT ∧ Cond.code Lib.objectInit ⟨#[0xb1]⟩ 1 none ∈ kz_TT := ⟨wt_41, wt_34, wt_35⟩
theorem fp_Text_9_Text_init : qz_fp yd_Text_init 9 11 0 := ⟨_, rfl, by decide, Or.inr ⟨rfl, rfl, rfl, wt_42⟩⟩
theorem wa_int : Cond.arrayClass (newarray.typeOf .int) ∈ kz_TT := wt_114
theorem fl_Function_9 : qz_fl "StackAssembler$Function" 9 4 0 := ⟨_, rfl, by decide, Or.inl wt_68⟩
theorem oi_Function_3 : Cond.methodLink "StackAssembler$Function" 3 Lib.objectInit ∈ kz_TT ∧ Cond.instanceMethod Lib.objectInit ∈ kz_TT ∧ Cond.code Lib.objectInit ⟨#[0xb1]⟩ 1 none ∈ kz_TT := ⟨wt_67, wt_34, wt_35⟩
theorem fp_Function_9_Function_init : qz_fp yd_Function_init 9 4 0 := ⟨_, rfl, by decide, Or.inr ⟨rfl, rfl, rfl, wt_68⟩⟩
theorem an_Module_17 : Cond.classLink "StackAssembler$Module" 17 "StackAssembler$Op" ∈ kz_TT ∧ "StackAssembler$Op" ∈ kz_ao := ⟨wt_61, List.mem_of_getElem? (i := 1) rfl⟩
theorem an_Module_9 : Cond.classLink "StackAssembler$Module" 9 "StackAssembler$Function" ∈ kz_TT ∧ "StackAssembler$Function" ∈ kz_ao := ⟨wt_59, List.mem_of_getElem? (i := 0) rfl⟩
theorem wa_long : Cond.arrayClass (newarray.typeOf .long) ∈ kz_TT := wt_113
theorem ln_Module_27 : qz_ln "StackAssembler$Module" 27 yd_Function_init := Or.inr ⟨_, wn_64⟩
theorem fl_Module_11 : qz_fl "StackAssembler$Module" 11 6 0 := ⟨_, rfl, by decide, Or.inl wt_117⟩
theorem fl_Module_19 : qz_fl "StackAssembler$Module" 19 6 1 := ⟨_, rfl, by decide, Or.inl wt_122⟩
theorem fl_Module_23 : qz_fl "StackAssembler$Module" 23 6 2 := ⟨_, rfl, by decide, Or.inl wt_128⟩
theorem nw_Module_9 : ∃ q : vw_C, kz_cl[4]? = some q ∧ Cond.classLink "StackAssembler$Module" 9 q.1 ∈ kz_TT ∧ Cond.instantiable q.1 (kz_N 4) ∈ kz_TT ∧ Cond.initialized q.1 ∈ kz_TT := ⟨_, rfl, wt_59, wt_63, wt_4⟩
theorem oi_Module_3 : Cond.methodLink "StackAssembler$Module" 3 Lib.objectInit ∈ kz_TT ∧ Cond.instanceMethod Lib.objectInit ∈ kz_TT ∧ Cond.code Lib.objectInit ⟨#[0xb1]⟩ 1 none ∈ kz_TT := ⟨wt_58, wt_34, wt_35⟩
theorem fp_Module_11_Module_init : qz_fp yd_Module_init 11 6 0 := ⟨_, rfl, by decide, Or.inr ⟨rfl, rfl, rfl, wt_117⟩⟩
theorem fp_Module_19_Module_init : qz_fp yd_Module_init 19 6 1 := ⟨_, rfl, by decide, Or.inr ⟨rfl, rfl, rfl, wt_122⟩⟩
theorem fp_Module_23_Module_init : qz_fp yd_Module_init 23 6 2 := ⟨_, rfl, by decide, Or.inr ⟨rfl, rfl, rfl, wt_128⟩⟩
theorem sz_Op_NOP : ("StackAssembler$Op", "NOP", "LStackAssembler$Op;", 17, ((-2) : Int)) ∈ kz_st := List.mem_of_getElem? (i := 1) rfl
theorem sl_Module_28 : Cond.fieldLink "StackAssembler$Module" 28 "StackAssembler$Op" "NOP" "LStackAssembler$Op;" ∈ kz_TT ∨ ∃ host, Cond.fieldLinkNest "StackAssembler$Module" 28 "StackAssembler$Op" "NOP" "LStackAssembler$Op;" host ∈ kz_NT := Or.inl wt_115
theorem fl_Scanner_9 : qz_fl "StackAssembler$Scanner" 9 10 0 := ⟨_, rfl, by decide, Or.inl wt_167⟩
theorem oi_Scanner_3 : Cond.methodLink "StackAssembler$Scanner" 3 Lib.objectInit ∈ kz_TT ∧ Cond.instanceMethod Lib.objectInit ∈ kz_TT ∧ Cond.code Lib.objectInit ⟨#[0xb1]⟩ 1 none ∈ kz_TT := ⟨wt_166, wt_34, wt_35⟩
theorem fp_Scanner_9_Scanner_init : qz_fp yd_Scanner_init 9 10 0 := ⟨_, rfl, by decide, Or.inl ⟨rfl, Or.inl wt_167⟩⟩
theorem fl_Level_13 : qz_fl "StackAssembler$Level" 13 5 3 := ⟨_, rfl, by decide, Or.inl wt_202⟩
theorem oi_Level_1 : Cond.methodLink "StackAssembler$Level" 1 Lib.objectInit ∈ kz_TT ∧ Cond.instanceMethod Lib.objectInit ∈ kz_TT ∧ Cond.code Lib.objectInit ⟨#[0xb1]⟩ 1 none ∈ kz_TT := ⟨wt_194, wt_34, wt_35⟩
theorem fp_Level_13_Level_init : qz_fp yd_Level_init 13 5 3 := ⟨_, rfl, by decide, Or.inl ⟨rfl, Or.inl wt_202⟩⟩
theorem sl_Level_7 : Cond.fieldLink "StackAssembler$Level" 7 "StackAssembler$Op" "NOP" "LStackAssembler$Op;" ∈ kz_TT ∨ ∃ host, Cond.fieldLinkNest "StackAssembler$Level" 7 "StackAssembler$Op" "NOP" "LStackAssembler$Op;" host ∈ kz_NT := Or.inl wt_195
theorem an_Reader_9 : Cond.classLink "StackAssembler$Reader" 9 "StackAssembler$Level" ∈ kz_TT ∧ "StackAssembler$Level" ∈ kz_ao := ⟨wt_159, List.mem_of_getElem? (i := 2) rfl⟩
theorem ln_Reader_30 : qz_ln "StackAssembler$Reader" 30 yd_Scanner_init := Or.inl wt_163
theorem ln_Reader_37 : qz_ln "StackAssembler$Reader" 37 yd_Level_init := Or.inr ⟨_, wn_191⟩
theorem fl_Reader_11 : qz_fl "StackAssembler$Reader" 11 9 1 := ⟨_, rfl, by decide, Or.inl wt_218⟩
theorem fl_Reader_17 : qz_fl "StackAssembler$Reader" 17 9 2 := ⟨_, rfl, by decide, Or.inl wt_219⟩
theorem fl_Reader_21 : qz_fl "StackAssembler$Reader" 21 9 3 := ⟨_, rfl, by decide, Or.inl wt_220⟩
theorem fl_Reader_24 : qz_fl "StackAssembler$Reader" 24 9 4 := ⟨_, rfl, by decide, Or.inl wt_221⟩
theorem fl_Reader_33 : qz_fl "StackAssembler$Reader" 33 9 0 := ⟨_, rfl, by decide, Or.inl wt_217⟩
theorem nw_Reader_28 : ∃ q : vw_C, kz_cl[10]? = some q ∧ Cond.classLink "StackAssembler$Reader" 28 q.1 ∈ kz_TT ∧ Cond.instantiable q.1 (kz_N 10) ∈ kz_TT ∧ Cond.initialized q.1 ∈ kz_TT := ⟨_, rfl, wt_161, wt_162, wt_8⟩
theorem nw_Reader_9 : ∃ q : vw_C, kz_cl[5]? = some q ∧ Cond.classLink "StackAssembler$Reader" 9 q.1 ∈ kz_TT ∧ Cond.instantiable q.1 (kz_N 5) ∈ kz_TT ∧ Cond.initialized q.1 ∈ kz_TT := ⟨_, rfl, wt_159, wt_190, wt_9⟩
theorem oi_Reader_3 : Cond.methodLink "StackAssembler$Reader" 3 Lib.objectInit ∈ kz_TT ∧ Cond.instanceMethod Lib.objectInit ∈ kz_TT ∧ Cond.code Lib.objectInit ⟨#[0xb1]⟩ 1 none ∈ kz_TT := ⟨wt_158, wt_34, wt_35⟩
theorem fp_Reader_11_Reader_init : qz_fp yd_Reader_init 11 9 1 := ⟨_, rfl, by decide, Or.inr ⟨rfl, rfl, rfl, wt_218⟩⟩
theorem fp_Reader_17_Reader_init : qz_fp yd_Reader_init 17 9 2 := ⟨_, rfl, by decide, Or.inr ⟨rfl, rfl, rfl, wt_219⟩⟩
theorem fp_Reader_21_Reader_init : qz_fp yd_Reader_init 21 9 3 := ⟨_, rfl, by decide, Or.inr ⟨rfl, rfl, rfl, wt_220⟩⟩
theorem fp_Reader_24_Reader_init : qz_fp yd_Reader_init 24 9 4 := ⟨_, rfl, by decide, Or.inl ⟨rfl, Or.inl wt_221⟩⟩
theorem fp_Reader_33_Reader_init : qz_fp yd_Reader_init 33 9 0 := ⟨_, rfl, by decide, Or.inr ⟨rfl, rfl, rfl, wt_217⟩⟩
theorem fl_Module_32 : qz_fl "StackAssembler$Module" 32 6 3 := ⟨_, rfl, by decide, Or.inl wt_134⟩
theorem ma_Module_51 : Cond.methodLink "StackAssembler$Module" 51 Lib.Math.min.name ∈ kz_TT ∧ Cond.static Lib.Math.min.name ∈ kz_TT ∧ Cond.initialized "java/lang/Math" ∈ kz_TT ∧ Cond.code Lib.Math.min.name Lib.Math.min.code 2 (some .int) ∈ kz_TT := ⟨wt_261, wt_262, wt_11, wt_263⟩
theorem ma_Module_57 : Cond.methodLink "StackAssembler$Module" 57 Lib.Math.max.name ∈ kz_TT ∧ Cond.static Lib.Math.max.name ∈ kz_TT ∧ Cond.initialized "java/lang/Math" ∈ kz_TT ∧ Cond.code Lib.Math.max.name Lib.Math.max.code 2 (some .int) ∈ kz_TT := ⟨wt_264, wt_265, wt_11, wt_266⟩
theorem oi_Frame_1 : Cond.methodLink "StackAssembler$Frame" 1 Lib.objectInit ∈ kz_TT ∧ Cond.instanceMethod Lib.objectInit ∈ kz_TT ∧ Cond.code Lib.objectInit ⟨#[0xb1]⟩ 1 none ∈ kz_TT := ⟨wt_271, wt_34, wt_35⟩
theorem an_Checker_15 : Cond.classLink "StackAssembler$Checker" 15 "StackAssembler$Frame" ∈ kz_TT ∧ "StackAssembler$Frame" ∈ kz_ao := ⟨wt_255, List.mem_of_getElem? (i := 3) rfl⟩
theorem ln_Checker_35 : qz_ln "StackAssembler$Checker" 35 yd_Frame_init := Or.inr ⟨_, wn_268⟩
theorem ln_Checker_25 : qz_ln "StackAssembler$Checker" 25 yd_Module_latest := Or.inl wt_257
theorem fl_Checker_17 : qz_fl "StackAssembler$Checker" 17 1 1 := ⟨_, rfl, by decide, Or.inl wt_294⟩
theorem fl_Checker_21 : qz_fl "StackAssembler$Checker" 21 1 2 := ⟨_, rfl, by decide, Or.inl wt_295⟩
theorem fl_Checker_31 : qz_fl "StackAssembler$Checker" 31 1 3 := ⟨_, rfl, by decide, Or.inl wt_296⟩
theorem fl_Checker_9 : qz_fl "StackAssembler$Checker" 9 1 0 := ⟨_, rfl, by decide, Or.inl wt_293⟩
theorem nw_Checker_15 : ∃ q : vw_C, kz_cl[3]? = some q ∧ Cond.classLink "StackAssembler$Checker" 15 q.1 ∈ kz_TT ∧ Cond.instantiable q.1 (kz_N 3) ∈ kz_TT ∧ Cond.initialized q.1 ∈ kz_TT := ⟨_, rfl, wt_255, wt_267, wt_12⟩
theorem oi_Checker_3 : Cond.methodLink "StackAssembler$Checker" 3 Lib.objectInit ∈ kz_TT ∧ Cond.instanceMethod Lib.objectInit ∈ kz_TT ∧ Cond.code Lib.objectInit ⟨#[0xb1]⟩ 1 none ∈ kz_TT := ⟨wt_254, wt_34, wt_35⟩
theorem fp_Checker_17_Checker_init : qz_fp yd_Checker_init 17 1 1 := ⟨_, rfl, by decide, Or.inr ⟨rfl, rfl, rfl, wt_294⟩⟩
theorem fp_Checker_21_Checker_init : qz_fp yd_Checker_init 21 1 2 := ⟨_, rfl, by decide, Or.inl ⟨rfl, Or.inl wt_295⟩⟩
theorem fp_Checker_31_Checker_init : qz_fp yd_Checker_init 31 1 3 := ⟨_, rfl, by decide, Or.inl ⟨rfl, Or.inl wt_296⟩⟩
theorem fp_Checker_9_Checker_init : qz_fp yd_Checker_init 9 1 0 := ⟨_, rfl, by decide, Or.inr ⟨rfl, rfl, rfl, wt_293⟩⟩
theorem wa_byte : Cond.arrayClass (newarray.typeOf .byte) ∈ kz_TT := wt_336
theorem fl_Encoder_11 : qz_fl "StackAssembler$Encoder" 11 2 0 := ⟨_, rfl, by decide, Or.inl wt_325⟩
theorem fl_Encoder_15 : qz_fl "StackAssembler$Encoder" 15 2 1 := ⟨_, rfl, by decide, Or.inl wt_326⟩
theorem oi_Encoder_3 : Cond.methodLink "StackAssembler$Encoder" 3 Lib.objectInit ∈ kz_TT ∧ Cond.instanceMethod Lib.objectInit ∈ kz_TT ∧ Cond.code Lib.objectInit ⟨#[0xb1]⟩ 1 none ∈ kz_TT := ⟨wt_324, wt_34, wt_35⟩
theorem fp_Encoder_11_Encoder_init : qz_fp yd_Encoder_init 11 2 0 := ⟨_, rfl, by decide, Or.inr ⟨rfl, rfl, rfl, wt_325⟩⟩
theorem fp_Encoder_15_Encoder_init : qz_fp yd_Encoder_init 15 2 1 := ⟨_, rfl, by decide, Or.inr ⟨rfl, rfl, rfl, wt_326⟩⟩
theorem fl_Printer_9 : qz_fl "StackAssembler$Printer" 9 8 0 := ⟨_, rfl, by decide, Or.inl wt_343⟩
theorem oi_Printer_3 : Cond.methodLink "StackAssembler$Printer" 3 Lib.objectInit ∈ kz_TT ∧ Cond.instanceMethod Lib.objectInit ∈ kz_TT ∧ Cond.code Lib.objectInit ⟨#[0xb1]⟩ 1 none ∈ kz_TT := ⟨wt_342, wt_34, wt_35⟩
theorem fp_Printer_9_Printer_init : qz_fp yd_Printer_init 9 8 0 := ⟨_, rfl, by decide, Or.inl ⟨rfl, Or.inl wt_343⟩⟩
theorem ln_SA_21 : qz_ln "StackAssembler" 21 yd_Module_init := Or.inl wt_55
theorem ln_SA_31 : qz_ln "StackAssembler" 31 yd_Reader_init := Or.inl wt_155
theorem ln_SA_40 : qz_ln "StackAssembler" 40 yd_Checker_init := Or.inl wt_251
theorem ln_SA_49 : qz_ln "StackAssembler" 49 yd_Encoder_init := Or.inr ⟨_, wn_321⟩
theorem ln_SA_56 : qz_ln "StackAssembler" 56 yd_Printer_init := Or.inl wt_339
theorem ln_SA_9 : qz_ln "StackAssembler" 9 yd_Text_init := Or.inr ⟨_, wn_38⟩
theorem fl_SA_10 : qz_fl "StackAssembler" 10 0 4 := ⟨_, rfl, by decide, Or.inl wt_351⟩
theorem fl_SA_16 : qz_fl "StackAssembler" 16 0 5 := ⟨_, rfl, by decide, Or.inl wt_352⟩
theorem fl_SA_22 : qz_fl "StackAssembler" 22 0 6 := ⟨_, rfl, by decide, Or.inl wt_353⟩
theorem fl_SA_26 : qz_fl "StackAssembler" 26 0 7 := ⟨_, rfl, by decide, Or.inl wt_354⟩
theorem fl_SA_34 : qz_fl "StackAssembler" 34 0 0 := ⟨_, rfl, by decide, Or.inl wt_347⟩
theorem fl_SA_43 : qz_fl "StackAssembler" 43 0 1 := ⟨_, rfl, by decide, Or.inl wt_348⟩
theorem fl_SA_50 : qz_fl "StackAssembler" 50 0 2 := ⟨_, rfl, by decide, Or.inl wt_349⟩
theorem fl_SA_59 : qz_fl "StackAssembler" 59 0 3 := ⟨_, rfl, by decide, Or.inl wt_350⟩
theorem nw_SA_19 : ∃ q : vw_C, kz_cl[6]? = some q ∧ Cond.classLink "StackAssembler" 19 q.1 ∈ kz_TT ∧ Cond.instantiable q.1 (kz_N 6) ∈ kz_TT ∧ Cond.initialized q.1 ∈ kz_TT := ⟨_, rfl, wt_53, wt_54, wt_3⟩
theorem nw_SA_29 : ∃ q : vw_C, kz_cl[9]? = some q ∧ Cond.classLink "StackAssembler" 29 q.1 ∈ kz_TT ∧ Cond.instantiable q.1 (kz_N 9) ∈ kz_TT ∧ Cond.initialized q.1 ∈ kz_TT := ⟨_, rfl, wt_153, wt_154, wt_7⟩
theorem nw_SA_38 : ∃ q : vw_C, kz_cl[1]? = some q ∧ Cond.classLink "StackAssembler" 38 q.1 ∈ kz_TT ∧ Cond.instantiable q.1 (kz_N 1) ∈ kz_TT ∧ Cond.initialized q.1 ∈ kz_TT := ⟨_, rfl, wt_249, wt_250, wt_10⟩
theorem nw_SA_47 : ∃ q : vw_C, kz_cl[2]? = some q ∧ Cond.classLink "StackAssembler" 47 q.1 ∈ kz_TT ∧ Cond.instantiable q.1 (kz_N 2) ∈ kz_TT ∧ Cond.initialized q.1 ∈ kz_TT := ⟨_, rfl, wt_319, wt_320, wt_13⟩
theorem nw_SA_54 : ∃ q : vw_C, kz_cl[8]? = some q ∧ Cond.classLink "StackAssembler" 54 q.1 ∈ kz_TT ∧ Cond.instantiable q.1 (kz_N 8) ∈ kz_TT ∧ Cond.initialized q.1 ∈ kz_TT := ⟨_, rfl, wt_337, wt_338, wt_14⟩
theorem nw_SA_7 : ∃ q : vw_C, kz_cl[11]? = some q ∧ Cond.classLink "StackAssembler" 7 q.1 ∈ kz_TT ∧ Cond.instantiable q.1 (kz_N 11) ∈ kz_TT ∧ Cond.initialized q.1 ∈ kz_TT := ⟨_, rfl, wt_36, wt_37, wt_2⟩
theorem oi_SA_1 : Cond.methodLink "StackAssembler" 1 Lib.objectInit ∈ kz_TT ∧ Cond.instanceMethod Lib.objectInit ∈ kz_TT ∧ Cond.code Lib.objectInit ⟨#[0xb1]⟩ 1 none ∈ kz_TT := ⟨wt_33, wt_34, wt_35⟩
theorem fp_SA_10_SA_init : qz_fp yd_SA_init 10 0 4 := ⟨_, rfl, by decide, Or.inl ⟨rfl, Or.inl wt_351⟩⟩
theorem fp_SA_16_SA_init : qz_fp yd_SA_init 16 0 5 := ⟨_, rfl, by decide, Or.inl ⟨rfl, Or.inl wt_352⟩⟩
theorem fp_SA_22_SA_init : qz_fp yd_SA_init 22 0 6 := ⟨_, rfl, by decide, Or.inl ⟨rfl, Or.inl wt_353⟩⟩
theorem fp_SA_26_SA_init : qz_fp yd_SA_init 26 0 7 := ⟨_, rfl, by decide, Or.inl ⟨rfl, Or.inl wt_354⟩⟩
theorem fp_SA_34_SA_init : qz_fp yd_SA_init 34 0 0 := ⟨_, rfl, by decide, Or.inr ⟨rfl, rfl, rfl, wt_347⟩⟩
theorem fp_SA_43_SA_init : qz_fp yd_SA_init 43 0 1 := ⟨_, rfl, by decide, Or.inr ⟨rfl, rfl, rfl, wt_348⟩⟩
theorem fp_SA_50_SA_init : qz_fp yd_SA_init 50 0 2 := ⟨_, rfl, by decide, Or.inr ⟨rfl, rfl, rfl, wt_349⟩⟩
theorem fp_SA_59_SA_init : qz_fp yd_SA_init 59 0 3 := ⟨_, rfl, by decide, Or.inr ⟨rfl, rfl, rfl, wt_350⟩⟩
theorem fl_Text_15 : qz_fl "StackAssembler$Text" 15 11 1 := ⟨_, rfl, by decide, Or.inl wt_43⟩
theorem fp_Text_15_Text_add : qz_fp yd_Text_add 15 11 1 := ⟨_, rfl, by decide, Or.inl ⟨rfl, Or.inl wt_43⟩⟩
theorem ln_Text_28 : qz_ln "StackAssembler$Text" 28 yd_Text_add := Or.inl wt_383
theorem ln_SA_63 : qz_ln "StackAssembler" 63 yd_Text_addBytes := Or.inl wt_379
theorem fl_SA_67 : qz_fl "StackAssembler" 67 11 1 := ⟨_, rfl, by decide, Or.inl wt_45⟩
theorem fp_SA_67_SA_wipe : qz_fp yd_SA_wipe 67 11 1 := ⟨_, rfl, by decide, Or.inl ⟨rfl, Or.inl wt_45⟩⟩
theorem ln_SA_71 : qz_ln "StackAssembler" 71 yd_Text_at := Or.inl wt_395
theorem fl_Encoder_19 : qz_fl "StackAssembler$Encoder" 19 2 2 := ⟨_, rfl, by decide, Or.inl wt_327⟩
theorem fp_Encoder_19_Encoder_add : qz_fp yd_Encoder_add 19 2 2 := ⟨_, rfl, by decide, Or.inl ⟨rfl, Or.inl wt_327⟩⟩
theorem fl_Function_15 : qz_fl "StackAssembler$Function" 15 4 1 := ⟨_, rfl, by decide, Or.inl wt_73⟩
theorem fl_Function_22 : qz_fl "StackAssembler$Function" 22 4 3 := ⟨_, rfl, by decide, Or.inl wt_82⟩
theorem ln_Encoder_62 : qz_ln "StackAssembler$Encoder" 62 yd_Function_isCalledLike := Or.inl wt_421
theorem fl_Encoder_30 : qz_fl "StackAssembler$Encoder" 30 6 3 := ⟨_, rfl, by decide, Or.inl wt_137⟩
theorem fl_Encoder_51 : qz_fl "StackAssembler$Encoder" 51 6 0 := ⟨_, rfl, by decide, Or.inl wt_120⟩
theorem ln_Encoder_26 : qz_ln "StackAssembler$Encoder" 26 yd_Encoder_add := Or.inl wt_409
theorem wc_Encoder_128 : Cond.constantLong "StackAssembler$Encoder" 128 (Int64.ofInt 127) ∈ kz_TT := by
  rw [show Int64.ofInt 127 = (127 : Int64) from by decide]
  exact wt_429
theorem ln_Encoder_47 : qz_ln "StackAssembler$Encoder" 47 yd_Encoder_addUnsigned := Or.inl wt_425
theorem ln_Encoder_74 : qz_ln "StackAssembler$Encoder" 74 yd_Encoder_addType := Or.inl wt_434
theorem fl_Encoder_68 : qz_fl "StackAssembler$Encoder" 68 4 1 := ⟨_, rfl, by decide, Or.inl wt_75⟩
theorem fl_Encoder_71 : qz_fl "StackAssembler$Encoder" 71 4 0 := ⟨_, rfl, by decide, Or.inl wt_70⟩
theorem fl_Encoder_77 : qz_fl "StackAssembler$Encoder" 77 4 3 := ⟨_, rfl, by decide, Or.inl wt_85⟩
theorem fp_Encoder_19_Encoder_putSizeAhead : qz_fp yd_Encoder_putSizeAhead 19 2 2 := ⟨_, rfl, by decide, Or.inl ⟨rfl, Or.inl wt_327⟩⟩
theorem ln_Encoder_43 : qz_ln "StackAssembler$Encoder" 43 yd_Encoder_numberSignatures := Or.inl wt_417
theorem ln_Encoder_55 : qz_ln "StackAssembler$Encoder" 55 yd_Encoder_addSignature := Or.inl wt_430
theorem ln_Encoder_59 : qz_ln "StackAssembler$Encoder" 59 yd_Encoder_putSizeAhead := Or.inl wt_438
theorem fl_Function_19 : qz_fl "StackAssembler$Function" 19 4 2 := ⟨_, rfl, by decide, Or.inl wt_78⟩
theorem wc_Function_31 : Cond.constantLong "StackAssembler$Function" 31 (Int64.ofInt 8) ∈ kz_TT := by
  rw [show Int64.ofInt 8 = (8 : Int64) from by decide]
  exact wt_462
theorem ln_Encoder_114 : qz_ln "StackAssembler$Encoder" 114 yd_Function_hasSlot := Or.inl wt_458
theorem ln_Encoder_118 : qz_ln "StackAssembler$Encoder" 118 yd_Encoder_endsRun := Or.inl wt_463
theorem wc_Encoder_130 : Cond.constantLong "StackAssembler$Encoder" 130 (Int64.ofInt (-1)) ∈ kz_TT := by
  rw [show Int64.ofInt (-1) = ((-1) : Int64) from by decide]
  exact wt_474
theorem ln_Encoder_125 : qz_ln "StackAssembler$Encoder" 125 yd_Encoder_addSigned := Or.inl wt_470
theorem fl_Encoder_122 : qz_fl "StackAssembler$Encoder" 122 7 2 := ⟨_, rfl, by decide, Or.inl wt_1702⟩
theorem ln_Encoder_106 : qz_ln "StackAssembler$Encoder" 106 yd_Encoder_addOperand := Or.inl wt_466
theorem ln_Encoder_84 : qz_ln "StackAssembler$Encoder" 84 yd_Encoder_addRuns := Or.inl wt_454
theorem fl_Encoder_102 : qz_fl "StackAssembler$Encoder" 102 6 2 := ⟨_, rfl, by decide, Or.inl wt_131⟩
theorem fl_Encoder_87 : qz_fl "StackAssembler$Encoder" 87 4 5 := ⟨_, rfl, by decide, Or.inl wt_98⟩
theorem fl_Encoder_90 : qz_fl "StackAssembler$Encoder" 90 4 4 := ⟨_, rfl, by decide, Or.inl wt_92⟩
theorem fl_Encoder_93 : qz_fl "StackAssembler$Encoder" 93 6 1 := ⟨_, rfl, by decide, Or.inl wt_125⟩
theorem fl_Encoder_97 : qz_fl "StackAssembler$Encoder" 97 7 1 := ⟨_, rfl, by decide, Or.inl wt_1701⟩
theorem sz_Op_END : ("StackAssembler$Op", "END", "LStackAssembler$Op;", 17, ((-7) : Int)) ∈ kz_st := List.mem_of_getElem? (i := 6) rfl
theorem sl_Encoder_110 : Cond.fieldLink "StackAssembler$Encoder" 110 "StackAssembler$Op" "END" "LStackAssembler$Op;" ∈ kz_TT ∨ ∃ host, Cond.fieldLinkNest "StackAssembler$Encoder" 110 "StackAssembler$Op" "END" "LStackAssembler$Op;" host ∈ kz_NT := Or.inl wt_475
theorem ln_Encoder_80 : qz_ln "StackAssembler$Encoder" 80 yd_Encoder_addBody := Or.inl wt_450
theorem ln_Encoder_33 : qz_ln "StackAssembler$Encoder" 33 yd_Encoder_addSignatures := Or.inl wt_413
theorem ln_Encoder_37 : qz_ln "StackAssembler$Encoder" 37 yd_Encoder_addSignatureNumbers := Or.inl wt_442
theorem ln_Encoder_40 : qz_ln "StackAssembler$Encoder" 40 yd_Encoder_addBodies := Or.inl wt_446
theorem fp_Encoder_19_Encoder_write : qz_fp yd_Encoder_write 19 2 2 := ⟨_, rfl, by decide, Or.inl ⟨rfl, Or.inl wt_327⟩⟩
theorem sz_Encoder_HEADER : ("StackAssembler$Encoder", "HEADER", "[I", 50, ((-32) : Int)) ∈ kz_st := List.mem_of_getElem? (i := 31) rfl
theorem sl_Encoder_23 : Cond.fieldLink "StackAssembler$Encoder" 23 "StackAssembler$Encoder" "HEADER" "[I" ∈ kz_TT ∨ ∃ host, Cond.fieldLinkNest "StackAssembler$Encoder" 23 "StackAssembler$Encoder" "HEADER" "[I" host ∈ kz_NT := Or.inl wt_407
theorem ln_SA_110 : qz_ln "StackAssembler" 110 yd_Encoder_write := Or.inl wt_403
theorem fl_SA_113 : qz_fl "StackAssembler" 113 2 2 := ⟨_, rfl, by decide, Or.inl wt_328⟩
theorem ln_SA_114 : qz_ln "StackAssembler" 114 yd_Encoder_at := Or.inl wt_481
theorem fl_SA_82 : qz_fl "StackAssembler" 82 0 8 := ⟨_, rfl, by decide, Or.inl wt_355⟩
theorem fl_SA_107 : qz_fl "StackAssembler" 107 6 3 := ⟨_, rfl, by decide, Or.inl wt_138⟩
theorem wc_Module_39 : Cond.constantLong "StackAssembler$Module" 39 (Int64.ofInt 4) ∈ kz_TT := by
  rw [show Int64.ofInt 4 = (4 : Int64) from by decide]
  exact wt_501
theorem ln_SA_122 : qz_ln "StackAssembler" 122 yd_Module_hasFunction := Or.inl wt_497
theorem ln_SA_143 : qz_ln "StackAssembler" 143 yd_Function_hasSlot := Or.inl wt_502
theorem fl_SA_125 : qz_fl "StackAssembler" 125 6 0 := ⟨_, rfl, by decide, Or.inl wt_121⟩
theorem fl_SA_129 : qz_fl "StackAssembler" 129 4 1 := ⟨_, rfl, by decide, Or.inl wt_76⟩
theorem fl_SA_134 : qz_fl "StackAssembler" 134 4 2 := ⟨_, rfl, by decide, Or.inl wt_80⟩
theorem fl_SA_137 : qz_fl "StackAssembler" 137 4 3 := ⟨_, rfl, by decide, Or.inl wt_86⟩
theorem fl_SA_140 : qz_fl "StackAssembler" 140 4 5 := ⟨_, rfl, by decide, Or.inl wt_99⟩
theorem fl_SA_146 : qz_fl "StackAssembler" 146 4 0 := ⟨_, rfl, by decide, Or.inl wt_71⟩
theorem ln_Module_41 : qz_ln "StackAssembler$Module" 41 yd_Module_hasFunction := Or.inl wt_511
theorem fl_Module_45 : qz_fl "StackAssembler$Module" 45 4 5 := ⟨_, rfl, by decide, Or.inl wt_97⟩
theorem fl_Module_48 : qz_fl "StackAssembler$Module" 48 4 4 := ⟨_, rfl, by decide, Or.inl wt_91⟩
theorem ln_SA_150 : qz_ln "StackAssembler" 150 yd_Module_hasInstruction := Or.inl wt_507
theorem fl_SA_154 : qz_fl "StackAssembler" 154 6 1 := ⟨_, rfl, by decide, Or.inl wt_126⟩
theorem fl_SA_158 : qz_fl "StackAssembler" 158 4 4 := ⟨_, rfl, by decide, Or.inl wt_93⟩
theorem fl_SA_161 : qz_fl "StackAssembler" 161 7 1 := ⟨_, rfl, by decide, Or.inl wt_1704⟩
theorem fl_SA_166 : qz_fl "StackAssembler" 166 6 2 := ⟨_, rfl, by decide, Or.inl wt_132⟩
theorem wa_boolean : Cond.arrayClass (newarray.typeOf .boolean) ∈ kz_TT := wt_1310
theorem fl_Md_100 : qz_fl "StackAssemblerModel" 100 12 10 := ⟨_, rfl, by decide, Or.inl wt_1127⟩
theorem fl_Md_103 : qz_fl "StackAssemblerModel" 103 12 11 := ⟨_, rfl, by decide, Or.inl wt_1128⟩
theorem fl_Md_106 : qz_fl "StackAssemblerModel" 106 12 12 := ⟨_, rfl, by decide, Or.inl wt_1129⟩
theorem fl_Md_109 : qz_fl "StackAssemblerModel" 109 12 13 := ⟨_, rfl, by decide, Or.inl wt_1130⟩
theorem fl_Md_112 : qz_fl "StackAssemblerModel" 112 12 14 := ⟨_, rfl, by decide, Or.inl wt_1131⟩
theorem fl_Md_115 : qz_fl "StackAssemblerModel" 115 12 16 := ⟨_, rfl, by decide, Or.inl wt_1133⟩
theorem fl_Md_118 : qz_fl "StackAssemblerModel" 118 12 17 := ⟨_, rfl, by decide, Or.inl wt_1134⟩
theorem fl_Md_121 : qz_fl "StackAssemblerModel" 121 12 18 := ⟨_, rfl, by decide, Or.inl wt_1135⟩
theorem fl_Md_124 : qz_fl "StackAssemblerModel" 124 12 19 := ⟨_, rfl, by decide, Or.inl wt_1136⟩
theorem fl_Md_127 : qz_fl "StackAssemblerModel" 127 12 20 := ⟨_, rfl, by decide, Or.inl wt_1137⟩
theorem fl_Md_130 : qz_fl "StackAssemblerModel" 130 12 21 := ⟨_, rfl, by decide, Or.inl wt_1138⟩
theorem fl_Md_133 : qz_fl "StackAssemblerModel" 133 12 22 := ⟨_, rfl, by decide, Or.inl wt_1139⟩
theorem fl_Md_136 : qz_fl "StackAssemblerModel" 136 12 24 := ⟨_, rfl, by decide, Or.inl wt_1141⟩
theorem fl_Md_139 : qz_fl "StackAssemblerModel" 139 12 25 := ⟨_, rfl, by decide, Or.inl wt_1142⟩
theorem fl_Md_142 : qz_fl "StackAssemblerModel" 142 12 26 := ⟨_, rfl, by decide, Or.inl wt_1143⟩
theorem fl_Md_145 : qz_fl "StackAssemblerModel" 145 12 27 := ⟨_, rfl, by decide, Or.inl wt_1144⟩
theorem fl_Md_148 : qz_fl "StackAssemblerModel" 148 12 29 := ⟨_, rfl, by decide, Or.inl wt_1146⟩
theorem fl_Md_151 : qz_fl "StackAssemblerModel" 151 12 30 := ⟨_, rfl, by decide, Or.inl wt_1147⟩
theorem fl_Md_154 : qz_fl "StackAssemblerModel" 154 12 31 := ⟨_, rfl, by decide, Or.inl wt_1148⟩
theorem fl_Md_157 : qz_fl "StackAssemblerModel" 157 12 40 := ⟨_, rfl, by decide, Or.inl wt_1157⟩
theorem fl_Md_160 : qz_fl "StackAssemblerModel" 160 12 41 := ⟨_, rfl, by decide, Or.inl wt_1158⟩
theorem fl_Md_164 : qz_fl "StackAssemblerModel" 164 12 42 := ⟨_, rfl, by decide, Or.inl wt_1159⟩
theorem fl_Md_167 : qz_fl "StackAssemblerModel" 167 12 43 := ⟨_, rfl, by decide, Or.inl wt_1160⟩
theorem fl_Md_170 : qz_fl "StackAssemblerModel" 170 12 44 := ⟨_, rfl, by decide, Or.inl wt_1161⟩
theorem fl_Md_173 : qz_fl "StackAssemblerModel" 173 12 45 := ⟨_, rfl, by decide, Or.inl wt_1162⟩
theorem fl_Md_176 : qz_fl "StackAssemblerModel" 176 12 46 := ⟨_, rfl, by decide, Or.inl wt_1163⟩
theorem fl_Md_179 : qz_fl "StackAssemblerModel" 179 12 50 := ⟨_, rfl, by decide, Or.inl wt_1167⟩
theorem fl_Md_182 : qz_fl "StackAssemblerModel" 182 12 52 := ⟨_, rfl, by decide, Or.inl wt_1169⟩
theorem fl_Md_185 : qz_fl "StackAssemblerModel" 185 12 53 := ⟨_, rfl, by decide, Or.inl wt_1170⟩
theorem fl_Md_188 : qz_fl "StackAssemblerModel" 188 12 54 := ⟨_, rfl, by decide, Or.inl wt_1171⟩
theorem fl_Md_191 : qz_fl "StackAssemblerModel" 191 12 55 := ⟨_, rfl, by decide, Or.inl wt_1172⟩
theorem fl_Md_194 : qz_fl "StackAssemblerModel" 194 12 56 := ⟨_, rfl, by decide, Or.inl wt_1173⟩
theorem fl_Md_197 : qz_fl "StackAssemblerModel" 197 12 59 := ⟨_, rfl, by decide, Or.inl wt_1176⟩
theorem fl_Md_200 : qz_fl "StackAssemblerModel" 200 12 61 := ⟨_, rfl, by decide, Or.inl wt_1178⟩
theorem fl_Md_203 : qz_fl "StackAssemblerModel" 203 12 63 := ⟨_, rfl, by decide, Or.inl wt_1180⟩
theorem fl_Md_67 : qz_fl "StackAssemblerModel" 67 12 0 := ⟨_, rfl, by decide, Or.inl wt_1117⟩
theorem fl_Md_83 : qz_fl "StackAssemblerModel" 83 12 1 := ⟨_, rfl, by decide, Or.inl wt_1118⟩
theorem fl_Md_86 : qz_fl "StackAssemblerModel" 86 12 2 := ⟨_, rfl, by decide, Or.inl wt_1119⟩
theorem fl_Md_90 : qz_fl "StackAssemblerModel" 90 12 6 := ⟨_, rfl, by decide, Or.inl wt_1123⟩
theorem fl_Md_94 : qz_fl "StackAssemblerModel" 94 12 8 := ⟨_, rfl, by decide, Or.inl wt_1125⟩
theorem fl_Md_97 : qz_fl "StackAssemblerModel" 97 12 9 := ⟨_, rfl, by decide, Or.inl wt_1126⟩
theorem wc_Md_11 : Cond.constantLong "StackAssemblerModel" 11 (Int64.ofInt 422726034283) ∈ kz_TT := by
  rw [show Int64.ofInt 422726034283 = (422726034283 : Int64) from by decide]
  exact wt_1084
theorem wc_Md_13 : Cond.constantLong "StackAssemblerModel" 13 (Int64.ofInt 1819242352) ∈ kz_TT := by
  rw [show Int64.ofInt 1819242352 = (1819242352 : Int64) from by decide]
  exact wt_1085
theorem wc_Md_15 : Cond.constantLong "StackAssemblerModel" 15 (Int64.ofInt 26982) ∈ kz_TT := by
  rw [show Int64.ofInt 26982 = (26982 : Int64) from by decide]
  exact wt_1086
theorem wc_Md_17 : Cond.constantLong "StackAssemblerModel" 17 (Int64.ofInt 1701606245) ∈ kz_TT := by
  rw [show Int64.ofInt 1701606245 = (1701606245 : Int64) from by decide]
  exact wt_1087
theorem wc_Md_19 : Cond.constantLong "StackAssemblerModel" 19 (Int64.ofInt 6647396) ∈ kz_TT := by
  rw [show Int64.ofInt 6647396 = (6647396 : Int64) from by decide]
  exact wt_1088
theorem wc_Md_21 : Cond.constantLong "StackAssemblerModel" 21 (Int64.ofInt 25202) ∈ kz_TT := by
  rw [show Int64.ofInt 25202 = (25202 : Int64) from by decide]
  exact wt_1089
theorem wc_Md_23 : Cond.constantLong "StackAssemblerModel" 23 (Int64.ofInt 422825650534) ∈ kz_TT := by
  rw [show Int64.ofInt 422825650534 = (422825650534 : Int64) from by decide]
  exact wt_1090
theorem wc_Md_25 : Cond.constantLong "StackAssemblerModel" 25 (Int64.ofInt 125780071117422) ∈ kz_TT := by
  rw [show Int64.ofInt 125780071117422 = (125780071117422 : Int64) from by decide]
  exact wt_1091
theorem wc_Md_27 : Cond.constantLong "StackAssemblerModel" 27 (Int64.ofInt 1667329132) ∈ kz_TT := by
  rw [show Int64.ofInt 1667329132 = (1667329132 : Int64) from by decide]
  exact wt_1092
theorem wc_Md_29 : Cond.constantLong "StackAssemblerModel" 29 (Int64.ofInt 1685221232) ∈ kz_TT := by
  rw [show Int64.ofInt 1685221232 = (1685221232 : Int64) from by decide]
  exact wt_1093
theorem wc_Md_31 : Cond.constantLong "StackAssemblerModel" 31 (Int64.ofInt 126879447475060) ∈ kz_TT := by
  rw [show Int64.ofInt 126879447475060 = (126879447475060 : Int64) from by decide]
  exact wt_1094
theorem wc_Md_33 : Cond.constantLong "StackAssemblerModel" 33 (Int64.ofInt 7813573148589057893) ∈ kz_TT := by
  rw [show Int64.ofInt 7813573148589057893 = (7813573148589057893 : Int64) from by decide]
  exact wt_1095
theorem wc_Md_35 : Cond.constantLong "StackAssemblerModel" 35 (Int64.ofInt 7813573148589060965) ∈ kz_TT := by
  rw [show Int64.ofInt 7813573148589060965 = (7813573148589060965 : Int64) from by decide]
  exact wt_1096
theorem wc_Md_37 : Cond.constantLong "StackAssemblerModel" 37 (Int64.ofInt 7813573148589061221) ∈ kz_TT := by
  rw [show Int64.ofInt 7813573148589061221 = (7813573148589061221 : Int64) from by decide]
  exact wt_1097
theorem wc_Md_39 : Cond.constantLong "StackAssemblerModel" 39 (Int64.ofInt 7580457772612808307) ∈ kz_TT := by
  rw [show Int64.ofInt 7580457772612808307 = (7580457772612808307 : Int64) from by decide]
  exact wt_1098
theorem wc_Md_41 : Cond.constantLong "StackAssemblerModel" 41 (Int64.ofInt 7581304396566195827) ∈ kz_TT := by
  rw [show Int64.ofInt 7581304396566195827 = (7581304396566195827 : Int64) from by decide]
  exact wt_1099
theorem wc_Md_43 : Cond.constantLong "StackAssemblerModel" 43 (Int64.ofInt 29611163174400378) ∈ kz_TT := by
  rw [show Int64.ofInt 29611163174400378 = (29611163174400378 : Int64) from by decide]
  exact wt_1100
theorem wc_Md_45 : Cond.constantLong "StackAssemblerModel" 45 (Int64.ofInt 115668606150001) ∈ kz_TT := by
  rw [show Int64.ofInt 115668606150001 = (115668606150001 : Int64) from by decide]
  exact wt_1101
theorem wc_Md_47 : Cond.constantLong "StackAssemblerModel" 47 (Int64.ofInt 7580457772764127091) ∈ kz_TT := by
  rw [show Int64.ofInt 7580457772764127091 = (7580457772764127091 : Int64) from by decide]
  exact wt_1102
theorem wc_Md_49 : Cond.constantLong "StackAssemblerModel" 49 (Int64.ofInt 29611163174134884) ∈ kz_TT := by
  rw [show Int64.ofInt 29611163174134884 = (29611163174134884 : Int64) from by decide]
  exact wt_1103
theorem wc_Md_51 : Cond.constantLong "StackAssemblerModel" 51 (Int64.ofInt 29611163175318882) ∈ kz_TT := by
  rw [show Int64.ofInt 29611163175318882 = (29611163175318882 : Int64) from by decide]
  exact wt_1104
theorem wc_Md_53 : Cond.constantLong "StackAssemblerModel" 53 (Int64.ofInt 29611163174925676) ∈ kz_TT := by
  rw [show Int64.ofInt 29611163174925676 = (29611163174925676 : Int64) from by decide]
  exact wt_1105
theorem wc_Md_55 : Cond.constantLong "StackAssemblerModel" 55 (Int64.ofInt 29614470299218298) ∈ kz_TT := by
  rw [show Int64.ofInt 29614470299218298 = (29614470299218298 : Int64) from by decide]
  exact wt_1106
theorem wc_Md_57 : Cond.constantLong "StackAssemblerModel" 57 (Int64.ofInt 115681524606321) ∈ kz_TT := by
  rw [show Int64.ofInt 115681524606321 = (115681524606321 : Int64) from by decide]
  exact wt_1107
theorem wc_Md_59 : Cond.constantLong "StackAssemblerModel" 59 (Int64.ofInt 29614470298952804) ∈ kz_TT := by
  rw [show Int64.ofInt 29614470298952804 = (29614470298952804 : Int64) from by decide]
  exact wt_1108
theorem wc_Md_61 : Cond.constantLong "StackAssemblerModel" 61 (Int64.ofInt 29614470299743596) ∈ kz_TT := by
  rw [show Int64.ofInt 29614470299743596 = (29614470299743596 : Int64) from by decide]
  exact wt_1109
theorem wc_Md_63 : Cond.constantLong "StackAssemblerModel" 63 (Int64.ofInt 7580457772948545904) ∈ kz_TT := by
  rw [show Int64.ofInt 7580457772948545904 = (7580457772948545904 : Int64) from by decide]
  exact wt_1110
theorem wc_Md_65 : Cond.constantLong "StackAssemblerModel" 65 (Int64.ofInt 7581304396600341605) ∈ kz_TT := by
  rw [show Int64.ofInt 7581304396600341605 = (7581304396600341605 : Int64) from by decide]
  exact wt_1111
theorem wc_Md_7 : Cond.constantLong "StackAssemblerModel" 7 (Int64.ofInt 8461826529626908769) ∈ kz_TT := by
  rw [show Int64.ofInt 8461826529626908769 = (8461826529626908769 : Int64) from by decide]
  exact wt_1082
theorem wc_Md_73 : Cond.constantLong "StackAssemblerModel" 73 (Int64.ofInt 6450277) ∈ kz_TT := by
  rw [show Int64.ofInt 6450277 = (6450277 : Int64) from by decide]
  exact wt_1112
theorem wc_Md_75 : Cond.constantLong "StackAssemblerModel" 75 (Int64.ofInt 116) ∈ kz_TT := by
  rw [show Int64.ofInt 116 = (116 : Int64) from by decide]
  exact wt_1113
theorem wc_Md_77 : Cond.constantLong "StackAssemblerModel" 77 (Int64.ofInt 101) ∈ kz_TT := by
  rw [show Int64.ofInt 101 = (101 : Int64) from by decide]
  exact wt_1114
theorem wc_Md_79 : Cond.constantLong "StackAssemblerModel" 79 (Int64.ofInt 1600730676) ∈ kz_TT := by
  rw [show Int64.ofInt 1600730676 = (1600730676 : Int64) from by decide]
  exact wt_1115
theorem wc_Md_81 : Cond.constantLong "StackAssemblerModel" 81 (Int64.ofInt 7954587747278282611) ∈ kz_TT := by
  rw [show Int64.ofInt 7954587747278282611 = (7954587747278282611 : Int64) from by decide]
  exact wt_1116
theorem wc_Md_9 : Cond.constantLong "StackAssemblerModel" 9 (Int64.ofInt 7237488) ∈ kz_TT := by
  rw [show Int64.ofInt 7237488 = (7237488 : Int64) from by decide]
  exact wt_1083
theorem oi_Md_1 : Cond.methodLink "StackAssemblerModel" 1 Lib.objectInit ∈ kz_TT ∧ Cond.instanceMethod Lib.objectInit ∈ kz_TT ∧ Cond.code Lib.objectInit ⟨#[0xb1]⟩ 1 none ∈ kz_TT := ⟨wt_1081, wt_34, wt_35⟩
theorem fp_Md_100_Md_init : qz_fp yd_Md_init 100 12 10 := ⟨_, rfl, by decide, Or.inr ⟨rfl, rfl, rfl, wt_1127⟩⟩
theorem fp_Md_103_Md_init : qz_fp yd_Md_init 103 12 11 := ⟨_, rfl, by decide, Or.inr ⟨rfl, rfl, rfl, wt_1128⟩⟩
theorem fp_Md_106_Md_init : qz_fp yd_Md_init 106 12 12 := ⟨_, rfl, by decide, Or.inr ⟨rfl, rfl, rfl, wt_1129⟩⟩
theorem fp_Md_109_Md_init : qz_fp yd_Md_init 109 12 13 := ⟨_, rfl, by decide, Or.inr ⟨rfl, rfl, rfl, wt_1130⟩⟩
theorem fp_Md_112_Md_init : qz_fp yd_Md_init 112 12 14 := ⟨_, rfl, by decide, Or.inr ⟨rfl, rfl, rfl, wt_1131⟩⟩
theorem fp_Md_115_Md_init : qz_fp yd_Md_init 115 12 16 := ⟨_, rfl, by decide, Or.inr ⟨rfl, rfl, rfl, wt_1133⟩⟩
theorem fp_Md_118_Md_init : qz_fp yd_Md_init 118 12 17 := ⟨_, rfl, by decide, Or.inr ⟨rfl, rfl, rfl, wt_1134⟩⟩
theorem fp_Md_121_Md_init : qz_fp yd_Md_init 121 12 18 := ⟨_, rfl, by decide, Or.inr ⟨rfl, rfl, rfl, wt_1135⟩⟩
theorem fp_Md_124_Md_init : qz_fp yd_Md_init 124 12 19 := ⟨_, rfl, by decide, Or.inr ⟨rfl, rfl, rfl, wt_1136⟩⟩
theorem fp_Md_127_Md_init : qz_fp yd_Md_init 127 12 20 := ⟨_, rfl, by decide, Or.inr ⟨rfl, rfl, rfl, wt_1137⟩⟩
theorem fp_Md_130_Md_init : qz_fp yd_Md_init 130 12 21 := ⟨_, rfl, by decide, Or.inr ⟨rfl, rfl, rfl, wt_1138⟩⟩
theorem fp_Md_133_Md_init : qz_fp yd_Md_init 133 12 22 := ⟨_, rfl, by decide, Or.inr ⟨rfl, rfl, rfl, wt_1139⟩⟩
theorem fp_Md_136_Md_init : qz_fp yd_Md_init 136 12 24 := ⟨_, rfl, by decide, Or.inr ⟨rfl, rfl, rfl, wt_1141⟩⟩
theorem fp_Md_139_Md_init : qz_fp yd_Md_init 139 12 25 := ⟨_, rfl, by decide, Or.inr ⟨rfl, rfl, rfl, wt_1142⟩⟩
theorem fp_Md_142_Md_init : qz_fp yd_Md_init 142 12 26 := ⟨_, rfl, by decide, Or.inr ⟨rfl, rfl, rfl, wt_1143⟩⟩
theorem fp_Md_145_Md_init : qz_fp yd_Md_init 145 12 27 := ⟨_, rfl, by decide, Or.inr ⟨rfl, rfl, rfl, wt_1144⟩⟩
theorem fp_Md_148_Md_init : qz_fp yd_Md_init 148 12 29 := ⟨_, rfl, by decide, Or.inr ⟨rfl, rfl, rfl, wt_1146⟩⟩
theorem fp_Md_151_Md_init : qz_fp yd_Md_init 151 12 30 := ⟨_, rfl, by decide, Or.inr ⟨rfl, rfl, rfl, wt_1147⟩⟩
theorem fp_Md_154_Md_init : qz_fp yd_Md_init 154 12 31 := ⟨_, rfl, by decide, Or.inr ⟨rfl, rfl, rfl, wt_1148⟩⟩
theorem fp_Md_157_Md_init : qz_fp yd_Md_init 157 12 40 := ⟨_, rfl, by decide, Or.inr ⟨rfl, rfl, rfl, wt_1157⟩⟩
theorem fp_Md_160_Md_init : qz_fp yd_Md_init 160 12 41 := ⟨_, rfl, by decide, Or.inr ⟨rfl, rfl, rfl, wt_1158⟩⟩
theorem fp_Md_164_Md_init : qz_fp yd_Md_init 164 12 42 := ⟨_, rfl, by decide, Or.inr ⟨rfl, rfl, rfl, wt_1159⟩⟩
theorem fp_Md_167_Md_init : qz_fp yd_Md_init 167 12 43 := ⟨_, rfl, by decide, Or.inr ⟨rfl, rfl, rfl, wt_1160⟩⟩
theorem fp_Md_170_Md_init : qz_fp yd_Md_init 170 12 44 := ⟨_, rfl, by decide, Or.inr ⟨rfl, rfl, rfl, wt_1161⟩⟩
theorem fp_Md_173_Md_init : qz_fp yd_Md_init 173 12 45 := ⟨_, rfl, by decide, Or.inr ⟨rfl, rfl, rfl, wt_1162⟩⟩
theorem fp_Md_176_Md_init : qz_fp yd_Md_init 176 12 46 := ⟨_, rfl, by decide, Or.inr ⟨rfl, rfl, rfl, wt_1163⟩⟩
theorem fp_Md_179_Md_init : qz_fp yd_Md_init 179 12 50 := ⟨_, rfl, by decide, Or.inr ⟨rfl, rfl, rfl, wt_1167⟩⟩
theorem fp_Md_182_Md_init : qz_fp yd_Md_init 182 12 52 := ⟨_, rfl, by decide, Or.inr ⟨rfl, rfl, rfl, wt_1169⟩⟩
theorem fp_Md_185_Md_init : qz_fp yd_Md_init 185 12 53 := ⟨_, rfl, by decide, Or.inr ⟨rfl, rfl, rfl, wt_1170⟩⟩
theorem fp_Md_188_Md_init : qz_fp yd_Md_init 188 12 54 := ⟨_, rfl, by decide, Or.inr ⟨rfl, rfl, rfl, wt_1171⟩⟩
theorem fp_Md_191_Md_init : qz_fp yd_Md_init 191 12 55 := ⟨_, rfl, by decide, Or.inr ⟨rfl, rfl, rfl, wt_1172⟩⟩
theorem fp_Md_194_Md_init : qz_fp yd_Md_init 194 12 56 := ⟨_, rfl, by decide, Or.inr ⟨rfl, rfl, rfl, wt_1173⟩⟩
theorem fp_Md_197_Md_init : qz_fp yd_Md_init 197 12 59 := ⟨_, rfl, by decide, Or.inr ⟨rfl, rfl, rfl, wt_1176⟩⟩
theorem fp_Md_200_Md_init : qz_fp yd_Md_init 200 12 61 := ⟨_, rfl, by decide, Or.inr ⟨rfl, rfl, rfl, wt_1178⟩⟩
theorem fp_Md_203_Md_init : qz_fp yd_Md_init 203 12 63 := ⟨_, rfl, by decide, Or.inr ⟨rfl, rfl, rfl, wt_1180⟩⟩
theorem fp_Md_67_Md_init : qz_fp yd_Md_init 67 12 0 := ⟨_, rfl, by decide, Or.inr ⟨rfl, rfl, rfl, wt_1117⟩⟩
theorem fp_Md_83_Md_init : qz_fp yd_Md_init 83 12 1 := ⟨_, rfl, by decide, Or.inr ⟨rfl, rfl, rfl, wt_1118⟩⟩
theorem fp_Md_86_Md_init : qz_fp yd_Md_init 86 12 2 := ⟨_, rfl, by decide, Or.inr ⟨rfl, rfl, rfl, wt_1119⟩⟩
theorem fp_Md_90_Md_init : qz_fp yd_Md_init 90 12 6 := ⟨_, rfl, by decide, Or.inr ⟨rfl, rfl, rfl, wt_1123⟩⟩
theorem fp_Md_94_Md_init : qz_fp yd_Md_init 94 12 8 := ⟨_, rfl, by decide, Or.inr ⟨rfl, rfl, rfl, wt_1125⟩⟩
theorem fp_Md_97_Md_init : qz_fp yd_Md_init 97 12 9 := ⟨_, rfl, by decide, Or.inr ⟨rfl, rfl, rfl, wt_1126⟩⟩
theorem fl_Md_206 : qz_fl "StackAssemblerModel" 206 12 3 := ⟨_, rfl, by decide, Or.inl wt_1120⟩
theorem fp_Md_206_Md_raise : qz_fp yd_Md_raise 206 12 3 := ⟨_, rfl, by decide, Or.inl ⟨rfl, Or.inl wt_1120⟩⟩
theorem fl_Md_210 : qz_fl "StackAssemblerModel" 210 12 5 := ⟨_, rfl, by decide, Or.inl wt_1122⟩
theorem fp_Md_206_Md_type : qz_fp yd_Md_type 206 12 3 := ⟨_, rfl, by decide, Or.inl ⟨rfl, Or.inl wt_1120⟩⟩
theorem fp_Md_210_Md_type : qz_fp yd_Md_type 210 12 5 := ⟨_, rfl, by decide, Or.inl ⟨rfl, Or.inl wt_1122⟩⟩
theorem fp_Md_206_Md_wipe : qz_fp yd_Md_wipe 206 12 3 := ⟨_, rfl, by decide, Or.inl ⟨rfl, Or.inl wt_1120⟩⟩
theorem fp_Md_210_Md_wipe : qz_fp yd_Md_wipe 210 12 5 := ⟨_, rfl, by decide, Or.inl ⟨rfl, Or.inl wt_1122⟩⟩
theorem fp_Md_206_Md_character : qz_fp yd_Md_character 206 12 3 := ⟨_, rfl, by decide, Or.inl ⟨rfl, Or.inl wt_1120⟩⟩
theorem ln_Md_213 : qz_ln "StackAssemblerModel" 213 yd_Md_isDigit := Or.inl wt_1350
theorem ln_Md_220 : qz_ln "StackAssemblerModel" 220 yd_Md_ch := Or.inl wt_1339
theorem fl_Md_217 : qz_fl "StackAssemblerModel" 217 12 32 := ⟨_, rfl, by decide, Or.inl wt_1149⟩
theorem fp_Md_217_Md_comment : qz_fp yd_Md_comment 217 12 32 := ⟨_, rfl, by decide, Or.inl ⟨rfl, Or.inl wt_1149⟩⟩
theorem ln_Md_234 : qz_ln "StackAssemblerModel" 234 yd_Md_isSign := Or.inl wt_1347
theorem fl_Md_224 : qz_fl "StackAssemblerModel" 224 12 34 := ⟨_, rfl, by decide, Or.inl wt_1151⟩
theorem fl_Md_231 : qz_fl "StackAssemblerModel" 231 12 33 := ⟨_, rfl, by decide, Or.inl wt_1150⟩
theorem fl_Md_240 : qz_fl "StackAssemblerModel" 240 12 36 := ⟨_, rfl, by decide, Or.inl wt_1153⟩
theorem fl_Md_244 : qz_fl "StackAssemblerModel" 244 12 37 := ⟨_, rfl, by decide, Or.inl wt_1154⟩
theorem fl_Md_247 : qz_fl "StackAssemblerModel" 247 12 35 := ⟨_, rfl, by decide, Or.inl wt_1152⟩
theorem fp_Md_217_Md_readWord : qz_fp yd_Md_readWord 217 12 32 := ⟨_, rfl, by decide, Or.inl ⟨rfl, Or.inl wt_1149⟩⟩
theorem fp_Md_231_Md_readWord : qz_fp yd_Md_readWord 231 12 33 := ⟨_, rfl, by decide, Or.inl ⟨rfl, Or.inl wt_1150⟩⟩
theorem fp_Md_240_Md_readWord : qz_fp yd_Md_readWord 240 12 36 := ⟨_, rfl, by decide, Or.inl ⟨rfl, Or.inl wt_1153⟩⟩
theorem fp_Md_244_Md_readWord : qz_fp yd_Md_readWord 244 12 37 := ⟨_, rfl, by decide, Or.inl ⟨rfl, Or.inl wt_1154⟩⟩
theorem fp_Md_247_Md_readWord : qz_fp yd_Md_readWord 247 12 35 := ⟨_, rfl, by decide, Or.inl ⟨rfl, Or.inl wt_1152⟩⟩
theorem ln_Md_227 : qz_ln "StackAssemblerModel" 227 yd_Md_comment := Or.inl wt_1343
theorem ln_Md_237 : qz_ln "StackAssemblerModel" 237 yd_Md_readWord := Or.inl wt_1353
theorem fp_Md_217_Md_next : qz_fp yd_Md_next 217 12 32 := ⟨_, rfl, by decide, Or.inl ⟨rfl, Or.inl wt_1149⟩⟩
theorem fp_Md_224_Md_next : qz_fp yd_Md_next 224 12 34 := ⟨_, rfl, by decide, Or.inl ⟨rfl, Or.inl wt_1151⟩⟩
theorem fp_Md_231_Md_next : qz_fp yd_Md_next 231 12 33 := ⟨_, rfl, by decide, Or.inl ⟨rfl, Or.inl wt_1150⟩⟩
theorem fl_Md_250 : qz_fl "StackAssemblerModel" 250 12 38 := ⟨_, rfl, by decide, Or.inl wt_1155⟩
theorem fp_Md_250_Md_fail : qz_fp yd_Md_fail 250 12 38 := ⟨_, rfl, by decide, Or.inl ⟨rfl, Or.inl wt_1155⟩⟩
theorem ln_Md_253 : qz_ln "StackAssemblerModel" 253 yd_Md_fail := Or.inl wt_1361
theorem ln_Md_256 : qz_ln "StackAssemblerModel" 256 yd_Md_next := Or.inl wt_1335
theorem ln_Md_259 : qz_ln "StackAssemblerModel" 259 yd_Md_is := Or.inl wt_1370
theorem fl_Md_263 : qz_fl "StackAssemblerModel" 263 12 47 := ⟨_, rfl, by decide, Or.inl wt_1164⟩
theorem wc_Md_266 : Cond.constantLong "StackAssemblerModel" 266 (Int64.ofInt 1844674407370955161) ∈ kz_TT := by
  rw [show Int64.ofInt 1844674407370955161 = (1844674407370955161 : Int64) from by decide]
  exact wt_1435
theorem wc_Md_268 : Cond.constantLong "StackAssemblerModel" 268 (Int64.ofInt 10) ∈ kz_TT := by
  rw [show Int64.ofInt 10 = (10 : Int64) from by decide]
  exact wt_1436
theorem fp_Md_263_Md_digits : qz_fp yd_Md_digits 263 12 47 := ⟨_, rfl, by decide, Or.inl ⟨rfl, Or.inl wt_1164⟩⟩
theorem ln_Md_275 : qz_ln "StackAssemblerModel" 275 yd_Md_below32 := Or.inl wt_1438
theorem ln_Md_270 : qz_ln "StackAssemblerModel" 270 yd_Md_digits := Or.inl wt_1431
theorem wc_Md_273 : Cond.constantLong "StackAssemblerModel" 273 (Int64.ofInt (-9223372036854775808)) ∈ kz_TT := by
  rw [show Int64.ofInt (-9223372036854775808) = ((-9223372036854775808) : Int64) from by decide]
  exact wt_1437
theorem wc_Md_279 : Cond.constantLong "StackAssemblerModel" 279 (Int64.ofInt 2147483648) ∈ kz_TT := by
  rw [show Int64.ofInt 2147483648 = (2147483648 : Int64) from by decide]
  exact wt_1441
theorem fp_Md_263_Md_constant : qz_fp yd_Md_constant 263 12 47 := ⟨_, rfl, by decide, Or.inl ⟨rfl, Or.inl wt_1164⟩⟩
theorem ln_Md_300 : qz_ln "StackAssemblerModel" 300 yd_Md_sameName := Or.inl wt_1383
theorem fl_Md_297 : qz_fl "StackAssemblerModel" 297 12 39 := ⟨_, rfl, by decide, Or.inl wt_1156⟩
theorem ln_Md_284 : qz_ln "StackAssemblerModel" 284 yd_Md_isId := Or.inl wt_1379
theorem ln_Md_290 : qz_ln "StackAssemblerModel" 290 yd_Md_labelOf := Or.inl wt_1446
theorem ln_Md_294 : qz_ln "StackAssemblerModel" 294 yd_Md_variableOf := Or.inl wt_1392
theorem fl_Md_281 : qz_fl "StackAssemblerModel" 281 12 48 := ⟨_, rfl, by decide, Or.inl wt_1165⟩
theorem fl_Md_287 : qz_fl "StackAssemblerModel" 287 12 28 := ⟨_, rfl, by decide, Or.inl wt_1145⟩
theorem fp_Md_263_Md_index : qz_fp yd_Md_index 263 12 47 := ⟨_, rfl, by decide, Or.inl ⟨rfl, Or.inl wt_1164⟩⟩
theorem fp_Md_281_Md_index : qz_fp yd_Md_index 281 12 48 := ⟨_, rfl, by decide, Or.inl ⟨rfl, Or.inl wt_1165⟩⟩
theorem fp_Md_287_Md_index : qz_fp yd_Md_index 287 12 28 := ⟨_, rfl, by decide, Or.inl ⟨rfl, Or.inl wt_1145⟩⟩
theorem wc_Md_338 : Cond.constantLong "StackAssemblerModel" 338 (Int64.ofInt 6894386) ∈ kz_TT := by
  rw [show Int64.ofInt 6894386 = (6894386 : Int64) from by decide]
  exact wt_1400
theorem wc_Md_340 : Cond.constantLong "StackAssemblerModel" 340 (Int64.ofInt 6895156) ∈ kz_TT := by
  rw [show Int64.ofInt 6895156 = (6895156 : Int64) from by decide]
  exact wt_1401
theorem ln_Md_310 : qz_ln "StackAssemblerModel" 310 yd_Md_pass := Or.inl wt_1357
theorem ln_Md_342 : qz_ln "StackAssemblerModel" 342 yd_Md_variable := Or.inl wt_1396
theorem ln_Md_346 : qz_ln "StackAssemblerModel" 346 yd_Md_constant := Or.inl wt_1427
theorem ln_Md_350 : qz_ln "StackAssemblerModel" 350 yd_Md_index := Or.inl wt_1442
theorem fp_Md_263_Md_readImmediate : qz_fp yd_Md_readImmediate 263 12 47 := ⟨_, rfl, by decide, Or.inl ⟨rfl, Or.inl wt_1164⟩⟩
theorem fp_Md_281_Md_readImmediate : qz_fp yd_Md_readImmediate 281 12 48 := ⟨_, rfl, by decide, Or.inl ⟨rfl, Or.inl wt_1165⟩⟩
theorem ln_Md_357 : qz_ln "StackAssemblerModel" 357 yd_Md_isPlain := Or.inl wt_1420
theorem ln_Md_354 : qz_ln "StackAssemblerModel" 354 yd_Md_instructionWord := Or.inl wt_1416
theorem ln_Md_360 : qz_ln "StackAssemblerModel" 360 yd_Md_readImmediate := Or.inl wt_1423
theorem fp_Md_297_Md_fold : qz_fp yd_Md_fold 297 12 39 := ⟨_, rfl, by decide, Or.inl ⟨rfl, Or.inl wt_1156⟩⟩
theorem fl_Md_304 : qz_fl "StackAssemblerModel" 304 12 23 := ⟨_, rfl, by decide, Or.inl wt_1140⟩
theorem fp_Md_304_Md_emit : qz_fp yd_Md_emit 304 12 23 := ⟨_, rfl, by decide, Or.inl ⟨rfl, Or.inl wt_1140⟩⟩
theorem ln_Md_363 : qz_ln "StackAssemblerModel" 363 yd_Md_open := Or.inl wt_1454
theorem ln_Md_366 : qz_ln "StackAssemblerModel" 366 yd_Md_fold := Or.inl wt_1412
theorem ln_Md_369 : qz_ln "StackAssemblerModel" 369 yd_Md_hasRoom := Or.inl wt_1458
theorem ln_Md_372 : qz_ln "StackAssemblerModel" 372 yd_Md_emit := Or.inl wt_1462
theorem ln_Md_376 : qz_ln "StackAssemblerModel" 376 yd_Md_noteCall := Or.inl wt_1466
theorem fp_Md_297_Md_inFold : qz_fp yd_Md_inFold 297 12 39 := ⟨_, rfl, by decide, Or.inl ⟨rfl, Or.inl wt_1156⟩⟩
theorem ln_Md_330 : qz_ln "StackAssemblerModel" 330 yd_Md_readType := Or.inl wt_1403
theorem wc_Md_328 : Cond.constantLong "StackAssemblerModel" 328 (Int64.ofInt 125780054338676) ∈ kz_TT := by
  rw [show Int64.ofInt 125780054338676 = (125780054338676 : Int64) from by decide]
  exact wt_1402
theorem fp_Md_297_Md_beginBlock : qz_fp yd_Md_beginBlock 297 12 39 := ⟨_, rfl, by decide, Or.inl ⟨rfl, Or.inl wt_1156⟩⟩
theorem ln_Md_380 : qz_ln "StackAssemblerModel" 380 yd_Md_blockName := Or.inl wt_1482
theorem fp_Md_297_Md_turnBlock : qz_fp yd_Md_turnBlock 297 12 39 := ⟨_, rfl, by decide, Or.inl ⟨rfl, Or.inl wt_1156⟩⟩
theorem ln_Md_383 : qz_ln "StackAssemblerModel" 383 yd_Md_beginBlock := Or.inl wt_1474
theorem ln_Md_386 : qz_ln "StackAssemblerModel" 386 yd_Md_turnBlock := Or.inl wt_1478
theorem ln_Md_389 : qz_ln "StackAssemblerModel" 389 yd_Md_inFold := Or.inl wt_1450
theorem ln_Md_392 : qz_ln "StackAssemblerModel" 392 yd_Md_readInstruction := Or.inl wt_1470
theorem ln_Md_325 : qz_ln "StackAssemblerModel" 325 yd_Md_variables := Or.inl wt_1388
theorem ln_Md_335 : qz_ln "StackAssemblerModel" 335 yd_Md_body := Or.inl wt_1408
theorem wc_Md_323 : Cond.constantLong "StackAssemblerModel" 323 (Int64.ofInt 482671223149) ∈ kz_TT := by
  rw [show Int64.ofInt 482671223149 = (482671223149 : Int64) from by decide]
  exact wt_1387
theorem wc_Md_333 : Cond.constantLong "StackAssemblerModel" 333 (Int64.ofInt 465725251948) ∈ kz_TT := by
  rw [show Int64.ofInt 465725251948 = (465725251948 : Int64) from by decide]
  exact wt_1407
theorem fp_Md_297_Md_readFunction : qz_fp yd_Md_readFunction 297 12 39 := ⟨_, rfl, by decide, Or.inl ⟨rfl, Or.inl wt_1156⟩⟩
theorem ln_Md_315 : qz_ln "StackAssemblerModel" 315 yd_Md_passWord := Or.inl wt_1366
theorem ln_Md_320 : qz_ln "StackAssemblerModel" 320 yd_Md_readFunction := Or.inl wt_1375
theorem fl_Md_307 : qz_fl "StackAssemblerModel" 307 12 15 := ⟨_, rfl, by decide, Or.inl wt_1132⟩
theorem wc_Md_313 : Cond.constantLong "StackAssemblerModel" 313 (Int64.ofInt 120325194214501) ∈ kz_TT := by
  rw [show Int64.ofInt 120325194214501 = (120325194214501 : Int64) from by decide]
  exact wt_1365
theorem wc_Md_318 : Cond.constantLong "StackAssemblerModel" 318 (Int64.ofInt 1718972003) ∈ kz_TT := by
  rw [show Int64.ofInt 1718972003 = (1718972003 : Int64) from by decide]
  exact wt_1374
theorem fp_Md_217_Md_readModule : qz_fp yd_Md_readModule 217 12 32 := ⟨_, rfl, by decide, Or.inl ⟨rfl, Or.inl wt_1149⟩⟩
theorem fp_Md_250_Md_readModule : qz_fp yd_Md_readModule 250 12 38 := ⟨_, rfl, by decide, Or.inl ⟨rfl, Or.inl wt_1155⟩⟩
theorem fp_Md_287_Md_readModule : qz_fp yd_Md_readModule 287 12 28 := ⟨_, rfl, by decide, Or.inl ⟨rfl, Or.inl wt_1145⟩⟩
theorem fp_Md_304_Md_readModule : qz_fp yd_Md_readModule 304 12 23 := ⟨_, rfl, by decide, Or.inl ⟨rfl, Or.inl wt_1140⟩⟩
theorem fp_Md_307_Md_readModule : qz_fp yd_Md_readModule 307 12 15 := ⟨_, rfl, by decide, Or.inl ⟨rfl, Or.inl wt_1132⟩⟩
theorem fp_Md_224_Md_resolve : qz_fp yd_Md_resolve 224 12 34 := ⟨_, rfl, by decide, Or.inl ⟨rfl, Or.inl wt_1151⟩⟩
theorem fl_Md_395 : qz_fl "StackAssemblerModel" 395 12 57 := ⟨_, rfl, by decide, Or.inl wt_1174⟩
theorem fp_Md_395_Md_bad : qz_fp yd_Md_bad 395 12 57 := ⟨_, rfl, by decide, Or.inl ⟨rfl, Or.inl wt_1174⟩⟩
theorem fl_Md_399 : qz_fl "StackAssemblerModel" 399 12 51 := ⟨_, rfl, by decide, Or.inl wt_1168⟩
theorem fl_Md_402 : qz_fl "StackAssemblerModel" 402 12 49 := ⟨_, rfl, by decide, Or.inl wt_1166⟩
theorem fp_Md_395_Md_take : qz_fp yd_Md_take 395 12 57 := ⟨_, rfl, by decide, Or.inl ⟨rfl, Or.inl wt_1174⟩⟩
theorem fp_Md_402_Md_take : qz_fp yd_Md_take 402 12 49 := ⟨_, rfl, by decide, Or.inl ⟨rfl, Or.inl wt_1166⟩⟩
theorem fp_Md_402_Md_put : qz_fp yd_Md_put 402 12 49 := ⟨_, rfl, by decide, Or.inl ⟨rfl, Or.inl wt_1166⟩⟩
theorem ln_Md_405 : qz_ln "StackAssemblerModel" 405 yd_Md_take := Or.inl wt_1510
theorem ln_Md_408 : qz_ln "StackAssemblerModel" 408 yd_Md_put := Or.inl wt_1526
theorem fp_Md_402_Md_die : qz_fp yd_Md_die 402 12 49 := ⟨_, rfl, by decide, Or.inl ⟨rfl, Or.inl wt_1166⟩⟩
theorem fp_Md_399_Md_frame : qz_fp yd_Md_frame 399 12 51 := ⟨_, rfl, by decide, Or.inl ⟨rfl, Or.inl wt_1168⟩⟩
theorem ln_Md_412 : qz_ln "StackAssemblerModel" 412 yd_Md_takeResult := Or.inl wt_1506
theorem fp_Md_395_Md_endFrame : qz_fp yd_Md_endFrame 395 12 57 := ⟨_, rfl, by decide, Or.inl ⟨rfl, Or.inl wt_1174⟩⟩
theorem fp_Md_402_Md_endFrame : qz_fp yd_Md_endFrame 402 12 49 := ⟨_, rfl, by decide, Or.inl ⟨rfl, Or.inl wt_1166⟩⟩
theorem ln_Md_415 : qz_ln "StackAssemblerModel" 415 yd_Md_frame := Or.inl wt_1498
theorem ln_Md_419 : qz_ln "StackAssemblerModel" 419 yd_Md_endFrame := Or.inl wt_1502
theorem fp_Md_395_Md_control : qz_fp yd_Md_control 395 12 57 := ⟨_, rfl, by decide, Or.inl ⟨rfl, Or.inl wt_1174⟩⟩
theorem fp_Md_399_Md_control : qz_fp yd_Md_control 399 12 51 := ⟨_, rfl, by decide, Or.inl ⟨rfl, Or.inl wt_1168⟩⟩
theorem ln_Md_422 : qz_ln "StackAssemblerModel" 422 yd_Md_bad := Or.inl wt_1534
theorem ln_Md_425 : qz_ln "StackAssemblerModel" 425 yd_Md_takeAndPut := Or.inl wt_1538
theorem ln_Md_428 : qz_ln "StackAssemblerModel" 428 yd_Md_die := Or.inl wt_1518
theorem ln_Md_431 : qz_ln "StackAssemblerModel" 431 yd_Md_control := Or.inl wt_1522
theorem ln_Md_434 : qz_ln "StackAssemblerModel" 434 yd_Md_branch := Or.inl wt_1530
theorem ln_Md_438 : qz_ln "StackAssemblerModel" 438 yd_Md_callOf := Or.inl wt_1542
theorem ln_Md_442 : qz_ln "StackAssemblerModel" 442 yd_Md_select := Or.inl wt_1546
theorem ln_Md_445 : qz_ln "StackAssemblerModel" 445 yd_Md_local := Or.inl wt_1550
theorem ln_Md_449 : qz_ln "StackAssemblerModel" 449 yd_Md_arithmetic := Or.inl wt_1554
theorem ln_Md_452 : qz_ln "StackAssemblerModel" 452 yd_Md_check := Or.inl wt_1514
theorem fl_Md_455 : qz_fl "StackAssemblerModel" 455 12 4 := ⟨_, rfl, by decide, Or.inl wt_1121⟩
theorem fp_Md_395_Md_isValid : qz_fp yd_Md_isValid 395 12 57 := ⟨_, rfl, by decide, Or.inl ⟨rfl, Or.inl wt_1174⟩⟩
theorem fp_Md_399_Md_isValid : qz_fp yd_Md_isValid 399 12 51 := ⟨_, rfl, by decide, Or.inl ⟨rfl, Or.inl wt_1168⟩⟩
theorem fp_Md_402_Md_isValid : qz_fp yd_Md_isValid 402 12 49 := ⟨_, rfl, by decide, Or.inl ⟨rfl, Or.inl wt_1166⟩⟩
theorem fp_Md_455_Md_isValid : qz_fp yd_Md_isValid 455 12 4 := ⟨_, rfl, by decide, Or.inl ⟨rfl, Or.inl wt_1121⟩⟩
theorem fl_Md_458 : qz_fl "StackAssemblerModel" 458 12 7 := ⟨_, rfl, by decide, Or.inl wt_1124⟩
theorem fp_Md_458_Md_adopt : qz_fp yd_Md_adopt 458 12 7 := ⟨_, rfl, by decide, Or.inl ⟨rfl, Or.inl wt_1124⟩⟩
theorem ln_Md_461 : qz_ln "StackAssemblerModel" 461 yd_Md_readModule := Or.inl wt_1331
theorem ln_Md_464 : qz_ln "StackAssemblerModel" 464 yd_Md_resolve := Or.inl wt_1486
theorem ln_Md_467 : qz_ln "StackAssemblerModel" 467 yd_Md_raise := Or.inl wt_1490
theorem ln_Md_470 : qz_ln "StackAssemblerModel" 470 yd_Md_isValid := Or.inl wt_1494
theorem ln_Md_473 : qz_ln "StackAssemblerModel" 473 yd_Md_adopt := Or.inl wt_1558
theorem fp_Md_206_Md_assemble : qz_fp yd_Md_assemble 206 12 3 := ⟨_, rfl, by decide, Or.inl ⟨rfl, Or.inl wt_1120⟩⟩
theorem fp_Md_455_Md_assemble : qz_fp yd_Md_assemble 455 12 4 := ⟨_, rfl, by decide, Or.inl ⟨rfl, Or.inl wt_1121⟩⟩
theorem fl_Md_476 : qz_fl "StackAssemblerModel" 476 12 60 := ⟨_, rfl, by decide, Or.inl wt_1177⟩
theorem fp_Md_476_Md_add : qz_fp yd_Md_add 476 12 60 := ⟨_, rfl, by decide, Or.inl ⟨rfl, Or.inl wt_1177⟩⟩
theorem ln_Md_481 : qz_ln "StackAssemblerModel" 481 yd_Md_add := Or.inl wt_1566
theorem wc_Md_479 : Cond.constantLong "StackAssemblerModel" 479 (Int64.ofInt 127) ∈ kz_TT := by
  rw [show Int64.ofInt 127 = (127 : Int64) from by decide]
  exact wt_1590
theorem wc_Md_484 : Cond.constantLong "StackAssemblerModel" 484 (Int64.ofInt 63) ∈ kz_TT := by
  rw [show Int64.ofInt 63 = (63 : Int64) from by decide]
  exact wt_1622
theorem wc_Md_486 : Cond.constantLong "StackAssemblerModel" 486 (Int64.ofInt (-64)) ∈ kz_TT := by
  rw [show Int64.ofInt (-64) = ((-64) : Int64) from by decide]
  exact wt_1623
theorem fp_Md_476_Md_close : qz_fp yd_Md_close 476 12 60 := ⟨_, rfl, by decide, Or.inl ⟨rfl, Or.inl wt_1177⟩⟩
theorem ln_Md_488 : qz_ln "StackAssemblerModel" 488 yd_Md_sameSignature := Or.inl wt_1582
theorem ln_Md_491 : qz_ln "StackAssemblerModel" 491 yd_Md_firstLike := Or.inl wt_1578
theorem ln_Md_500 : qz_ln "StackAssemblerModel" 500 yd_Md_typeByte := Or.inl wt_1591
theorem ln_Md_494 : qz_ln "StackAssemblerModel" 494 yd_Md_signaturesBefore := Or.inl wt_1574
theorem ln_Md_497 : qz_ln "StackAssemblerModel" 497 yd_Md_unsigned := Or.inl wt_1586
theorem ln_Md_503 : qz_ln "StackAssemblerModel" 503 yd_Md_close := Or.inl wt_1594
theorem ln_Md_506 : qz_ln "StackAssemblerModel" 506 yd_Md_runBegins := Or.inl wt_1610
theorem ln_Md_509 : qz_ln "StackAssemblerModel" 509 yd_Md_signed := Or.inl wt_1618
theorem ln_Md_512 : qz_ln "StackAssemblerModel" 512 yd_Md_runs := Or.inl wt_1606
theorem ln_Md_515 : qz_ln "StackAssemblerModel" 515 yd_Md_instructionBytes := Or.inl wt_1614
theorem ln_Md_518 : qz_ln "StackAssemblerModel" 518 yd_Md_signatureSection := Or.inl wt_1570
theorem ln_Md_521 : qz_ln "StackAssemblerModel" 521 yd_Md_functionSection := Or.inl wt_1598
theorem ln_Md_524 : qz_ln "StackAssemblerModel" 524 yd_Md_codeSection := Or.inl wt_1602
theorem fl_Md_527 : qz_fl "StackAssemblerModel" 527 12 58 := ⟨_, rfl, by decide, Or.inl wt_1175⟩
theorem fp_Md_206_Md_encode : qz_fp yd_Md_encode 206 12 3 := ⟨_, rfl, by decide, Or.inl ⟨rfl, Or.inl wt_1120⟩⟩
theorem fp_Md_476_Md_encode : qz_fp yd_Md_encode 476 12 60 := ⟨_, rfl, by decide, Or.inl ⟨rfl, Or.inl wt_1177⟩⟩
theorem fp_Md_527_Md_encode : qz_fp yd_Md_encode 527 12 58 := ⟨_, rfl, by decide, Or.inl ⟨rfl, Or.inl wt_1175⟩⟩
theorem fp_Md_206_Md_octet : qz_fp yd_Md_octet 206 12 3 := ⟨_, rfl, by decide, Or.inl ⟨rfl, Or.inl wt_1120⟩⟩
theorem fl_Md_530 : qz_fl "StackAssemblerModel" 530 12 62 := ⟨_, rfl, by decide, Or.inl wt_1179⟩
theorem fp_Md_530_Md_out : qz_fp yd_Md_out 530 12 62 := ⟨_, rfl, by decide, Or.inl ⟨rfl, Or.inl wt_1179⟩⟩
theorem ln_Md_533 : qz_ln "StackAssemblerModel" 533 yd_Md_out := Or.inl wt_1632
theorem wc_Md_536 : Cond.constantLong "StackAssemblerModel" 536 (Int64.ofInt 9) ∈ kz_TT := by
  rw [show Int64.ofInt 9 = (9 : Int64) from by decide]
  exact wt_1660
theorem wc_Md_538 : Cond.constantLong "StackAssemblerModel" 538 (Int64.ofInt (-9)) ∈ kz_TT := by
  rw [show Int64.ofInt (-9) = ((-9) : Int64) from by decide]
  exact wt_1661
theorem ln_Md_540 : qz_ln "StackAssemblerModel" 540 yd_Md_outLong := Or.inl wt_1636
theorem ln_Md_543 : qz_ln "StackAssemblerModel" 543 yd_Md_outType := Or.inl wt_1644
theorem ln_Md_546 : qz_ln "StackAssemblerModel" 546 yd_Md_outNumber := Or.inl wt_1656
theorem ln_Md_549 : qz_ln "StackAssemblerModel" 549 yd_Md_outResult := Or.inl wt_1648
theorem ln_Md_552 : qz_ln "StackAssemblerModel" 552 yd_Md_outRow := Or.inl wt_1640
theorem ln_Md_556 : qz_ln "StackAssemblerModel" 556 yd_Md_outInstruction := Or.inl wt_1652
theorem fp_Md_206_Md_print : qz_fp yd_Md_print 206 12 3 := ⟨_, rfl, by decide, Or.inl ⟨rfl, Or.inl wt_1120⟩⟩
theorem fp_Md_210_Md_print : qz_fp yd_Md_print 210 12 5 := ⟨_, rfl, by decide, Or.inl ⟨rfl, Or.inl wt_1122⟩⟩
theorem fp_Md_530_Md_print : qz_fp yd_Md_print 530 12 62 := ⟨_, rfl, by decide, Or.inl ⟨rfl, Or.inl wt_1179⟩⟩
theorem fp_Md_206_Md_place : qz_fp yd_Md_place 206 12 3 := ⟨_, rfl, by decide, Or.inl ⟨rfl, Or.inl wt_1120⟩⟩
theorem fp_Md_206_Md_functions : qz_fp yd_Md_functions 206 12 3 := ⟨_, rfl, by decide, Or.inl ⟨rfl, Or.inl wt_1120⟩⟩
theorem ln_Md_559 : qz_ln "StackAssemblerModel" 559 yd_Md_isFunction := Or.inl wt_1674
theorem fp_Md_206_Md_function : qz_fp yd_Md_function 206 12 3 := ⟨_, rfl, by decide, Or.inl ⟨rfl, Or.inl wt_1120⟩⟩
theorem ln_Md_562 : qz_ln "StackAssemblerModel" 562 yd_Md_isInstruction := Or.inl wt_1682
theorem fp_Md_206_Md_instruction : qz_fp yd_Md_instruction 206 12 3 := ⟨_, rfl, by decide, Or.inl ⟨rfl, Or.inl wt_1120⟩⟩
theorem fp_Md_206_Md_immediate : qz_fp yd_Md_immediate 206 12 3 := ⟨_, rfl, by decide, Or.inl ⟨rfl, Or.inl wt_1120⟩⟩
theorem fl_Frame_13 : qz_fl "StackAssembler$Frame" 13 3 1 := ⟨_, rfl, by decide, Or.inl wt_274⟩
theorem fl_Frame_16 : qz_fl "StackAssembler$Frame" 16 3 2 := ⟨_, rfl, by decide, Or.inl wt_276⟩
theorem fl_Frame_19 : qz_fl "StackAssembler$Frame" 19 3 3 := ⟨_, rfl, by decide, Or.inl wt_278⟩
theorem fl_Frame_23 : qz_fl "StackAssembler$Frame" 23 3 4 := ⟨_, rfl, by decide, Or.inl wt_280⟩
theorem fl_Frame_7 : qz_fl "StackAssembler$Frame" 7 3 0 := ⟨_, rfl, by decide, Or.inl wt_272⟩
theorem fp_Frame_13_Frame_begin : qz_fp yd_Frame_begin 13 3 1 := ⟨_, rfl, by decide, Or.inl ⟨rfl, Or.inl wt_274⟩⟩
theorem fp_Frame_16_Frame_begin : qz_fp yd_Frame_begin 16 3 2 := ⟨_, rfl, by decide, Or.inl ⟨rfl, Or.inl wt_276⟩⟩
theorem fp_Frame_19_Frame_begin : qz_fp yd_Frame_begin 19 3 3 := ⟨_, rfl, by decide, Or.inl ⟨rfl, Or.inl wt_278⟩⟩
theorem fp_Frame_23_Frame_begin : qz_fp yd_Frame_begin 23 3 4 := ⟨_, rfl, by decide, Or.inl ⟨rfl, Or.inl wt_280⟩⟩
theorem fp_Frame_7_Frame_begin : qz_fp yd_Frame_begin 7 3 0 := ⟨_, rfl, by decide, Or.inl ⟨rfl, Or.inl wt_272⟩⟩
theorem fl_java_lang_Enum_7 : qz_fl "java/lang/Enum" 7 7 6 := ⟨_, rfl, by decide, Or.inl wt_1697⟩
theorem fl_Checker_162 : qz_fl "StackAssembler$Checker" 162 3 2 := ⟨_, rfl, by decide, Or.inl wt_277⟩
theorem fl_Checker_163 : qz_fl "StackAssembler$Checker" 163 3 3 := ⟨_, rfl, by decide, Or.inl wt_279⟩
theorem fl_Checker_36 : qz_fl "StackAssembler$Checker" 36 1 6 := ⟨_, rfl, by decide, Or.inl wt_299⟩
theorem fl_Checker_55 : qz_fl "StackAssembler$Checker" 55 1 4 := ⟨_, rfl, by decide, Or.inl wt_297⟩
theorem fl_Checker_58 : qz_fl "StackAssembler$Checker" 58 1 5 := ⟨_, rfl, by decide, Or.inl wt_298⟩
theorem fp_Checker_36_Checker_take : qz_fp yd_Checker_take 36 1 6 := ⟨_, rfl, by decide, Or.inl ⟨rfl, Or.inl wt_299⟩⟩
theorem fp_Checker_55_Checker_take : qz_fp yd_Checker_take 55 1 4 := ⟨_, rfl, by decide, Or.inl ⟨rfl, Or.inl wt_297⟩⟩
theorem ln_Checker_125 : qz_ln "StackAssembler$Checker" 125 yd_Checker_take := Or.inl wt_859
theorem ln_Checker_66 : qz_ln "StackAssembler$Checker" 66 yd_Frame_begin := Or.inl wt_838
theorem fl_Checker_158 : qz_fl "StackAssembler$Checker" 158 3 4 := ⟨_, rfl, by decide, Or.inl wt_281⟩
theorem fp_Checker_158_Checker_beginFrame : qz_fp yd_Checker_beginFrame 158 3 4 := ⟨_, rfl, by decide, Or.inl ⟨rfl, Or.inl wt_281⟩⟩
theorem fp_Checker_36_Checker_beginFrame : qz_fp yd_Checker_beginFrame 36 1 6 := ⟨_, rfl, by decide, Or.inl ⟨rfl, Or.inl wt_299⟩⟩
theorem fp_Checker_58_Checker_beginFrame : qz_fp yd_Checker_beginFrame 58 1 5 := ⟨_, rfl, by decide, Or.inl ⟨rfl, Or.inl wt_298⟩⟩
theorem sz_Op_IF : ("StackAssembler$Op", "IF", "LStackAssembler$Op;", 17, ((-5) : Int)) ∈ kz_st := List.mem_of_getElem? (i := 4) rfl
theorem sl_Checker_151 : Cond.fieldLink "StackAssembler$Checker" 151 "StackAssembler$Op" "IF" "LStackAssembler$Op;" ∈ kz_TT ∨ ∃ host, Cond.fieldLinkNest "StackAssembler$Checker" 151 "StackAssembler$Op" "IF" "LStackAssembler$Op;" host ∈ kz_NT := Or.inl wt_858
theorem sz_Op_LOOP : ("StackAssembler$Op", "LOOP", "LStackAssembler$Op;", 17, ((-4) : Int)) ∈ kz_st := List.mem_of_getElem? (i := 3) rfl
theorem sl_Checker_155 : Cond.fieldLink "StackAssembler$Checker" 155 "StackAssembler$Op" "LOOP" "LStackAssembler$Op;" ∈ kz_TT ∨ ∃ host, Cond.fieldLinkNest "StackAssembler$Checker" 155 "StackAssembler$Op" "LOOP" "LStackAssembler$Op;" host ∈ kz_NT := Or.inl wt_863
theorem ln_Checker_114 : qz_ln "StackAssembler$Checker" 114 yd_Checker_takeResult := Or.inl wt_869
theorem fl_Checker_161 : qz_fl "StackAssembler$Checker" 161 3 1 := ⟨_, rfl, by decide, Or.inl wt_275⟩
theorem fp_Checker_36_Checker_endFrame : qz_fp yd_Checker_endFrame 36 1 6 := ⟨_, rfl, by decide, Or.inl ⟨rfl, Or.inl wt_299⟩⟩
theorem fp_Checker_158_Checker_restartFrame : qz_fp yd_Checker_restartFrame 158 3 4 := ⟨_, rfl, by decide, Or.inl ⟨rfl, Or.inl wt_281⟩⟩
theorem fp_Checker_163_Checker_restartFrame : qz_fp yd_Checker_restartFrame 163 3 3 := ⟨_, rfl, by decide, Or.inl ⟨rfl, Or.inl wt_279⟩⟩
theorem fp_Checker_55_Checker_restartFrame : qz_fp yd_Checker_restartFrame 55 1 4 := ⟨_, rfl, by decide, Or.inl ⟨rfl, Or.inl wt_297⟩⟩
theorem fp_Checker_55_Checker_put : qz_fp yd_Checker_put 55 1 4 := ⟨_, rfl, by decide, Or.inl ⟨rfl, Or.inl wt_297⟩⟩
theorem ln_Checker_148 : qz_ln "StackAssembler$Checker" 148 yd_Checker_put := Or.inl wt_882
theorem ln_Checker_88 : qz_ln "StackAssembler$Checker" 88 yd_Checker_endFrame := Or.inl wt_865
theorem ma_Checker_166 : Cond.methodLink "StackAssembler$Checker" 166 Lib.Math.max.name ∈ kz_TT ∧ Cond.static Lib.Math.max.name ∈ kz_TT ∧ Cond.initialized "java/lang/Math" ∈ kz_TT ∧ Cond.code Lib.Math.max.name Lib.Math.max.code 2 (some .int) ∈ kz_TT := ⟨wt_881, wt_265, wt_11, wt_266⟩
theorem fp_Checker_36_Checker_leaveFrame : qz_fp yd_Checker_leaveFrame 36 1 6 := ⟨_, rfl, by decide, Or.inl ⟨rfl, Or.inl wt_299⟩⟩
theorem fp_Checker_58_Checker_leaveFrame : qz_fp yd_Checker_leaveFrame 58 1 5 := ⟨_, rfl, by decide, Or.inl ⟨rfl, Or.inl wt_298⟩⟩
theorem fp_Checker_163_Checker_makeUnreachable : qz_fp yd_Checker_makeUnreachable 163 3 3 := ⟨_, rfl, by decide, Or.inl ⟨rfl, Or.inl wt_279⟩⟩
theorem fp_Checker_55_Checker_makeUnreachable : qz_fp yd_Checker_makeUnreachable 55 1 4 := ⟨_, rfl, by decide, Or.inl ⟨rfl, Or.inl wt_297⟩⟩
theorem ln_Checker_118 : qz_ln "StackAssembler$Checker" 118 yd_Checker_makeUnreachable := Or.inl wt_892
theorem fl_Checker_175 : qz_fl "StackAssembler$Checker" 175 3 0 := ⟨_, rfl, by decide, Or.inl wt_273⟩
theorem fp_Checker_36_Checker_checkBranch : qz_fp yd_Checker_checkBranch 36 1 6 := ⟨_, rfl, by decide, Or.inl ⟨rfl, Or.inl wt_299⟩⟩
theorem sz_Op_BR_IF : ("StackAssembler$Op", "BR_IF", "LStackAssembler$Op;", 17, ((-9) : Int)) ∈ kz_st := List.mem_of_getElem? (i := 8) rfl
theorem sl_Checker_172 : Cond.fieldLink "StackAssembler$Checker" 172 "StackAssembler$Op" "BR_IF" "LStackAssembler$Op;" ∈ kz_TT ∨ ∃ host, Cond.fieldLinkNest "StackAssembler$Checker" 172 "StackAssembler$Op" "BR_IF" "LStackAssembler$Op;" host ∈ kz_NT := Or.inl wt_890
theorem ln_Checker_178 : qz_ln "StackAssembler$Checker" 178 yd_Module_hasFunction := Or.inl wt_900
theorem fl_Checker_182 : qz_fl "StackAssembler$Checker" 182 4 1 := ⟨_, rfl, by decide, Or.inl wt_77⟩
theorem fl_Checker_188 : qz_fl "StackAssembler$Checker" 188 4 0 := ⟨_, rfl, by decide, Or.inl wt_72⟩
theorem fl_Checker_44 : qz_fl "StackAssembler$Checker" 44 6 0 := ⟨_, rfl, by decide, Or.inl wt_118⟩
theorem fl_Checker_61 : qz_fl "StackAssembler$Checker" 61 4 3 := ⟨_, rfl, by decide, Or.inl wt_83⟩
theorem ma_Checker_185 : Cond.methodLink "StackAssembler$Checker" 185 Lib.Math.min.name ∈ kz_TT ∧ Cond.static Lib.Math.min.name ∈ kz_TT ∧ Cond.initialized "java/lang/Math" ∈ kz_TT ∧ Cond.code Lib.Math.min.name Lib.Math.min.code 2 (some .int) ∈ kz_TT := ⟨wt_901, wt_262, wt_11, wt_263⟩
theorem fp_Checker_36_Checker_checkCall : qz_fp yd_Checker_checkCall 36 1 6 := ⟨_, rfl, by decide, Or.inl ⟨rfl, Or.inl wt_299⟩⟩
theorem ln_Checker_191 : qz_ln "StackAssembler$Checker" 191 yd_Function_hasSlot := Or.inl wt_910
theorem fp_Checker_36_Checker_checkSlot : qz_fp yd_Checker_checkSlot 36 1 6 := ⟨_, rfl, by decide, Or.inl ⟨rfl, Or.inl wt_299⟩⟩
theorem sz_Op_LOCAL_GET : ("StackAssembler$Op", "LOCAL_GET", "LStackAssembler$Op;", 17, ((-14) : Int)) ∈ kz_st := List.mem_of_getElem? (i := 13) rfl
theorem sl_Checker_194 : Cond.fieldLink "StackAssembler$Checker" 194 "StackAssembler$Op" "LOCAL_GET" "LStackAssembler$Op;" ∈ kz_TT ∨ ∃ host, Cond.fieldLinkNest "StackAssembler$Checker" 194 "StackAssembler$Op" "LOCAL_GET" "LStackAssembler$Op;" host ∈ kz_NT := Or.inl wt_911
theorem sz_Op_LOCAL_SET : ("StackAssembler$Op", "LOCAL_SET", "LStackAssembler$Op;", 17, ((-15) : Int)) ∈ kz_st := List.mem_of_getElem? (i := 14) rfl
theorem sl_Checker_197 : Cond.fieldLink "StackAssembler$Checker" 197 "StackAssembler$Op" "LOCAL_SET" "LStackAssembler$Op;" ∈ kz_TT ∨ ∃ host, Cond.fieldLinkNest "StackAssembler$Checker" 197 "StackAssembler$Op" "LOCAL_SET" "LStackAssembler$Op;" host ∈ kz_NT := Or.inl wt_913
theorem fl_Checker_139 : qz_fl "StackAssembler$Checker" 139 7 3 := ⟨_, rfl, by decide, Or.inl wt_1698⟩
theorem fl_Checker_142 : qz_fl "StackAssembler$Checker" 142 7 4 := ⟨_, rfl, by decide, Or.inl wt_1699⟩
theorem fl_Checker_145 : qz_fl "StackAssembler$Checker" 145 7 5 := ⟨_, rfl, by decide, Or.inl wt_1700⟩
theorem ln_Checker_101 : qz_ln "StackAssembler$Checker" 101 yd_Checker_beginFrame := Or.inl wt_854
theorem ln_Checker_105 : qz_ln "StackAssembler$Checker" 105 yd_Checker_restartFrame := Or.inl wt_873
theorem ln_Checker_108 : qz_ln "StackAssembler$Checker" 108 yd_Checker_leaveFrame := Or.inl wt_877
theorem ln_Checker_111 : qz_ln "StackAssembler$Checker" 111 yd_Checker_checkBranch := Or.inl wt_886
theorem ln_Checker_121 : qz_ln "StackAssembler$Checker" 121 yd_Checker_checkCall := Or.inl wt_896
theorem ln_Checker_129 : qz_ln "StackAssembler$Checker" 129 yd_Checker_checkSelect := Or.inl wt_902
theorem ln_Checker_132 : qz_ln "StackAssembler$Checker" 132 yd_Checker_checkSlot := Or.inl wt_906
theorem ln_Checker_135 : qz_ln "StackAssembler$Checker" 135 yd_Checker_checkSimple := Or.inl wt_915
theorem ou_Checker_96 : Cond.methodLink "StackAssembler$Checker" 96 ⟨"StackAssembler$Op", "ordinal", "()I"⟩ ∈ kz_TT ∧ Cond.sameMethod "StackAssembler$Op" "java/lang/Enum" "ordinal" "()I" ∈ kz_TT ∧ Cond.selects "StackAssembler$Op" ⟨"StackAssembler$Op", "ordinal", "()I"⟩ yd_Enum_ordinal.1 ∈ kz_TT ∧ Cond.instanceMethod yd_Enum_ordinal.1 ∈ kz_TT := ⟨wt_848, wt_849, wt_851, wt_852⟩
theorem sz_1__SwitchMap_StackAssembler_Op : ("StackAssembler$1", "$SwitchMap$StackAssembler$Op", "[I", 50, ((-33) : Int)) ∈ kz_st := List.mem_of_getElem? (i := 32) rfl
theorem sl_Checker_91 : Cond.fieldLink "StackAssembler$Checker" 91 "StackAssembler$1" "$SwitchMap$StackAssembler$Op" "[I" ∈ kz_TT ∨ ∃ host, Cond.fieldLinkNest "StackAssembler$Checker" 91 "StackAssembler$1" "$SwitchMap$StackAssembler$Op" "[I" host ∈ kz_NT := Or.inl wt_846
theorem ln_Checker_84 : qz_ln "StackAssembler$Checker" 84 yd_Checker_check := Or.inl wt_842
theorem fl_Checker_70 : qz_fl "StackAssembler$Checker" 70 4 5 := ⟨_, rfl, by decide, Or.inl wt_95⟩
theorem fl_Checker_73 : qz_fl "StackAssembler$Checker" 73 4 4 := ⟨_, rfl, by decide, Or.inl wt_89⟩
theorem fl_Checker_76 : qz_fl "StackAssembler$Checker" 76 6 1 := ⟨_, rfl, by decide, Or.inl wt_123⟩
theorem fl_Checker_80 : qz_fl "StackAssembler$Checker" 80 6 2 := ⟨_, rfl, by decide, Or.inl wt_129⟩
theorem fp_Checker_55_Checker_checkFunction : qz_fp yd_Checker_checkFunction 55 1 4 := ⟨_, rfl, by decide, Or.inl ⟨rfl, Or.inl wt_297⟩⟩
theorem fp_Checker_58_Checker_checkFunction : qz_fp yd_Checker_checkFunction 58 1 5 := ⟨_, rfl, by decide, Or.inl ⟨rfl, Or.inl wt_298⟩⟩
theorem ln_Checker_48 : qz_ln "StackAssembler$Checker" 48 yd_Checker_checkFunction := Or.inl wt_834
theorem fl_Checker_40 : qz_fl "StackAssembler$Checker" 40 6 3 := ⟨_, rfl, by decide, Or.inl wt_135⟩
theorem fl_Checker_52 : qz_fl "StackAssembler$Checker" 52 1 7 := ⟨_, rfl, by decide, Or.inl wt_300⟩
theorem fp_Checker_21_Checker_accepts : qz_fp yd_Checker_accepts 21 1 2 := ⟨_, rfl, by decide, Or.inl ⟨rfl, Or.inl wt_295⟩⟩
theorem fp_Checker_31_Checker_accepts : qz_fp yd_Checker_accepts 31 1 3 := ⟨_, rfl, by decide, Or.inl ⟨rfl, Or.inl wt_296⟩⟩
theorem fp_Checker_36_Checker_accepts : qz_fp yd_Checker_accepts 36 1 6 := ⟨_, rfl, by decide, Or.inl ⟨rfl, Or.inl wt_299⟩⟩
theorem fp_Checker_52_Checker_accepts : qz_fp yd_Checker_accepts 52 1 7 := ⟨_, rfl, by decide, Or.inl ⟨rfl, Or.inl wt_300⟩⟩
theorem fl_Function_25 : qz_fl "StackAssembler$Function" 25 4 4 := ⟨_, rfl, by decide, Or.inl wt_88⟩
theorem fl_Function_28 : qz_fl "StackAssembler$Function" 28 4 5 := ⟨_, rfl, by decide, Or.inl wt_94⟩
theorem fp_Function_15_Function_begin : qz_fp yd_Function_begin 15 4 1 := ⟨_, rfl, by decide, Or.inl ⟨rfl, Or.inl wt_73⟩⟩
theorem fp_Function_19_Function_begin : qz_fp yd_Function_begin 19 4 2 := ⟨_, rfl, by decide, Or.inl ⟨rfl, Or.inl wt_78⟩⟩
theorem fp_Function_22_Function_begin : qz_fp yd_Function_begin 22 4 3 := ⟨_, rfl, by decide, Or.inl ⟨rfl, Or.inl wt_82⟩⟩
theorem fp_Function_25_Function_begin : qz_fp yd_Function_begin 25 4 4 := ⟨_, rfl, by decide, Or.inl ⟨rfl, Or.inl wt_88⟩⟩
theorem fp_Function_28_Function_begin : qz_fp yd_Function_begin 28 4 5 := ⟨_, rfl, by decide, Or.inl ⟨rfl, Or.inl wt_94⟩⟩
theorem fp_Function_19_Function_addLocal : qz_fp yd_Function_addLocal 19 4 2 := ⟨_, rfl, by decide, Or.inl ⟨rfl, Or.inl wt_78⟩⟩
theorem ln_Function_33 : qz_ln "StackAssembler$Function" 33 yd_Function_addLocal := Or.inl wt_781
theorem fp_Function_15_Function_addParameter : qz_fp yd_Function_addParameter 15 4 1 := ⟨_, rfl, by decide, Or.inl ⟨rfl, Or.inl wt_73⟩⟩
theorem fl_Level_18 : qz_fl "StackAssembler$Level" 18 5 0 := ⟨_, rfl, by decide, Or.inl wt_196⟩
theorem fl_Level_22 : qz_fl "StackAssembler$Level" 22 5 1 := ⟨_, rfl, by decide, Or.inl wt_198⟩
theorem fl_Level_27 : qz_fl "StackAssembler$Level" 27 5 2 := ⟨_, rfl, by decide, Or.inl wt_200⟩
theorem fl_Level_30 : qz_fl "StackAssembler$Level" 30 5 4 := ⟨_, rfl, by decide, Or.inl wt_204⟩
theorem fp_Level_13_Level_begin : qz_fp yd_Level_begin 13 5 3 := ⟨_, rfl, by decide, Or.inl ⟨rfl, Or.inl wt_202⟩⟩
theorem fp_Level_18_Level_begin : qz_fp yd_Level_begin 18 5 0 := ⟨_, rfl, by decide, Or.inl ⟨rfl, Or.inl wt_196⟩⟩
theorem fp_Level_22_Level_begin : qz_fp yd_Level_begin 22 5 1 := ⟨_, rfl, by decide, Or.inl ⟨rfl, Or.inl wt_198⟩⟩
theorem fp_Level_27_Level_begin : qz_fp yd_Level_begin 27 5 2 := ⟨_, rfl, by decide, Or.inl ⟨rfl, Or.inl wt_200⟩⟩
theorem fp_Level_30_Level_begin : qz_fp yd_Level_begin 30 5 4 := ⟨_, rfl, by decide, Or.inl ⟨rfl, Or.inl wt_204⟩⟩
theorem fl_Module_36 : qz_fl "StackAssembler$Module" 36 6 4 := ⟨_, rfl, by decide, Or.inl wt_140⟩
theorem fp_Module_32_Module_clear : qz_fp yd_Module_clear 32 6 3 := ⟨_, rfl, by decide, Or.inl ⟨rfl, Or.inl wt_134⟩⟩
theorem fp_Module_36_Module_clear : qz_fp yd_Module_clear 36 6 4 := ⟨_, rfl, by decide, Or.inl ⟨rfl, Or.inl wt_140⟩⟩
theorem ln_Module_60 : qz_ln "StackAssembler$Module" 60 yd_Module_latest := Or.inl wt_720
theorem ln_Module_64 : qz_ln "StackAssembler$Module" 64 yd_Function_begin := Or.inl wt_721
theorem fp_Module_32_Module_addFunction : qz_fp yd_Module_addFunction 32 6 3 := ⟨_, rfl, by decide, Or.inl ⟨rfl, Or.inl wt_134⟩⟩
theorem fp_Module_36_Module_add : qz_fp yd_Module_add 36 6 4 := ⟨_, rfl, by decide, Or.inl ⟨rfl, Or.inl wt_140⟩⟩
theorem fp_Module_45_Module_add : qz_fp yd_Module_add 45 4 5 := ⟨_, rfl, by decide, Or.inl ⟨rfl, Or.inl wt_97⟩⟩
theorem fl_Op_126 : qz_fl "StackAssembler$Op" 126 7 2 := ⟨_, rfl, by decide, Or.inl wt_1696⟩
theorem ln_Op_138 : qz_ln "StackAssembler$Op" 138 yd_Op_opensBlock := Or.inl wt_737
theorem sz_Op_ELSE : ("StackAssembler$Op", "ELSE", "LStackAssembler$Op;", 17, ((-6) : Int)) ∈ kz_st := List.mem_of_getElem? (i := 5) rfl
theorem sl_Op_21 : Cond.fieldLink "StackAssembler$Op" 21 "StackAssembler$Op" "ELSE" "LStackAssembler$Op;" ∈ kz_TT ∨ ∃ host, Cond.fieldLinkNest "StackAssembler$Op" 21 "StackAssembler$Op" "ELSE" "LStackAssembler$Op;" host ∈ kz_NT := Or.inl wt_741
theorem sl_Op_24 : Cond.fieldLink "StackAssembler$Op" 24 "StackAssembler$Op" "END" "LStackAssembler$Op;" ∈ kz_TT ∨ ∃ host, Cond.fieldLinkNest "StackAssembler$Op" 24 "StackAssembler$Op" "END" "LStackAssembler$Op;" host ∈ kz_NT := Or.inl wt_743
theorem fl_java_lang_String_15 : qz_fl "java/lang/String" 15 13 1 := ⟨_, rfl, by decide, Or.inl wt_1694⟩
theorem sz_java_lang_String_COMPACT_STRINGS : ("java/lang/String", "COMPACT_STRINGS", "Z", 3, (1 : Int)) ∈ kz_st := List.mem_of_getElem? (i := 33) rfl
theorem sl_java_lang_String_38 : Cond.fieldLink "java/lang/String" 38 "java/lang/String" "COMPACT_STRINGS" "Z" ∈ kz_TT ∨ ∃ host, Cond.fieldLinkNest "java/lang/String" 38 "java/lang/String" "COMPACT_STRINGS" "Z" host ∈ kz_NT := Or.inl wt_588
theorem ln_java_lang_String_335 : qz_ln "java/lang/String" 335 yd_String_coder := Or.inl wt_584
theorem fl_java_lang_String_9 : qz_fl "java/lang/String" 9 13 0 := ⟨_, rfl, by decide, Or.inl wt_1693⟩
theorem ln_java_lang_String_1059 : qz_ln "java/lang/String" 1059 yd_Preconditions_checkIndex := Or.inl wt_606
theorem sl_java_lang_String_1053 : Cond.fieldLink "java/lang/String" 1053 "jdk/internal/util/Preconditions" "SIOOBE_FORMATTER" "Ljava/util/function/BiFunction;" ∈ kz_TT ∨ ∃ host, Cond.fieldLinkNest "java/lang/String" 1053 "jdk/internal/util/Preconditions" "SIOOBE_FORMATTER" "Ljava/util/function/BiFunction;" host ∈ kz_NT := Or.inl wt_604
theorem ln_java_lang_StringLatin1_9 : qz_ln "java/lang/StringLatin1" 9 yd_String_checkIndex := Or.inl wt_601
theorem ln_java_lang_String_495 : qz_ln "java/lang/String" 495 yd_StringLatin1_charAt := Or.inl wt_598
theorem ln_java_lang_String_492 : qz_ln "java/lang/String" 492 yd_String_isLatin1 := Or.inl wt_594
theorem ln_Text_19 : qz_ln "StackAssembler$Text" 19 yd_String_length := Or.inl wt_1034
theorem ln_Text_24 : qz_ln "StackAssembler$Text" 24 yd_String_charAt := Or.inl wt_1035
theorem ln_Printer_23 : qz_ln "StackAssembler$Printer" 23 yd_Text_addAll := Or.inl wt_1030
theorem ss_Printer_100 : ("StackAssembler$Printer", 100, "i32", ((-45) : Int)) ∈ kz_ss := List.mem_of_getElem? (i := 13) rfl
theorem ss_Printer_102 : ("StackAssembler$Printer", 102, "i64", ((-47) : Int)) ∈ kz_ss := List.mem_of_getElem? (i := 14) rfl
theorem ln_Printer_40 : qz_ln "StackAssembler$Printer" 40 yd_Text_add := Or.inl wt_1047
theorem ln_Printer_87 : qz_ln "StackAssembler$Printer" 87 yd_Function_hasSlot := Or.inl wt_1046
theorem ln_Printer_95 : qz_ln "StackAssembler$Printer" 95 yd_Printer_writeType := Or.inl wt_1048
theorem fl_Printer_91 : qz_fl "StackAssembler$Printer" 91 4 0 := ⟨_, rfl, by decide, Or.inl wt_69⟩
theorem ss_Printer_98 : ("StackAssembler$Printer", 98, "(result ", ((-61) : Int)) ∈ kz_ss := List.mem_of_getElem? (i := 15) rfl
theorem wc_Text_32 : Cond.constantLong "StackAssembler$Text" 32 (Int64.ofInt 10) ∈ kz_TT := by
  rw [show Int64.ofInt 10 = (10 : Int64) from by decide]
  exact wt_1069
theorem wc_Text_34 : Cond.constantLong "StackAssembler$Text" 34 (Int64.ofInt 48) ∈ kz_TT := by
  rw [show Int64.ofInt 48 = (48 : Int64) from by decide]
  exact wt_1070
theorem ma_Text_36 : Cond.methodLink "StackAssembler$Text" 36 Lib.MathLoose.abs_long.x ∈ kz_TT ∧ Cond.static Lib.MathLoose.abs_long.x ∈ kz_TT ∧ Cond.initialized "java/lang/Math" ∈ kz_TT ∧ Cond.code Lib.MathLoose.abs_long.x Lib.MathLoose.abs_long.code 2 (some .long) ∈ kz_TT := ⟨wt_1071, wt_1072, wt_11, wt_1073⟩
theorem ln_Printer_110 : qz_ln "StackAssembler$Printer" 110 yd_Op_awaitsOperand := Or.inl wt_1064
theorem ln_Printer_114 : qz_ln "StackAssembler$Printer" 114 yd_Text_addNumber := Or.inl wt_1065
theorem ln_Printer_118 : qz_ln "StackAssembler$Printer" 118 yd_Op_opensBlock := Or.inl wt_1074
theorem ln_Printer_60 : qz_ln "StackAssembler$Printer" 60 yd_Printer_writeResult := Or.inl wt_1054
theorem fl_Printer_104 : qz_fl "StackAssembler$Printer" 104 7 0 := ⟨_, rfl, by decide, Or.inl wt_1703⟩
theorem ln_Printer_53 : qz_ln "StackAssembler$Printer" 53 yd_Printer_writeSlots := Or.inl wt_1042
theorem ln_Printer_83 : qz_ln "StackAssembler$Printer" 83 yd_Printer_writeInstruction := Or.inl wt_1060
theorem fl_Printer_48 : qz_fl "StackAssembler$Printer" 48 4 1 := ⟨_, rfl, by decide, Or.inl wt_74⟩
theorem fl_Printer_57 : qz_fl "StackAssembler$Printer" 57 4 3 := ⟨_, rfl, by decide, Or.inl wt_84⟩
theorem fl_Printer_66 : qz_fl "StackAssembler$Printer" 66 4 2 := ⟨_, rfl, by decide, Or.inl wt_79⟩
theorem fl_Printer_69 : qz_fl "StackAssembler$Printer" 69 4 5 := ⟨_, rfl, by decide, Or.inl wt_96⟩
theorem fl_Printer_72 : qz_fl "StackAssembler$Printer" 72 4 4 := ⟨_, rfl, by decide, Or.inl wt_90⟩
theorem fl_Printer_75 : qz_fl "StackAssembler$Printer" 75 6 1 := ⟨_, rfl, by decide, Or.inl wt_124⟩
theorem fl_Printer_79 : qz_fl "StackAssembler$Printer" 79 6 2 := ⟨_, rfl, by decide, Or.inl wt_130⟩
theorem ss_Printer_44 : ("StackAssembler$Printer", 44, "(func", ((-57) : Int)) ∈ kz_ss := List.mem_of_getElem? (i := 11) rfl
theorem ss_Printer_46 : ("StackAssembler$Printer", 46, "(param", ((-59) : Int)) ∈ kz_ss := List.mem_of_getElem? (i := 12) rfl
theorem ss_Printer_64 : ("StackAssembler$Printer", 64, "(local", ((-63) : Int)) ∈ kz_ss := List.mem_of_getElem? (i := 16) rfl
theorem ln_Printer_36 : qz_ln "StackAssembler$Printer" 36 yd_Printer_writeFunction := Or.inl wt_1036
theorem fl_Printer_15 : qz_fl "StackAssembler$Printer" 15 11 1 := ⟨_, rfl, by decide, Or.inl wt_44⟩
theorem fl_Printer_27 : qz_fl "StackAssembler$Printer" 27 6 3 := ⟨_, rfl, by decide, Or.inl wt_136⟩
theorem fl_Printer_32 : qz_fl "StackAssembler$Printer" 32 6 0 := ⟨_, rfl, by decide, Or.inl wt_119⟩
theorem fp_Printer_15_Printer_write : qz_fp yd_Printer_write 15 11 1 := ⟨_, rfl, by decide, Or.inl ⟨rfl, Or.inl wt_44⟩⟩
theorem fp_Printer_9_Printer_write : qz_fp yd_Printer_write 9 8 0 := ⟨_, rfl, by decide, Or.inl ⟨rfl, Or.inl wt_343⟩⟩
theorem ss_Printer_21 : ("StackAssembler$Printer", 21, "(module", ((-55) : Int)) ∈ kz_ss := List.mem_of_getElem? (i := 10) rfl
theorem fl_Scanner_15 : qz_fl "StackAssembler$Scanner" 15 10 1 := ⟨_, rfl, by decide, Or.inl wt_168⟩
theorem fl_Scanner_19 : qz_fl "StackAssembler$Scanner" 19 10 2 := ⟨_, rfl, by decide, Or.inl wt_170⟩
theorem fl_Scanner_22 : qz_fl "StackAssembler$Scanner" 22 10 3 := ⟨_, rfl, by decide, Or.inl wt_172⟩
theorem fp_Scanner_15_Scanner_begin : qz_fp yd_Scanner_begin 15 10 1 := ⟨_, rfl, by decide, Or.inl ⟨rfl, Or.inl wt_168⟩⟩
theorem fp_Scanner_19_Scanner_begin : qz_fp yd_Scanner_begin 19 10 2 := ⟨_, rfl, by decide, Or.inl ⟨rfl, Or.inl wt_170⟩⟩
theorem fp_Scanner_22_Scanner_begin : qz_fp yd_Scanner_begin 22 10 3 := ⟨_, rfl, by decide, Or.inl ⟨rfl, Or.inl wt_172⟩⟩
theorem fp_Scanner_9_Scanner_begin : qz_fp yd_Scanner_begin 9 10 0 := ⟨_, rfl, by decide, Or.inl ⟨rfl, Or.inl wt_167⟩⟩
theorem ln_Scanner_29 : qz_ln "StackAssembler$Scanner" 29 yd_Text_at := Or.inl wt_554
theorem fl_Scanner_35 : qz_fl "StackAssembler$Scanner" 35 11 1 := ⟨_, rfl, by decide, Or.inl wt_46⟩
theorem ln_Scanner_56 : qz_ln "StackAssembler$Scanner" 56 yd_Scanner_behindLine := Or.inl wt_555
theorem ln_Scanner_59 : qz_ln "StackAssembler$Scanner" 59 yd_Scanner_behindComment := Or.inl wt_559
theorem ln_Scanner_53 : qz_ln "StackAssembler$Scanner" 53 yd_Scanner_behindGap := Or.inl wt_550
theorem ln_Scanner_38 : qz_ln "StackAssembler$Scanner" 38 yd_Scanner_isOfWord := Or.inl wt_563
theorem ln_Scanner_62 : qz_ln "StackAssembler$Scanner" 62 yd_String_length := Or.inl wt_580
theorem ln_Scanner_67 : qz_ln "StackAssembler$Scanner" 67 yd_String_charAt := Or.inl wt_590
theorem ln_Scanner_72 : qz_ln "StackAssembler$Scanner" 72 yd_Scanner_is := Or.inl wt_576
theorem fl_Scanner_84 : qz_fl "StackAssembler$Scanner" 84 7 0 := ⟨_, rfl, by decide, Or.inl wt_1692⟩
theorem sz_Op_ALL : ("StackAssembler$Op", "ALL", "[LStackAssembler$Op;", 56, ((-31) : Int)) ∈ kz_st := List.mem_of_getElem? (i := 30) rfl
theorem sl_Scanner_78 : Cond.fieldLink "StackAssembler$Scanner" 78 "StackAssembler$Op" "ALL" "[LStackAssembler$Op;" ∈ kz_TT ∨ ∃ host, Cond.fieldLinkNest "StackAssembler$Scanner" 78 "StackAssembler$Op" "ALL" "[LStackAssembler$Op;" host ∈ kz_NT := Or.inr ⟨_, wn_574⟩
theorem ln_Scanner_25 : qz_ln "StackAssembler$Scanner" 25 yd_Scanner_behindGaps := Or.inl wt_546
theorem ln_Scanner_42 : qz_ln "StackAssembler$Scanner" 42 yd_Scanner_behindWord := Or.inl wt_566
theorem ln_Scanner_45 : qz_ln "StackAssembler$Scanner" 45 yd_Scanner_findOp := Or.inl wt_570
theorem fl_Scanner_49 : qz_fl "StackAssembler$Scanner" 49 10 4 := ⟨_, rfl, by decide, Or.inl wt_173⟩
theorem fp_Scanner_15_Scanner_next : qz_fp yd_Scanner_next 15 10 1 := ⟨_, rfl, by decide, Or.inl ⟨rfl, Or.inl wt_168⟩⟩
theorem fp_Scanner_19_Scanner_next : qz_fp yd_Scanner_next 19 10 2 := ⟨_, rfl, by decide, Or.inl ⟨rfl, Or.inl wt_170⟩⟩
theorem fp_Scanner_22_Scanner_next : qz_fp yd_Scanner_next 22 10 3 := ⟨_, rfl, by decide, Or.inl ⟨rfl, Or.inl wt_172⟩⟩
theorem fp_Scanner_49_Scanner_next : qz_fp yd_Scanner_next 49 10 4 := ⟨_, rfl, by decide, Or.inl ⟨rfl, Or.inl wt_173⟩⟩
theorem ln_java_lang_Long_302 : qz_ln "java/lang/Long" 302 yd_Long_compare := Or.inl wt_659
theorem wc_java_lang_Long_168 : Cond.constantLong "java/lang/Long" 168 (Int64.ofInt (-9223372036854775808)) ∈ kz_TT := by
  rw [show Int64.ofInt (-9223372036854775808) = ((-9223372036854775808) : Int64) from by decide]
  exact wt_658
theorem ln_Scanner_94 : qz_ln "StackAssembler$Scanner" 94 yd_Long_compareUnsigned := Or.inl wt_655
theorem fl_Scanner_88 : qz_fl "StackAssembler$Scanner" 88 10 5 := ⟨_, rfl, by decide, Or.inl wt_175⟩
theorem wc_Scanner_100 : Cond.constantLong "StackAssembler$Scanner" 100 (Int64.ofInt 10) ∈ kz_TT := by
  rw [show Int64.ofInt 10 = (10 : Int64) from by decide]
  exact wt_662
theorem wc_Scanner_92 : Cond.constantLong "StackAssembler$Scanner" 92 (Int64.ofInt 1844674407370955161) ∈ kz_TT := by
  rw [show Int64.ofInt 1844674407370955161 = (1844674407370955161 : Int64) from by decide]
  exact wt_654
theorem fp_Scanner_88_Scanner_readDigits : qz_fp yd_Scanner_readDigits 88 10 5 := ⟨_, rfl, by decide, Or.inl ⟨rfl, Or.inl wt_175⟩⟩
theorem ln_Reader_285 : qz_ln "StackAssembler$Reader" 285 yd_Long_compareUnsigned := Or.inl wt_663
theorem ln_Reader_277 : qz_ln "StackAssembler$Reader" 277 yd_Scanner_readDigits := Or.inl wt_650
theorem ln_Reader_294 : qz_ln "StackAssembler$Reader" 294 yd_Scanner_beginsWith := Or.inl wt_646
theorem fl_Reader_262 : qz_fl "StackAssembler$Reader" 262 9 8 := ⟨_, rfl, by decide, Or.inl wt_225⟩
theorem fl_Reader_280 : qz_fl "StackAssembler$Reader" 280 10 5 := ⟨_, rfl, by decide, Or.inl wt_176⟩
theorem fl_Reader_63 : qz_fl "StackAssembler$Reader" 63 10 2 := ⟨_, rfl, by decide, Or.inl wt_171⟩
theorem fp_Reader_262_Reader_readNumber : qz_fp yd_Reader_readNumber 262 9 8 := ⟨_, rfl, by decide, Or.inl ⟨rfl, Or.inl wt_225⟩⟩
theorem ln_Reader_227 : qz_ln "StackAssembler$Reader" 227 yd_Scanner_same := Or.inl wt_679
theorem ln_Reader_244 : qz_ln "StackAssembler$Reader" 244 yd_Level_isBlock := Or.inl wt_675
theorem fl_Reader_187 : qz_fl "StackAssembler$Reader" 187 5 2 := ⟨_, rfl, by decide, Or.inl wt_201⟩
theorem fl_Reader_46 : qz_fl "StackAssembler$Reader" 46 9 5 := ⟨_, rfl, by decide, Or.inl wt_222⟩
theorem ln_Reader_190 : qz_ln "StackAssembler$Reader" 190 yd_Module_latest := Or.inl wt_687
theorem fl_Reader_194 : qz_fl "StackAssembler$Reader" 194 4 2 := ⟨_, rfl, by decide, Or.inl wt_81⟩
theorem ln_Reader_181 : qz_ln "StackAssembler$Reader" 181 yd_Scanner_isName := Or.inl wt_666
theorem ln_Reader_184 : qz_ln "StackAssembler$Reader" 184 yd_Reader_slotNamed := Or.inl wt_683
theorem ln_Reader_269 : qz_ln "StackAssembler$Reader" 269 yd_Reader_readNumber := Or.inl wt_642
theorem ln_Reader_291 : qz_ln "StackAssembler$Reader" 291 yd_Reader_labelNamed := Or.inl wt_671
theorem wc_Reader_265 : Cond.constantLong "StackAssembler$Reader" 265 (Int64.ofInt 2147483648) ∈ kz_TT := by
  rw [show Int64.ofInt 2147483648 = (2147483648 : Int64) from by decide]
  exact wt_640
theorem wc_Reader_267 : Cond.constantLong "StackAssembler$Reader" 267 (Int64.ofInt 4294967295) ∈ kz_TT := by
  rw [show Int64.ofInt 4294967295 = (4294967295 : Int64) from by decide]
  exact wt_641
theorem wc_Reader_273 : Cond.constantLong "StackAssembler$Reader" 273 (Int64.ofInt (-9223372036854775808)) ∈ kz_TT := by
  rw [show Int64.ofInt (-9223372036854775808) = ((-9223372036854775808) : Int64) from by decide]
  exact wt_664
theorem wc_Reader_275 : Cond.constantLong "StackAssembler$Reader" 275 (Int64.ofInt (-1)) ∈ kz_TT := by
  rw [show Int64.ofInt (-1) = ((-1) : Int64) from by decide]
  exact wt_665
theorem wc_Reader_283 : Cond.constantLong "StackAssembler$Reader" 283 (Int64.ofInt 4294967296) ∈ kz_TT := by
  rw [show Int64.ofInt 4294967296 = (4294967296 : Int64) from by decide]
  exact wt_670
theorem fp_Reader_262_Reader_readOperand : qz_fp yd_Reader_readOperand 262 9 8 := ⟨_, rfl, by decide, Or.inl ⟨rfl, Or.inl wt_225⟩⟩
theorem fl_Reader_214 : qz_fl "StackAssembler$Reader" 214 6 4 := ⟨_, rfl, by decide, Or.inl wt_141⟩
theorem fl_Reader_217 : qz_fl "StackAssembler$Reader" 217 6 2 := ⟨_, rfl, by decide, Or.inl wt_133⟩
theorem ln_Reader_210 : qz_ln "StackAssembler$Reader" 210 yd_Reader_setLatestOperand := Or.inl wt_688
theorem ln_Reader_259 : qz_ln "StackAssembler$Reader" 259 yd_Reader_readOperand := Or.inl wt_636
theorem fl_Reader_163 : qz_fl "StackAssembler$Reader" 163 5 3 := ⟨_, rfl, by decide, Or.inl wt_203⟩
theorem fl_Reader_166 : qz_fl "StackAssembler$Reader" 166 5 4 := ⟨_, rfl, by decide, Or.inl wt_205⟩
theorem fl_Reader_253 : qz_fl "StackAssembler$Reader" 253 6 1 := ⟨_, rfl, by decide, Or.inl wt_127⟩
theorem fl_Reader_257 : qz_fl "StackAssembler$Reader" 257 7 2 := ⟨_, rfl, by decide, Or.inl wt_1695⟩
theorem fl_Reader_53 : qz_fl "StackAssembler$Reader" 53 9 6 := ⟨_, rfl, by decide, Or.inl wt_223⟩
theorem fl_Reader_73 : qz_fl "StackAssembler$Reader" 73 10 1 := ⟨_, rfl, by decide, Or.inl wt_169⟩
theorem fl_Reader_83 : qz_fl "StackAssembler$Reader" 83 5 0 := ⟨_, rfl, by decide, Or.inl wt_197⟩
theorem fp_Reader_166_Reader_inOperand : qz_fp yd_Reader_inOperand 166 5 4 := ⟨_, rfl, by decide, Or.inl ⟨rfl, Or.inl wt_205⟩⟩
theorem fp_Reader_53_Reader_inOperand : qz_fp yd_Reader_inOperand 53 9 6 := ⟨_, rfl, by decide, Or.inl ⟨rfl, Or.inl wt_223⟩⟩
theorem ln_Reader_50 : qz_ln "StackAssembler$Reader" 50 yd_Level_begin := Or.inl wt_538
theorem fp_Reader_46_Reader_push : qz_fp yd_Reader_push 46 9 5 := ⟨_, rfl, by decide, Or.inl ⟨rfl, Or.inl wt_222⟩⟩
theorem ln_Reader_105 : qz_ln "StackAssembler$Reader" 105 yd_Reader_push := Or.inl wt_700
theorem ln_Reader_118 : qz_ln "StackAssembler$Reader" 118 yd_Reader_open := Or.inl wt_696
theorem fl_Reader_115 : qz_fl "StackAssembler$Reader" 115 5 1 := ⟨_, rfl, by decide, Or.inl wt_199⟩
theorem fp_Reader_115_Reader_inText : qz_fp yd_Reader_inText 115 5 1 := ⟨_, rfl, by decide, Or.inl ⟨rfl, Or.inl wt_199⟩⟩
theorem fl_Reader_235 : qz_fl "StackAssembler$Reader" 235 6 3 := ⟨_, rfl, by decide, Or.inl wt_139⟩
theorem ln_Reader_125 : qz_ln "StackAssembler$Reader" 125 yd_Scanner_is := Or.inl wt_710
theorem ln_Reader_141 : qz_ln "StackAssembler$Reader" 141 yd_Module_addFunction := Or.inl wt_716
theorem ln_Reader_145 : qz_ln "StackAssembler$Reader" 145 yd_Reader_setFunctionName := Or.inl wt_725
theorem fp_Reader_83_Reader_beginFunction : qz_fp yd_Reader_beginFunction 83 5 0 := ⟨_, rfl, by decide, Or.inl ⟨rfl, Or.inl wt_197⟩⟩
theorem ss_Reader_139 : ("StackAssembler$Reader", 139, "func", ((-37) : Int)) ∈ kz_ss := List.mem_of_getElem? (i := 1) rfl
theorem ln_Reader_158 : qz_ln "StackAssembler$Reader" 158 yd_Op_isPlain := Or.inl wt_733
theorem ln_Reader_164 : qz_ln "StackAssembler$Reader" 164 yd_Op_awaitsOperand := Or.inl wt_744
theorem fl_Reader_154 : qz_fl "StackAssembler$Reader" 154 10 4 := ⟨_, rfl, by decide, Or.inl wt_174⟩
theorem fp_Reader_163_Reader_beginFolded : qz_fp yd_Reader_beginFolded 163 5 3 := ⟨_, rfl, by decide, Or.inl ⟨rfl, Or.inl wt_203⟩⟩
theorem fp_Reader_53_Reader_beginFolded : qz_fp yd_Reader_beginFolded 53 9 6 := ⟨_, rfl, by decide, Or.inl ⟨rfl, Or.inl wt_223⟩⟩
theorem fp_Reader_83_Reader_beginFolded : qz_fp yd_Reader_beginFolded 83 5 0 := ⟨_, rfl, by decide, Or.inl ⟨rfl, Or.inl wt_197⟩⟩
theorem ln_Reader_132 : qz_ln "StackAssembler$Reader" 132 yd_Reader_beginFolded := Or.inl wt_729
theorem fp_Reader_115_Reader_beginPart : qz_fp yd_Reader_beginPart 115 5 1 := ⟨_, rfl, by decide, Or.inl ⟨rfl, Or.inl wt_199⟩⟩
theorem fp_Reader_83_Reader_beginPart : qz_fp yd_Reader_beginPart 83 5 0 := ⟨_, rfl, by decide, Or.inl ⟨rfl, Or.inl wt_197⟩⟩
theorem ss_Reader_148 : ("StackAssembler$Reader", 148, "param", ((-39) : Int)) ∈ kz_ss := List.mem_of_getElem? (i := 2) rfl
theorem ss_Reader_150 : ("StackAssembler$Reader", 150, "result", ((-41) : Int)) ∈ kz_ss := List.mem_of_getElem? (i := 3) rfl
theorem ss_Reader_152 : ("StackAssembler$Reader", 152, "local", ((-43) : Int)) ∈ kz_ss := List.mem_of_getElem? (i := 4) rfl
theorem ln_Reader_129 : qz_ln "StackAssembler$Reader" 129 yd_Reader_beginFunction := Or.inl wt_711
theorem ln_Reader_135 : qz_ln "StackAssembler$Reader" 135 yd_Reader_beginPart := Or.inl wt_748
theorem ma_Reader_109 : Cond.methodLink "StackAssembler$Reader" 109 Lib.Math.max.name ∈ kz_TT ∧ Cond.static Lib.Math.max.name ∈ kz_TT ∧ Cond.initialized "java/lang/Math" ∈ kz_TT ∧ Cond.code Lib.Math.max.name Lib.Math.max.code 2 (some .int) ∈ kz_TT := ⟨wt_708, wt_265, wt_11, wt_266⟩
theorem fp_Reader_83_Reader_behindOpening : qz_fp yd_Reader_behindOpening 83 5 0 := ⟨_, rfl, by decide, Or.inl ⟨rfl, Or.inl wt_197⟩⟩
theorem ss_Reader_124 : ("StackAssembler$Reader", 124, "module", ((-35) : Int)) ∈ kz_ss := List.mem_of_getElem? (i := 0) rfl
theorem fp_Reader_46_Reader_close : qz_fp yd_Reader_close 46 9 5 := ⟨_, rfl, by decide, Or.inl ⟨rfl, Or.inl wt_222⟩⟩
theorem ln_Reader_121 : qz_ln "StackAssembler$Reader" 121 yd_Reader_close := Or.inl wt_759
theorem ss_Scanner_70 : ("StackAssembler$Scanner", 70, "i32", ((-45) : Int)) ∈ kz_ss := List.mem_of_getElem? (i := 5) rfl
theorem ss_Scanner_76 : ("StackAssembler$Scanner", 76, "i64", ((-47) : Int)) ∈ kz_ss := List.mem_of_getElem? (i := 6) rfl
theorem ln_Reader_199 : qz_ln "StackAssembler$Reader" 199 yd_Function_addParameter := Or.inl wt_777
theorem ln_Reader_202 : qz_ln "StackAssembler$Reader" 202 yd_Function_addLocal := Or.inl wt_785
theorem ln_Reader_174 : qz_ln "StackAssembler$Reader" 174 yd_Scanner_valueType := Or.inl wt_767
theorem ln_Reader_177 : qz_ln "StackAssembler$Reader" 177 yd_Reader_declare := Or.inl wt_773
theorem fp_Reader_115_Reader_inDeclaration : qz_fp yd_Reader_inDeclaration 115 5 1 := ⟨_, rfl, by decide, Or.inl ⟨rfl, Or.inl wt_199⟩⟩
theorem fp_Reader_187_Reader_inDeclaration : qz_fp yd_Reader_inDeclaration 187 5 2 := ⟨_, rfl, by decide, Or.inl ⟨rfl, Or.inl wt_201⟩⟩
theorem fl_Reader_208 : qz_fl "StackAssembler$Reader" 208 4 3 := ⟨_, rfl, by decide, Or.inl wt_87⟩
theorem fp_Reader_208_Reader_setResult : qz_fp yd_Reader_setResult 208 4 3 := ⟨_, rfl, by decide, Or.inl ⟨rfl, Or.inl wt_87⟩⟩
theorem ln_Reader_205 : qz_ln "StackAssembler$Reader" 205 yd_Reader_setResult := Or.inl wt_790
theorem fp_Reader_115_Reader_inResult : qz_fp yd_Reader_inResult 115 5 1 := ⟨_, rfl, by decide, Or.inl ⟨rfl, Or.inl wt_199⟩⟩
theorem ln_Reader_170 : qz_ln "StackAssembler$Reader" 170 yd_Module_add := Or.inl wt_798
theorem ln_Reader_247 : qz_ln "StackAssembler$Reader" 247 yd_Op_opensBlock := Or.inl wt_812
theorem fl_Reader_57 : qz_fl "StackAssembler$Reader" 57 9 7 := ⟨_, rfl, by decide, Or.inl wt_224⟩
theorem fp_Reader_115_Reader_instructionIn : qz_fp yd_Reader_instructionIn 115 5 1 := ⟨_, rfl, by decide, Or.inl ⟨rfl, Or.inl wt_199⟩⟩
theorem fp_Reader_53_Reader_instructionIn : qz_fp yd_Reader_instructionIn 53 9 6 := ⟨_, rfl, by decide, Or.inl ⟨rfl, Or.inl wt_223⟩⟩
theorem fp_Reader_57_Reader_instructionIn : qz_fp yd_Reader_instructionIn 57 9 7 := ⟨_, rfl, by decide, Or.inl ⟨rfl, Or.inl wt_224⟩⟩
theorem fp_Reader_83_Reader_instructionIn : qz_fp yd_Reader_instructionIn 83 5 0 := ⟨_, rfl, by decide, Or.inl ⟨rfl, Or.inl wt_197⟩⟩
theorem sl_Reader_238 : Cond.fieldLink "StackAssembler$Reader" 238 "StackAssembler$Op" "ELSE" "LStackAssembler$Op;" ∈ kz_TT ∨ ∃ host, Cond.fieldLinkNest "StackAssembler$Reader" 238 "StackAssembler$Op" "ELSE" "LStackAssembler$Op;" host ∈ kz_NT := Or.inl wt_810
theorem sl_Reader_241 : Cond.fieldLink "StackAssembler$Reader" 241 "StackAssembler$Op" "END" "LStackAssembler$Op;" ∈ kz_TT ∨ ∃ host, Cond.fieldLinkNest "StackAssembler$Reader" 241 "StackAssembler$Op" "END" "LStackAssembler$Op;" host ∈ kz_NT := Or.inl wt_811
theorem sl_Reader_250 : Cond.fieldLink "StackAssembler$Reader" 250 "StackAssembler$Op" "IF" "LStackAssembler$Op;" ∈ kz_TT ∨ ∃ host, Cond.fieldLinkNest "StackAssembler$Reader" 250 "StackAssembler$Op" "IF" "LStackAssembler$Op;" host ∈ kz_NT := Or.inl wt_813
theorem ln_Reader_231 : qz_ln "StackAssembler$Reader" 231 yd_Reader_functionNamed := Or.inl wt_819
theorem fp_Reader_115_Reader_giveName : qz_fp yd_Reader_giveName 115 5 1 := ⟨_, rfl, by decide, Or.inl ⟨rfl, Or.inl wt_199⟩⟩
theorem fp_Reader_187_Reader_giveName : qz_fp yd_Reader_giveName 187 5 2 := ⟨_, rfl, by decide, Or.inl ⟨rfl, Or.inl wt_201⟩⟩
theorem ln_Reader_221 : qz_ln "StackAssembler$Reader" 221 yd_Reader_instructionIn := Or.inl wt_806
theorem ln_Reader_224 : qz_ln "StackAssembler$Reader" 224 yd_Reader_giveName := Or.inl wt_815
theorem fp_Reader_57_Reader_inBody : qz_fp yd_Reader_inBody 57 9 7 := ⟨_, rfl, by decide, Or.inl ⟨rfl, Or.inl wt_224⟩⟩
theorem ln_Reader_102 : qz_ln "StackAssembler$Reader" 102 yd_Reader_inBody := Or.inl wt_802
theorem ln_Reader_80 : qz_ln "StackAssembler$Reader" 80 yd_Reader_inOperand := Or.inl wt_632
theorem ln_Reader_84 : qz_ln "StackAssembler$Reader" 84 yd_Reader_inText := Or.inl wt_692
theorem ln_Reader_87 : qz_ln "StackAssembler$Reader" 87 yd_Reader_behindOpening := Or.inl wt_704
theorem ln_Reader_90 : qz_ln "StackAssembler$Reader" 90 yd_Reader_inModule := Or.inl wt_755
theorem ln_Reader_93 : qz_ln "StackAssembler$Reader" 93 yd_Reader_inDeclaration := Or.inl wt_763
theorem ln_Reader_96 : qz_ln "StackAssembler$Reader" 96 yd_Reader_inResult := Or.inl wt_786
theorem ln_Reader_99 : qz_ln "StackAssembler$Reader" 99 yd_Reader_inFolded := Or.inl wt_794
theorem fl_Reader_66 : qz_fl "StackAssembler$Reader" 66 9 9 := ⟨_, rfl, by decide, Or.inl wt_226⟩
theorem ma_Reader_301 : Cond.methodLink "StackAssembler$Reader" 301 Lib.Math.min.name ∈ kz_TT ∧ Cond.static Lib.Math.min.name ∈ kz_TT ∧ Cond.initialized "java/lang/Math" ∈ kz_TT ∧ Cond.code Lib.Math.min.name Lib.Math.min.code 2 (some .int) ∈ kz_TT := ⟨wt_829, wt_262, wt_11, wt_263⟩
theorem fp_Reader_66_Reader_findFunctions : qz_fp yd_Reader_findFunctions 66 9 9 := ⟨_, rfl, by decide, Or.inl ⟨rfl, Or.inl wt_226⟩⟩
theorem sz_Op_CALL : ("StackAssembler$Op", "CALL", "LStackAssembler$Op;", 17, ((-11) : Int)) ∈ kz_st := List.mem_of_getElem? (i := 10) rfl
theorem sl_Reader_298 : Cond.fieldLink "StackAssembler$Reader" 298 "StackAssembler$Op" "CALL" "LStackAssembler$Op;" ∈ kz_TT ∨ ∃ host, Cond.fieldLinkNest "StackAssembler$Reader" 298 "StackAssembler$Op" "CALL" "LStackAssembler$Op;" host ∈ kz_NT := Or.inl wt_827
theorem ln_Reader_38 : qz_ln "StackAssembler$Reader" 38 yd_Scanner_begin := Or.inl wt_530
theorem ln_Reader_41 : qz_ln "StackAssembler$Reader" 41 yd_Module_clear := Or.inl wt_534
theorem ln_Reader_60 : qz_ln "StackAssembler$Reader" 60 yd_Scanner_next := Or.inl wt_542
theorem ln_Reader_69 : qz_ln "StackAssembler$Reader" 69 yd_Reader_judge := Or.inl wt_628
theorem ln_Reader_76 : qz_ln "StackAssembler$Reader" 76 yd_Reader_findFunctions := Or.inl wt_823
theorem fp_Reader_24_Reader_read : qz_fp yd_Reader_read 24 9 4 := ⟨_, rfl, by decide, Or.inl ⟨rfl, Or.inl wt_221⟩⟩
theorem fp_Reader_46_Reader_read : qz_fp yd_Reader_read 46 9 5 := ⟨_, rfl, by decide, Or.inl ⟨rfl, Or.inl wt_222⟩⟩
theorem fp_Reader_53_Reader_read : qz_fp yd_Reader_read 53 9 6 := ⟨_, rfl, by decide, Or.inl ⟨rfl, Or.inl wt_223⟩⟩
theorem fp_Reader_57_Reader_read : qz_fp yd_Reader_read 57 9 7 := ⟨_, rfl, by decide, Or.inl ⟨rfl, Or.inl wt_224⟩⟩
theorem fp_Reader_66_Reader_read : qz_fp yd_Reader_read 66 9 9 := ⟨_, rfl, by decide, Or.inl ⟨rfl, Or.inl wt_226⟩⟩
end
section
def fn_Text_init (l0 : Int) (h : qz_H) : Option qz_R :=
  qz_mk h 42 320 fun h1 q2 =>
  qz_ck ((0 : Int) < l0) <|
  qz_bn (qz_up h1 l0 0 q2) fun h3 =>
  some (0, h3)
def bk_Text_init_0 : List (Instr × Nat) := [(.aload_n 0, 1), (.invokespecial 3, 3), (.aload_n 0, 1), (.sipush 320, 3), (.newarray .char, 2), (.putfield 9, 3), (.return_, 1)]
theorem ca_Text_init_0 : qz_ca yd_Text_init.2.1 0 bk_Text_init_0 := qz_cab_ok _ _ (by decide +kernel)
set_option maxRecDepth 20000 in
theorem cn_Text_init (l0 : Int) (h : qz_H) : qz_C yd_Text_init [qz_r true 11 l0] h (fn_Text_init l0 h) := by
  refine qz_con (is := bk_Text_init_0) (ls := [qz_r true 11 l0]) mw_Text_init.2.2.2 ca_Text_init_0 rfl rfl fun G => ?_
  unfold fn_Text_init bk_Text_init_0; exact
    qz_aload_n rfl <|
    qz_objI oi_Text_3 rfl <|
    qz_aload_n rfl <|
    qz_sipush rfl <|
    qz_newa (N := 320) rfl rfl (by decide) rfl rfl rfl (by decide) wa_char rfl fun h1 q2 =>
    qz_putR (k1 := 42) kw_11 fp_Text_9_Text_init rfl rfl fun h3 =>
    qz_return ⟨rfl, rfl⟩ rfl
def fn_Function_init (l0 : Int) (h : qz_H) : Option qz_R :=
  qz_mk h 40 8 fun h1 q2 =>
  qz_ck ((0 : Int) < l0) <|
  qz_bn (qz_up h1 l0 0 q2) fun h3 =>
  some (0, h3)
def bk_Function_init_0 : List (Instr × Nat) := [(.aload_n 0, 1), (.invokespecial 3, 3), (.aload_n 0, 1), (.bipush 8, 2), (.newarray .int, 2), (.putfield 9, 3), (.return_, 1)]
theorem ca_Function_init_0 : qz_ca yd_Function_init.2.1 0 bk_Function_init_0 := qz_cab_ok _ _ (by decide +kernel)
set_option maxRecDepth 20000 in
theorem cn_Function_init (l0 : Int) (h : qz_H) : qz_C yd_Function_init [qz_r true 4 l0] h (fn_Function_init l0 h) := by
  refine qz_con (is := bk_Function_init_0) (ls := [qz_r true 4 l0]) mw_Function_init.2.2.2 ca_Function_init_0 rfl rfl fun G => ?_
  unfold fn_Function_init bk_Function_init_0; exact
    qz_aload_n rfl <|
    qz_objI oi_Function_3 rfl <|
    qz_aload_n rfl <|
    qz_bipush rfl <|
    qz_newa (N := 8) rfl rfl (by decide) rfl rfl rfl (by decide) wa_int rfl fun h1 q2 =>
    qz_putR (k1 := 40) kw_4 fp_Function_9_Function_init rfl rfl fun h3 =>
    qz_return ⟨rfl, rfl⟩ rfl
def fn_Module_init_57_b (k57 : Int → Int → qz_H → Option qz_R) (l0 : Int) (l1 : Int) (h : qz_H) : Option qz_R :=
  if 64 ≤ l1 then
    some (0, h)
  else
    qz_ck ((h l0 1 : Int) ≠ 0) <|
    qz_ck (0 < h l0 1 ∧ (0 : Int) ≤ l1 ∧ l1 < h (h l0 1) (-1)) <|
    qz_bn (qz_up h (h l0 1) l1 (-2)) fun h1 =>
    qz_bn (qz_w (l1 + 1)) fun x2 =>
    k57 l0 x2 h1
def fn_Module_init_57 : Nat → Int → Int → qz_H → Option qz_R
  | 0, _, _, _ => none
  | n + 1, l0, l1, h => fn_Module_init_57_b (fn_Module_init_57 n) l0 l1 h
def fn_Module_init (l0 : Int) (h : qz_H) : Option qz_R :=
  qz_mk h 45 4 fun h1 q2 =>
  qz_ck ((0 : Int) < l0) <|
  qz_bn (qz_up h1 l0 0 q2) fun h3 =>
  qz_mk h3 46 64 fun h4 q5 =>
  qz_ck ((0 : Int) < l0) <|
  qz_bn (qz_up h4 l0 1 q5) fun h6 =>
  qz_mk h6 41 64 fun h7 q8 =>
  qz_ck ((0 : Int) < l0) <|
  qz_bn (qz_up h7 l0 2 q8) fun h9 =>
  qz_mk h9 4 0 fun h10 q11 =>
  qz_bc (fn_Function_init q11 h10) fun _ h13 =>
  qz_ck ((h9 l0 0 : Int) ≠ 0) <|
  qz_ck (0 < h9 l0 0 ∧ (0 : Int) ≤ 0 ∧ 0 < h13 (h9 l0 0) (-1)) <|
  qz_bn (qz_up h13 (h9 l0 0) 0 q11) fun h14 =>
  qz_mk h14 4 0 fun h15 q16 =>
  qz_bc (fn_Function_init q16 h15) fun _ h18 =>
  qz_ck ((h14 l0 0 : Int) ≠ 0) <|
  qz_ck (0 < h14 l0 0 ∧ (0 : Int) ≤ 1 ∧ 1 < h18 (h14 l0 0) (-1)) <|
  qz_bn (qz_up h18 (h14 l0 0) 1 q16) fun h19 =>
  qz_mk h19 4 0 fun h20 q21 =>
  qz_bc (fn_Function_init q21 h20) fun _ h23 =>
  qz_ck ((h19 l0 0 : Int) ≠ 0) <|
  qz_ck (0 < h19 l0 0 ∧ (0 : Int) ≤ 2 ∧ 2 < h23 (h19 l0 0) (-1)) <|
  qz_bn (qz_up h23 (h19 l0 0) 2 q21) fun h24 =>
  qz_mk h24 4 0 fun h25 q26 =>
  qz_bc (fn_Function_init q26 h25) fun _ h28 =>
  qz_ck ((h24 l0 0 : Int) ≠ 0) <|
  qz_ck (0 < h24 l0 0 ∧ (0 : Int) ≤ 3 ∧ 3 < h28 (h24 l0 0) (-1)) <|
  qz_bn (qz_up h28 (h24 l0 0) 3 q26) fun h29 =>
  fn_Module_init_57 qz_NF l0 0 h29
def bk_Module_init_0 : List (Instr × Nat) := [(.aload_n 0, 1), (.invokespecial 3, 3), (.aload_n 0, 1), (.iconst 4, 1), (.anewarray 9, 3), (.putfield 11, 3), (.aload_n 0, 1), (.bipush 64, 2), (.anewarray 17, 3), (.putfield 19, 3), (.aload_n 0, 1), (.bipush 64, 2), (.newarray .long, 2), (.putfield 23, 3), (.iconst 0, 1), (.istore_n 1, 1)]
def bk_Module_init_31 : List (Instr × Nat) := [(.iload_n 1, 1), (.iconst 4, 1), (.if_icmp .ge 22, 3), (.aload_n 0, 1), (.getfield 11, 3), (.iload_n 1, 1), (.new 9, 3), (.dup, 1), (.invokespecial 27, 3), (.aastore, 1), (.iinc 1 1, 3), (.goto (-21), 3)]
def bk_Module_init_55 : List (Instr × Nat) := [(.iconst 0, 1), (.istore_n 1, 1)]
def bk_Module_init_57 : List (Instr × Nat) := [(.iload_n 1, 1), (.bipush 64, 2), (.if_icmp .ge 18, 3), (.aload_n 0, 1), (.getfield 19, 3), (.iload_n 1, 1), (.getstatic 28, 3), (.aastore, 1), (.iinc 1 1, 3), (.goto (-18), 3)]
def bk_Module_init_78 : List (Instr × Nat) := [(.return_, 1)]
theorem ca_Module_init_0 : qz_ca yd_Module_init.2.1 0 bk_Module_init_0 := qz_cab_ok _ _ (by decide +kernel)
theorem ca_Module_init_31 : qz_ca yd_Module_init.2.1 31 bk_Module_init_31 := qz_cab_ok _ _ (by decide +kernel)
theorem ca_Module_init_55 : qz_ca yd_Module_init.2.1 55 bk_Module_init_55 := qz_cab_ok _ _ (by decide +kernel)
theorem ca_Module_init_57 : qz_ca yd_Module_init.2.1 57 bk_Module_init_57 := qz_cab_ok _ _ (by decide +kernel)
theorem ca_Module_init_78 : qz_ca yd_Module_init.2.1 78 bk_Module_init_78 := qz_cab_ok _ _ (by decide +kernel)
set_option maxRecDepth 20000 in
theorem jb_Module_init_57_b (G : qz_G) (k57 : Int → Int → qz_H → Option qz_R) (jk57 : ∀ (l0 : Int) (l1 : Int) (h : qz_H), qz_J yd_Module_init G bk_Module_init_57 57 [qz_r true 6 l0, qz_i l1] [] h 11 188 (k57 l0 l1 h)) (l0 : Int) (l1 : Int) (h : qz_H) : qz_J yd_Module_init G bk_Module_init_57 57 [qz_r true 6 l0, qz_i l1] [] h 11 188 (fn_Module_init_57_b k57 l0 l1 h) := by
  unfold fn_Module_init_57_b bk_Module_init_57; exact
    qz_iload_n rfl <|
    qz_bipush rfl <|
    qz_icmp_ge rfl ca_Module_init_78
      (qz_return ⟨rfl, rfl⟩ rfl)
      (qz_aload_n rfl <|
        qz_getR (k1 := 46) kg_6 fl_Module_19 rfl rfl <|
        qz_iload_n rfl <|
        qz_getsR sz_Op_NOP sl_Module_28 rfl <|
        qz_nnd 2 rfl <|
        qz_aast (k0 := 46) (k1 := 7) rfl rfl rfl (by decide) ⟨_, rfl, rfl, by decide⟩ fun h1 =>
        qz_iinc rfl (by decide) fun x2 =>
        qz_goto rfl ca_Module_init_57 <|
        qz_fgt [1, 1] <| jk57 l0 x2 h1)
theorem jb_Module_init_57 (G : qz_G) : ∀ (n : Nat) (l0 l1 : Int) (h : qz_H), qz_J yd_Module_init G bk_Module_init_57 57 [qz_r true 6 l0, qz_i l1] [] h 11 188 (fn_Module_init_57 n l0 l1 h)
  | 0, _, _, _ => qz_none
  | n + 1, l0, l1, h => jb_Module_init_57_b G (fn_Module_init_57 n) (jb_Module_init_57 G n) l0 l1 h
set_option maxRecDepth 20000 in
theorem cn_Module_init (l0 : Int) (h : qz_H) : qz_C yd_Module_init [qz_r true 6 l0] h (fn_Module_init l0 h) := by
  refine qz_con (is := bk_Module_init_0) (ls := [qz_r true 6 l0, qz_u]) mw_Module_init.2.2.2 ca_Module_init_0 rfl rfl fun G => ?_
  unfold fn_Module_init bk_Module_init_0; exact
    qz_aload_n rfl <|
    qz_objI oi_Module_3 rfl <|
    qz_aload_n rfl <|
    qz_iconst rfl <|
    qz_anew (N := 4) rfl rfl (by decide) rfl rfl rfl an_Module_9 rfl fun h1 q2 =>
    qz_putR (k1 := 45) kw_6 fp_Module_11_Module_init rfl rfl fun h3 =>
    qz_aload_n rfl <|
    qz_bipush rfl <|
    qz_anew (N := 64) rfl rfl (by decide) rfl rfl rfl an_Module_17 rfl fun h4 q5 =>
    qz_putR (k1 := 46) kw_6 fp_Module_19_Module_init rfl rfl fun h6 =>
    qz_aload_n rfl <|
    qz_bipush rfl <|
    qz_newa (N := 64) rfl rfl (by decide) rfl rfl rfl (by decide) wa_long rfl fun h7 q8 =>
    qz_putR (k1 := 41) kw_6 fp_Module_23_Module_init rfl rfl fun h9 =>
    qz_iconst rfl <|
    qz_istore_nC (by decide) <|
    qz_fall rfl ca_Module_init_31 <|
    qz_iload_n rfl <|
    qz_iconst rfl <|
    qz_eqt (if_neg (by decide)) <| qz_icmp_ge rfl ca_Module_init_55 (t1 := none) qz_none <|
    qz_aload_n rfl <|
    qz_getR (k1 := 45) kg_6 fl_Module_11 rfl rfl <|
    qz_iload_n rfl <|
    qz_new kw_4 rfl nw_Module_9 rfl fun h10 q11 =>
    qz_dup rfl <|
    qz_inviV [] rfl (cn_Function_init q11 h10) mw_Function_init vi_Function_init rfl rfl ln_Module_27 rfl fun _ h13 =>
    qz_nnd 2 rfl <|
    qz_aast (k0 := 45) (k1 := 4) rfl rfl rfl (by decide) ⟨_, rfl, rfl, by decide⟩ fun h14 =>
    qz_iincC (i := 1) rfl (by decide) (y := 1) rfl <|
    qz_nl [qz_r true 6 l0, qz_i 1] rfl <|
    qz_goto rfl ca_Module_init_31 <|
    qz_iload_n rfl <|
    qz_iconst rfl <|
    qz_eqt (if_neg (by decide)) <| qz_icmp_ge rfl ca_Module_init_55 (t1 := none) qz_none <|
    qz_aload_n rfl <|
    qz_getR (k1 := 45) kg_6 fl_Module_11 rfl rfl <|
    qz_iload_n rfl <|
    qz_new kw_4 rfl nw_Module_9 rfl fun h15 q16 =>
    qz_dup rfl <|
    qz_inviV [] rfl (cn_Function_init q16 h15) mw_Function_init vi_Function_init rfl rfl ln_Module_27 rfl fun _ h18 =>
    qz_nnd 2 rfl <|
    qz_aast (k0 := 45) (k1 := 4) rfl rfl rfl (by decide) ⟨_, rfl, rfl, by decide⟩ fun h19 =>
    qz_iincC (i := 1) rfl (by decide) (y := 2) rfl <|
    qz_nl [qz_r true 6 l0, qz_i 2] rfl <|
    qz_goto rfl ca_Module_init_31 <|
    qz_iload_n rfl <|
    qz_iconst rfl <|
    qz_eqt (if_neg (by decide)) <| qz_icmp_ge rfl ca_Module_init_55 (t1 := none) qz_none <|
    qz_aload_n rfl <|
    qz_getR (k1 := 45) kg_6 fl_Module_11 rfl rfl <|
    qz_iload_n rfl <|
    qz_new kw_4 rfl nw_Module_9 rfl fun h20 q21 =>
    qz_dup rfl <|
    qz_inviV [] rfl (cn_Function_init q21 h20) mw_Function_init vi_Function_init rfl rfl ln_Module_27 rfl fun _ h23 =>
    qz_nnd 2 rfl <|
    qz_aast (k0 := 45) (k1 := 4) rfl rfl rfl (by decide) ⟨_, rfl, rfl, by decide⟩ fun h24 =>
    qz_iincC (i := 1) rfl (by decide) (y := 3) rfl <|
    qz_nl [qz_r true 6 l0, qz_i 3] rfl <|
    qz_goto rfl ca_Module_init_31 <|
    qz_iload_n rfl <|
    qz_iconst rfl <|
    qz_eqt (if_neg (by decide)) <| qz_icmp_ge rfl ca_Module_init_55 (t1 := none) qz_none <|
    qz_aload_n rfl <|
    qz_getR (k1 := 45) kg_6 fl_Module_11 rfl rfl <|
    qz_iload_n rfl <|
    qz_new kw_4 rfl nw_Module_9 rfl fun h25 q26 =>
    qz_dup rfl <|
    qz_inviV [] rfl (cn_Function_init q26 h25) mw_Function_init vi_Function_init rfl rfl ln_Module_27 rfl fun _ h28 =>
    qz_nnd 2 rfl <|
    qz_aast (k0 := 45) (k1 := 4) rfl rfl rfl (by decide) ⟨_, rfl, rfl, by decide⟩ fun h29 =>
    qz_iincC (i := 1) rfl (by decide) (y := 4) rfl <|
    qz_nl [qz_r true 6 l0, qz_i 4] rfl <|
    qz_goto rfl ca_Module_init_31 <|
    qz_iload_n rfl <|
    qz_iconst rfl <|
    qz_eqt (if_pos (by decide)) <| qz_icmp_ge rfl ca_Module_init_55 (t2 := none) (kf := qz_none) <|
    qz_iconst rfl <|
    qz_istore_nC (by decide) <|
    qz_fall rfl ca_Module_init_57 <|
    qz_fgt [1, 1] <| jb_Module_init_57 G qz_NF l0 0 h29
def fn_Scanner_init (l0 : Int) (l1 : Int) (h : qz_H) : Option qz_R :=
  qz_ck ((0 : Int) < l0) <|
  qz_bn (qz_up h l0 0 l1) fun h1 =>
  some (0, h1)
def bk_Scanner_init_0 : List (Instr × Nat) := [(.aload_n 0, 1), (.invokespecial 3, 3), (.aload_n 0, 1), (.aload_n 1, 1), (.putfield 9, 3), (.return_, 1)]
theorem ca_Scanner_init_0 : qz_ca yd_Scanner_init.2.1 0 bk_Scanner_init_0 := qz_cab_ok _ _ (by decide +kernel)
set_option maxRecDepth 20000 in
theorem cn_Scanner_init (l0 : Int) (l1 : Int) (h : qz_H) : qz_C yd_Scanner_init [qz_r true 10 l0, qz_r false 11 l1] h (fn_Scanner_init l0 l1 h) := by
  refine qz_con (is := bk_Scanner_init_0) (ls := [qz_r true 10 l0, qz_r false 11 l1]) mw_Scanner_init.2.2.2 ca_Scanner_init_0 rfl rfl fun G => ?_
  unfold fn_Scanner_init bk_Scanner_init_0; exact
    qz_aload_n rfl <|
    qz_objI oi_Scanner_3 rfl <|
    qz_aload_n rfl <|
    qz_aload_n rfl <|
    qz_putR (k1 := 11) kw_10 fp_Scanner_9_Scanner_init rfl rfl fun h1 =>
    qz_return ⟨rfl, rfl⟩ rfl
def fn_Level_init (l0 : Int) (h : qz_H) : Option qz_R :=
  qz_ck ((0 : Int) < l0) <|
  qz_bn (qz_up h l0 3 (-2)) fun h1 =>
  some (0, h1)
def bk_Level_init_0 : List (Instr × Nat) := [(.aload_n 0, 1), (.invokespecial 1, 3), (.aload_n 0, 1), (.getstatic 7, 3), (.putfield 13, 3), (.return_, 1)]
theorem ca_Level_init_0 : qz_ca yd_Level_init.2.1 0 bk_Level_init_0 := qz_cab_ok _ _ (by decide +kernel)
set_option maxRecDepth 20000 in
theorem cn_Level_init (l0 : Int) (h : qz_H) : qz_C yd_Level_init [qz_r true 5 l0] h (fn_Level_init l0 h) := by
  refine qz_con (is := bk_Level_init_0) (ls := [qz_r true 5 l0]) mw_Level_init.2.2.2 ca_Level_init_0 rfl rfl fun G => ?_
  unfold fn_Level_init bk_Level_init_0; exact
    qz_aload_n rfl <|
    qz_objI oi_Level_1 rfl <|
    qz_aload_n rfl <|
    qz_getsR sz_Op_NOP sl_Level_7 rfl <|
    qz_putR (k1 := 7) kw_5 fp_Level_13_Level_init rfl rfl fun h1 =>
    qz_return ⟨rfl, rfl⟩ rfl
def fn_Reader_init (l0 : Int) (l1 : Int) (l2 : Int) (h : qz_H) : Option qz_R :=
  qz_mk h 47 13 fun h1 q2 =>
  qz_ck ((0 : Int) < l0) <|
  qz_bn (qz_up h1 l0 1 q2) fun h3 =>
  qz_mk h3 40 4 fun h4 q5 =>
  qz_ck ((0 : Int) < l0) <|
  qz_bn (qz_up h4 l0 2 q5) fun h6 =>
  qz_mk h6 40 8 fun h7 q8 =>
  qz_ck ((0 : Int) < l0) <|
  qz_bn (qz_up h7 l0 3 q8) fun h9 =>
  qz_ck ((0 : Int) < l0) <|
  qz_bn (qz_up h9 l0 4 l2) fun h10 =>
  qz_mk h10 10 0 fun h11 q12 =>
  qz_bc (fn_Scanner_init q12 l1 h11) fun _ h14 =>
  qz_ck ((0 : Int) < l0) <|
  qz_bn (qz_up h14 l0 0 q12) fun h15 =>
  qz_mk h15 5 0 fun h16 q17 =>
  qz_bc (fn_Level_init q17 h16) fun _ h19 =>
  qz_ck ((h15 l0 1 : Int) ≠ 0) <|
  qz_ck (0 < h15 l0 1 ∧ (0 : Int) ≤ 0 ∧ 0 < h19 (h15 l0 1) (-1)) <|
  qz_bn (qz_up h19 (h15 l0 1) 0 q17) fun h20 =>
  qz_mk h20 5 0 fun h21 q22 =>
  qz_bc (fn_Level_init q22 h21) fun _ h24 =>
  qz_ck ((h20 l0 1 : Int) ≠ 0) <|
  qz_ck (0 < h20 l0 1 ∧ (0 : Int) ≤ 1 ∧ 1 < h24 (h20 l0 1) (-1)) <|
  qz_bn (qz_up h24 (h20 l0 1) 1 q22) fun h25 =>
  qz_mk h25 5 0 fun h26 q27 =>
  qz_bc (fn_Level_init q27 h26) fun _ h29 =>
  qz_ck ((h25 l0 1 : Int) ≠ 0) <|
  qz_ck (0 < h25 l0 1 ∧ (0 : Int) ≤ 2 ∧ 2 < h29 (h25 l0 1) (-1)) <|
  qz_bn (qz_up h29 (h25 l0 1) 2 q27) fun h30 =>
  qz_mk h30 5 0 fun h31 q32 =>
  qz_bc (fn_Level_init q32 h31) fun _ h34 =>
  qz_ck ((h30 l0 1 : Int) ≠ 0) <|
  qz_ck (0 < h30 l0 1 ∧ (0 : Int) ≤ 3 ∧ 3 < h34 (h30 l0 1) (-1)) <|
  qz_bn (qz_up h34 (h30 l0 1) 3 q32) fun h35 =>
  qz_mk h35 5 0 fun h36 q37 =>
  qz_bc (fn_Level_init q37 h36) fun _ h39 =>
  qz_ck ((h35 l0 1 : Int) ≠ 0) <|
  qz_ck (0 < h35 l0 1 ∧ (0 : Int) ≤ 4 ∧ 4 < h39 (h35 l0 1) (-1)) <|
  qz_bn (qz_up h39 (h35 l0 1) 4 q37) fun h40 =>
  qz_mk h40 5 0 fun h41 q42 =>
  qz_bc (fn_Level_init q42 h41) fun _ h44 =>
  qz_ck ((h40 l0 1 : Int) ≠ 0) <|
  qz_ck (0 < h40 l0 1 ∧ (0 : Int) ≤ 5 ∧ 5 < h44 (h40 l0 1) (-1)) <|
  qz_bn (qz_up h44 (h40 l0 1) 5 q42) fun h45 =>
  qz_mk h45 5 0 fun h46 q47 =>
  qz_bc (fn_Level_init q47 h46) fun _ h49 =>
  qz_ck ((h45 l0 1 : Int) ≠ 0) <|
  qz_ck (0 < h45 l0 1 ∧ (0 : Int) ≤ 6 ∧ 6 < h49 (h45 l0 1) (-1)) <|
  qz_bn (qz_up h49 (h45 l0 1) 6 q47) fun h50 =>
  qz_mk h50 5 0 fun h51 q52 =>
  qz_bc (fn_Level_init q52 h51) fun _ h54 =>
  qz_ck ((h50 l0 1 : Int) ≠ 0) <|
  qz_ck (0 < h50 l0 1 ∧ (0 : Int) ≤ 7 ∧ 7 < h54 (h50 l0 1) (-1)) <|
  qz_bn (qz_up h54 (h50 l0 1) 7 q52) fun h55 =>
  qz_mk h55 5 0 fun h56 q57 =>
  qz_bc (fn_Level_init q57 h56) fun _ h59 =>
  qz_ck ((h55 l0 1 : Int) ≠ 0) <|
  qz_ck (0 < h55 l0 1 ∧ (0 : Int) ≤ 8 ∧ 8 < h59 (h55 l0 1) (-1)) <|
  qz_bn (qz_up h59 (h55 l0 1) 8 q57) fun h60 =>
  qz_mk h60 5 0 fun h61 q62 =>
  qz_bc (fn_Level_init q62 h61) fun _ h64 =>
  qz_ck ((h60 l0 1 : Int) ≠ 0) <|
  qz_ck (0 < h60 l0 1 ∧ (0 : Int) ≤ 9 ∧ 9 < h64 (h60 l0 1) (-1)) <|
  qz_bn (qz_up h64 (h60 l0 1) 9 q62) fun h65 =>
  qz_mk h65 5 0 fun h66 q67 =>
  qz_bc (fn_Level_init q67 h66) fun _ h69 =>
  qz_ck ((h65 l0 1 : Int) ≠ 0) <|
  qz_ck (0 < h65 l0 1 ∧ (0 : Int) ≤ 10 ∧ 10 < h69 (h65 l0 1) (-1)) <|
  qz_bn (qz_up h69 (h65 l0 1) 10 q67) fun h70 =>
  qz_mk h70 5 0 fun h71 q72 =>
  qz_bc (fn_Level_init q72 h71) fun _ h74 =>
  qz_ck ((h70 l0 1 : Int) ≠ 0) <|
  qz_ck (0 < h70 l0 1 ∧ (0 : Int) ≤ 11 ∧ 11 < h74 (h70 l0 1) (-1)) <|
  qz_bn (qz_up h74 (h70 l0 1) 11 q72) fun h75 =>
  qz_mk h75 5 0 fun h76 q77 =>
  qz_bc (fn_Level_init q77 h76) fun _ h79 =>
  qz_ck ((h75 l0 1 : Int) ≠ 0) <|
  qz_ck (0 < h75 l0 1 ∧ (0 : Int) ≤ 12 ∧ 12 < h79 (h75 l0 1) (-1)) <|
  qz_bn (qz_up h79 (h75 l0 1) 12 q77) fun h80 =>
  some (0, h80)
def bk_Reader_init_0 : List (Instr × Nat) := [(.aload_n 0, 1), (.invokespecial 3, 3), (.aload_n 0, 1), (.bipush 13, 2), (.anewarray 9, 3), (.putfield 11, 3), (.aload_n 0, 1), (.iconst 4, 1), (.newarray .int, 2), (.putfield 17, 3), (.aload_n 0, 1), (.bipush 8, 2), (.newarray .int, 2), (.putfield 21, 3), (.aload_n 0, 1), (.aload_n 2, 1), (.putfield 24, 3), (.aload_n 0, 1), (.new 28, 3), (.dup, 1), (.aload_n 1, 1), (.invokespecial 30, 3), (.putfield 33, 3), (.iconst 0, 1), (.istore_n 3, 1)]
def bk_Reader_init_47 : List (Instr × Nat) := [(.iload_n 3, 1), (.bipush 12, 2), (.if_icmp .gt 22, 3), (.aload_n 0, 1), (.getfield 11, 3), (.iload_n 3, 1), (.new 9, 3), (.dup, 1), (.invokespecial 37, 3), (.aastore, 1), (.iinc 3 1, 3), (.goto (-22), 3)]
def bk_Reader_init_72 : List (Instr × Nat) := [(.return_, 1)]
theorem ca_Reader_init_0 : qz_ca yd_Reader_init.2.1 0 bk_Reader_init_0 := qz_cab_ok _ _ (by decide +kernel)
theorem ca_Reader_init_47 : qz_ca yd_Reader_init.2.1 47 bk_Reader_init_47 := qz_cab_ok _ _ (by decide +kernel)
theorem ca_Reader_init_72 : qz_ca yd_Reader_init.2.1 72 bk_Reader_init_72 := qz_cab_ok _ _ (by decide +kernel)
set_option maxRecDepth 20000 in
theorem cn_Reader_init (l0 : Int) (l1 : Int) (l2 : Int) (h : qz_H) : qz_C yd_Reader_init [qz_r true 9 l0, qz_r false 11 l1, qz_r false 6 l2] h (fn_Reader_init l0 l1 l2 h) := by
  refine qz_con (is := bk_Reader_init_0) (ls := [qz_r true 9 l0, qz_r false 11 l1, qz_r false 6 l2, qz_u]) mw_Reader_init.2.2.2 ca_Reader_init_0 rfl rfl fun G => ?_
  unfold fn_Reader_init bk_Reader_init_0; exact
    qz_aload_n rfl <|
    qz_objI oi_Reader_3 rfl <|
    qz_aload_n rfl <|
    qz_bipush rfl <|
    qz_anew (N := 13) rfl rfl (by decide) rfl rfl rfl an_Reader_9 rfl fun h1 q2 =>
    qz_putR (k1 := 47) kw_9 fp_Reader_11_Reader_init rfl rfl fun h3 =>
    qz_aload_n rfl <|
    qz_iconst rfl <|
    qz_newa (N := 4) rfl rfl (by decide) rfl rfl rfl (by decide) wa_int rfl fun h4 q5 =>
    qz_putR (k1 := 40) kw_9 fp_Reader_17_Reader_init rfl rfl fun h6 =>
    qz_aload_n rfl <|
    qz_bipush rfl <|
    qz_newa (N := 8) rfl rfl (by decide) rfl rfl rfl (by decide) wa_int rfl fun h7 q8 =>
    qz_putR (k1 := 40) kw_9 fp_Reader_21_Reader_init rfl rfl fun h9 =>
    qz_aload_n rfl <|
    qz_aload_n rfl <|
    qz_putR (k1 := 6) kw_9 fp_Reader_24_Reader_init rfl rfl fun h10 =>
    qz_aload_n rfl <|
    qz_new kw_10 rfl nw_Reader_28 rfl fun h11 q12 =>
    qz_dup rfl <|
    qz_aload_n rfl <|
    qz_inviV [qz_r false 11 l1] rfl (cn_Scanner_init q12 l1 h11) mw_Scanner_init vi_Scanner_init rfl rfl ln_Reader_30 rfl fun _ h14 =>
    qz_putR (k1 := 10) kw_9 fp_Reader_33_Reader_init rfl rfl fun h15 =>
    qz_iconst rfl <|
    qz_istore_nC (by decide) <|
    qz_fall rfl ca_Reader_init_47 <|
    qz_iload_n rfl <|
    qz_bipush rfl <|
    qz_eqt (if_neg (by decide)) <| qz_icmp_gt rfl ca_Reader_init_72 (t1 := none) qz_none <|
    qz_aload_n rfl <|
    qz_getR (k1 := 47) kg_9 fl_Reader_11 rfl rfl <|
    qz_iload_n rfl <|
    qz_new kw_5 rfl nw_Reader_9 rfl fun h16 q17 =>
    qz_dup rfl <|
    qz_inviV [] rfl (cn_Level_init q17 h16) mw_Level_init vi_Level_init rfl rfl ln_Reader_37 rfl fun _ h19 =>
    qz_nnd 2 rfl <|
    qz_aast (k0 := 47) (k1 := 5) rfl rfl rfl (by decide) ⟨_, rfl, rfl, by decide⟩ fun h20 =>
    qz_iincC (i := 3) rfl (by decide) (y := 1) rfl <|
    qz_nl [qz_r true 9 l0, qz_r false 11 l1, qz_r false 6 l2, qz_i 1] rfl <|
    qz_goto rfl ca_Reader_init_47 <|
    qz_iload_n rfl <|
    qz_bipush rfl <|
    qz_eqt (if_neg (by decide)) <| qz_icmp_gt rfl ca_Reader_init_72 (t1 := none) qz_none <|
    qz_aload_n rfl <|
    qz_getR (k1 := 47) kg_9 fl_Reader_11 rfl rfl <|
    qz_iload_n rfl <|
    qz_new kw_5 rfl nw_Reader_9 rfl fun h21 q22 =>
    qz_dup rfl <|
    qz_inviV [] rfl (cn_Level_init q22 h21) mw_Level_init vi_Level_init rfl rfl ln_Reader_37 rfl fun _ h24 =>
    qz_nnd 2 rfl <|
    qz_aast (k0 := 47) (k1 := 5) rfl rfl rfl (by decide) ⟨_, rfl, rfl, by decide⟩ fun h25 =>
    qz_iincC (i := 3) rfl (by decide) (y := 2) rfl <|
    qz_nl [qz_r true 9 l0, qz_r false 11 l1, qz_r false 6 l2, qz_i 2] rfl <|
    qz_goto rfl ca_Reader_init_47 <|
    qz_iload_n rfl <|
    qz_bipush rfl <|
    qz_eqt (if_neg (by decide)) <| qz_icmp_gt rfl ca_Reader_init_72 (t1 := none) qz_none <|
    qz_aload_n rfl <|
    qz_getR (k1 := 47) kg_9 fl_Reader_11 rfl rfl <|
    qz_iload_n rfl <|
    qz_new kw_5 rfl nw_Reader_9 rfl fun h26 q27 =>
    qz_dup rfl <|
    qz_inviV [] rfl (cn_Level_init q27 h26) mw_Level_init vi_Level_init rfl rfl ln_Reader_37 rfl fun _ h29 =>
    qz_nnd 2 rfl <|
    qz_aast (k0 := 47) (k1 := 5) rfl rfl rfl (by decide) ⟨_, rfl, rfl, by decide⟩ fun h30 =>
    qz_iincC (i := 3) rfl (by decide) (y := 3) rfl <|
    qz_nl [qz_r true 9 l0, qz_r false 11 l1, qz_r false 6 l2, qz_i 3] rfl <|
    qz_goto rfl ca_Reader_init_47 <|
    qz_iload_n rfl <|
    qz_bipush rfl <|
    qz_eqt (if_neg (by decide)) <| qz_icmp_gt rfl ca_Reader_init_72 (t1 := none) qz_none <|
    qz_aload_n rfl <|
    qz_getR (k1 := 47) kg_9 fl_Reader_11 rfl rfl <|
    qz_iload_n rfl <|
    qz_new kw_5 rfl nw_Reader_9 rfl fun h31 q32 =>
    qz_dup rfl <|
    qz_inviV [] rfl (cn_Level_init q32 h31) mw_Level_init vi_Level_init rfl rfl ln_Reader_37 rfl fun _ h34 =>
    qz_nnd 2 rfl <|
    qz_aast (k0 := 47) (k1 := 5) rfl rfl rfl (by decide) ⟨_, rfl, rfl, by decide⟩ fun h35 =>
    qz_iincC (i := 3) rfl (by decide) (y := 4) rfl <|
    qz_nl [qz_r true 9 l0, qz_r false 11 l1, qz_r false 6 l2, qz_i 4] rfl <|
    qz_goto rfl ca_Reader_init_47 <|
    qz_iload_n rfl <|
    qz_bipush rfl <|
    qz_eqt (if_neg (by decide)) <| qz_icmp_gt rfl ca_Reader_init_72 (t1 := none) qz_none <|
    qz_aload_n rfl <|
    qz_getR (k1 := 47) kg_9 fl_Reader_11 rfl rfl <|
    qz_iload_n rfl <|
    qz_new kw_5 rfl nw_Reader_9 rfl fun h36 q37 =>
    qz_dup rfl <|
    qz_inviV [] rfl (cn_Level_init q37 h36) mw_Level_init vi_Level_init rfl rfl ln_Reader_37 rfl fun _ h39 =>
    qz_nnd 2 rfl <|
    qz_aast (k0 := 47) (k1 := 5) rfl rfl rfl (by decide) ⟨_, rfl, rfl, by decide⟩ fun h40 =>
    qz_iincC (i := 3) rfl (by decide) (y := 5) rfl <|
    qz_nl [qz_r true 9 l0, qz_r false 11 l1, qz_r false 6 l2, qz_i 5] rfl <|
    qz_goto rfl ca_Reader_init_47 <|
    qz_iload_n rfl <|
    qz_bipush rfl <|
    qz_eqt (if_neg (by decide)) <| qz_icmp_gt rfl ca_Reader_init_72 (t1 := none) qz_none <|
    qz_aload_n rfl <|
    qz_getR (k1 := 47) kg_9 fl_Reader_11 rfl rfl <|
    qz_iload_n rfl <|
    qz_new kw_5 rfl nw_Reader_9 rfl fun h41 q42 =>
    qz_dup rfl <|
    qz_inviV [] rfl (cn_Level_init q42 h41) mw_Level_init vi_Level_init rfl rfl ln_Reader_37 rfl fun _ h44 =>
    qz_nnd 2 rfl <|
    qz_aast (k0 := 47) (k1 := 5) rfl rfl rfl (by decide) ⟨_, rfl, rfl, by decide⟩ fun h45 =>
    qz_iincC (i := 3) rfl (by decide) (y := 6) rfl <|
    qz_nl [qz_r true 9 l0, qz_r false 11 l1, qz_r false 6 l2, qz_i 6] rfl <|
    qz_goto rfl ca_Reader_init_47 <|
    qz_iload_n rfl <|
    qz_bipush rfl <|
    qz_eqt (if_neg (by decide)) <| qz_icmp_gt rfl ca_Reader_init_72 (t1 := none) qz_none <|
    qz_aload_n rfl <|
    qz_getR (k1 := 47) kg_9 fl_Reader_11 rfl rfl <|
    qz_iload_n rfl <|
    qz_new kw_5 rfl nw_Reader_9 rfl fun h46 q47 =>
    qz_dup rfl <|
    qz_inviV [] rfl (cn_Level_init q47 h46) mw_Level_init vi_Level_init rfl rfl ln_Reader_37 rfl fun _ h49 =>
    qz_nnd 2 rfl <|
    qz_aast (k0 := 47) (k1 := 5) rfl rfl rfl (by decide) ⟨_, rfl, rfl, by decide⟩ fun h50 =>
    qz_iincC (i := 3) rfl (by decide) (y := 7) rfl <|
    qz_nl [qz_r true 9 l0, qz_r false 11 l1, qz_r false 6 l2, qz_i 7] rfl <|
    qz_goto rfl ca_Reader_init_47 <|
    qz_iload_n rfl <|
    qz_bipush rfl <|
    qz_eqt (if_neg (by decide)) <| qz_icmp_gt rfl ca_Reader_init_72 (t1 := none) qz_none <|
    qz_aload_n rfl <|
    qz_getR (k1 := 47) kg_9 fl_Reader_11 rfl rfl <|
    qz_iload_n rfl <|
    qz_new kw_5 rfl nw_Reader_9 rfl fun h51 q52 =>
    qz_dup rfl <|
    qz_inviV [] rfl (cn_Level_init q52 h51) mw_Level_init vi_Level_init rfl rfl ln_Reader_37 rfl fun _ h54 =>
    qz_nnd 2 rfl <|
    qz_aast (k0 := 47) (k1 := 5) rfl rfl rfl (by decide) ⟨_, rfl, rfl, by decide⟩ fun h55 =>
    qz_iincC (i := 3) rfl (by decide) (y := 8) rfl <|
    qz_nl [qz_r true 9 l0, qz_r false 11 l1, qz_r false 6 l2, qz_i 8] rfl <|
    qz_goto rfl ca_Reader_init_47 <|
    qz_iload_n rfl <|
    qz_bipush rfl <|
    qz_eqt (if_neg (by decide)) <| qz_icmp_gt rfl ca_Reader_init_72 (t1 := none) qz_none <|
    qz_aload_n rfl <|
    qz_getR (k1 := 47) kg_9 fl_Reader_11 rfl rfl <|
    qz_iload_n rfl <|
    qz_new kw_5 rfl nw_Reader_9 rfl fun h56 q57 =>
    qz_dup rfl <|
    qz_inviV [] rfl (cn_Level_init q57 h56) mw_Level_init vi_Level_init rfl rfl ln_Reader_37 rfl fun _ h59 =>
    qz_nnd 2 rfl <|
    qz_aast (k0 := 47) (k1 := 5) rfl rfl rfl (by decide) ⟨_, rfl, rfl, by decide⟩ fun h60 =>
    qz_iincC (i := 3) rfl (by decide) (y := 9) rfl <|
    qz_nl [qz_r true 9 l0, qz_r false 11 l1, qz_r false 6 l2, qz_i 9] rfl <|
    qz_goto rfl ca_Reader_init_47 <|
    qz_iload_n rfl <|
    qz_bipush rfl <|
    qz_eqt (if_neg (by decide)) <| qz_icmp_gt rfl ca_Reader_init_72 (t1 := none) qz_none <|
    qz_aload_n rfl <|
    qz_getR (k1 := 47) kg_9 fl_Reader_11 rfl rfl <|
    qz_iload_n rfl <|
    qz_new kw_5 rfl nw_Reader_9 rfl fun h61 q62 =>
    qz_dup rfl <|
    qz_inviV [] rfl (cn_Level_init q62 h61) mw_Level_init vi_Level_init rfl rfl ln_Reader_37 rfl fun _ h64 =>
    qz_nnd 2 rfl <|
    qz_aast (k0 := 47) (k1 := 5) rfl rfl rfl (by decide) ⟨_, rfl, rfl, by decide⟩ fun h65 =>
    qz_iincC (i := 3) rfl (by decide) (y := 10) rfl <|
    qz_nl [qz_r true 9 l0, qz_r false 11 l1, qz_r false 6 l2, qz_i 10] rfl <|
    qz_goto rfl ca_Reader_init_47 <|
    qz_iload_n rfl <|
    qz_bipush rfl <|
    qz_eqt (if_neg (by decide)) <| qz_icmp_gt rfl ca_Reader_init_72 (t1 := none) qz_none <|
    qz_aload_n rfl <|
    qz_getR (k1 := 47) kg_9 fl_Reader_11 rfl rfl <|
    qz_iload_n rfl <|
    qz_new kw_5 rfl nw_Reader_9 rfl fun h66 q67 =>
    qz_dup rfl <|
    qz_inviV [] rfl (cn_Level_init q67 h66) mw_Level_init vi_Level_init rfl rfl ln_Reader_37 rfl fun _ h69 =>
    qz_nnd 2 rfl <|
    qz_aast (k0 := 47) (k1 := 5) rfl rfl rfl (by decide) ⟨_, rfl, rfl, by decide⟩ fun h70 =>
    qz_iincC (i := 3) rfl (by decide) (y := 11) rfl <|
    qz_nl [qz_r true 9 l0, qz_r false 11 l1, qz_r false 6 l2, qz_i 11] rfl <|
    qz_goto rfl ca_Reader_init_47 <|
    qz_iload_n rfl <|
    qz_bipush rfl <|
    qz_eqt (if_neg (by decide)) <| qz_icmp_gt rfl ca_Reader_init_72 (t1 := none) qz_none <|
    qz_aload_n rfl <|
    qz_getR (k1 := 47) kg_9 fl_Reader_11 rfl rfl <|
    qz_iload_n rfl <|
    qz_new kw_5 rfl nw_Reader_9 rfl fun h71 q72 =>
    qz_dup rfl <|
    qz_inviV [] rfl (cn_Level_init q72 h71) mw_Level_init vi_Level_init rfl rfl ln_Reader_37 rfl fun _ h74 =>
    qz_nnd 2 rfl <|
    qz_aast (k0 := 47) (k1 := 5) rfl rfl rfl (by decide) ⟨_, rfl, rfl, by decide⟩ fun h75 =>
    qz_iincC (i := 3) rfl (by decide) (y := 12) rfl <|
    qz_nl [qz_r true 9 l0, qz_r false 11 l1, qz_r false 6 l2, qz_i 12] rfl <|
    qz_goto rfl ca_Reader_init_47 <|
    qz_iload_n rfl <|
    qz_bipush rfl <|
    qz_eqt (if_neg (by decide)) <| qz_icmp_gt rfl ca_Reader_init_72 (t1 := none) qz_none <|
    qz_aload_n rfl <|
    qz_getR (k1 := 47) kg_9 fl_Reader_11 rfl rfl <|
    qz_iload_n rfl <|
    qz_new kw_5 rfl nw_Reader_9 rfl fun h76 q77 =>
    qz_dup rfl <|
    qz_inviV [] rfl (cn_Level_init q77 h76) mw_Level_init vi_Level_init rfl rfl ln_Reader_37 rfl fun _ h79 =>
    qz_nnd 2 rfl <|
    qz_aast (k0 := 47) (k1 := 5) rfl rfl rfl (by decide) ⟨_, rfl, rfl, by decide⟩ fun h80 =>
    qz_iincC (i := 3) rfl (by decide) (y := 13) rfl <|
    qz_nl [qz_r true 9 l0, qz_r false 11 l1, qz_r false 6 l2, qz_i 13] rfl <|
    qz_goto rfl ca_Reader_init_47 <|
    qz_iload_n rfl <|
    qz_bipush rfl <|
    qz_eqt (if_pos (by decide)) <| qz_icmp_gt rfl ca_Reader_init_72 (t2 := none) (kf := qz_none) <|
    qz_return ⟨rfl, rfl⟩ rfl
def fn_Module_latest (l0 : Int) (h : qz_H) : Option qz_R :=
  qz_ck ((h l0 0 : Int) ≠ 0) <|
  qz_ck ((0 : Int) ≤ qz_max 0 (qz_w ((qz_min (h l0 3) 4) - 1)) ∧ qz_max 0 (qz_w ((qz_min (h l0 3) 4) - 1)) < h (h l0 0) (-1)) <|
  some (h (h l0 0) (qz_max 0 (qz_w ((qz_min (h l0 3) 4) - 1))), h)
def bk_Module_latest_0 : List (Instr × Nat) := [(.aload_n 0, 1), (.getfield 11, 3), (.iconst 0, 1), (.aload_n 0, 1), (.getfield 32, 3), (.iconst 4, 1), (.invokestatic 51, 3), (.iconst 1, 1), (.isub, 1), (.invokestatic 57, 3), (.aaload, 1), (.areturn, 1)]
theorem ca_Module_latest_0 : qz_ca yd_Module_latest.2.1 0 bk_Module_latest_0 := qz_cab_ok _ _ (by decide +kernel)
set_option maxRecDepth 20000 in
theorem cn_Module_latest (l0 : Int) (h : qz_H) : qz_C yd_Module_latest [qz_r true 6 l0] h (fn_Module_latest l0 h) := by
  refine qz_con (is := bk_Module_latest_0) (ls := [qz_r true 6 l0]) mw_Module_latest.2.2.2 ca_Module_latest_0 rfl rfl fun G => ?_
  unfold fn_Module_latest bk_Module_latest_0; exact
    qz_aload_n rfl <|
    qz_getR (k1 := 45) kg_6 fl_Module_11 rfl rfl <|
    qz_iconst rfl <|
    qz_aload_n rfl <|
    qz_getI kg_6 fl_Module_32 rfl rfl <|
    qz_iconst rfl <|
    qz_mmin ma_Module_51 rfl <|
    qz_iconst rfl <|
    qz_isub <|
    qz_mmax ma_Module_57 rfl <|
    qz_nnd 1 rfl <|
    qz_aald (k0 := 45) (k1 := 4) rfl rfl rfl <|
    qz_areturn ⟨rfl, rfl⟩ rfl
def fn_Frame_init (l0 : Int) (h : qz_H) : Option qz_R :=
  some (0, h)
def bk_Frame_init_0 : List (Instr × Nat) := [(.aload_n 0, 1), (.invokespecial 1, 3), (.return_, 1)]
theorem ca_Frame_init_0 : qz_ca yd_Frame_init.2.1 0 bk_Frame_init_0 := qz_cab_ok _ _ (by decide +kernel)
set_option maxRecDepth 20000 in
theorem cn_Frame_init (l0 : Int) (h : qz_H) : qz_C yd_Frame_init [qz_r true 3 l0] h (fn_Frame_init l0 h) := by
  refine qz_con (is := bk_Frame_init_0) (ls := [qz_r true 3 l0]) mw_Frame_init.2.2.2 ca_Frame_init_0 rfl rfl fun G => ?_
  unfold fn_Frame_init bk_Frame_init_0; exact
    qz_aload_n rfl <|
    qz_objI oi_Frame_1 rfl <|
    qz_return ⟨rfl, rfl⟩ rfl
def fn_Checker_init (l0 : Int) (l1 : Int) (h : qz_H) : Option qz_R :=
  qz_mk h 40 64 fun h1 q2 =>
  qz_ck ((0 : Int) < l0) <|
  qz_bn (qz_up h1 l0 0 q2) fun h3 =>
  qz_mk h3 48 12 fun h4 q5 =>
  qz_ck ((0 : Int) < l0) <|
  qz_bn (qz_up h4 l0 1 q5) fun h6 =>
  qz_ck ((0 : Int) < l0) <|
  qz_bn (qz_up h6 l0 2 l1) fun h7 =>
  qz_ck ((l1 : Int) ≠ 0) <|
  qz_bc (fn_Module_latest l1 h7) fun r8 h9 =>
  qz_ck ((0 : Int) < l0) <|
  qz_bn (qz_up h9 l0 3 r8) fun h10 =>
  qz_mk h10 3 0 fun h11 q12 =>
  qz_bc (fn_Frame_init q12 h11) fun _ h14 =>
  qz_ck ((h10 l0 1 : Int) ≠ 0) <|
  qz_ck (0 < h10 l0 1 ∧ (0 : Int) ≤ 0 ∧ 0 < h14 (h10 l0 1) (-1)) <|
  qz_bn (qz_up h14 (h10 l0 1) 0 q12) fun h15 =>
  qz_mk h15 3 0 fun h16 q17 =>
  qz_bc (fn_Frame_init q17 h16) fun _ h19 =>
  qz_ck ((h15 l0 1 : Int) ≠ 0) <|
  qz_ck (0 < h15 l0 1 ∧ (0 : Int) ≤ 1 ∧ 1 < h19 (h15 l0 1) (-1)) <|
  qz_bn (qz_up h19 (h15 l0 1) 1 q17) fun h20 =>
  qz_mk h20 3 0 fun h21 q22 =>
  qz_bc (fn_Frame_init q22 h21) fun _ h24 =>
  qz_ck ((h20 l0 1 : Int) ≠ 0) <|
  qz_ck (0 < h20 l0 1 ∧ (0 : Int) ≤ 2 ∧ 2 < h24 (h20 l0 1) (-1)) <|
  qz_bn (qz_up h24 (h20 l0 1) 2 q22) fun h25 =>
  qz_mk h25 3 0 fun h26 q27 =>
  qz_bc (fn_Frame_init q27 h26) fun _ h29 =>
  qz_ck ((h25 l0 1 : Int) ≠ 0) <|
  qz_ck (0 < h25 l0 1 ∧ (0 : Int) ≤ 3 ∧ 3 < h29 (h25 l0 1) (-1)) <|
  qz_bn (qz_up h29 (h25 l0 1) 3 q27) fun h30 =>
  qz_mk h30 3 0 fun h31 q32 =>
  qz_bc (fn_Frame_init q32 h31) fun _ h34 =>
  qz_ck ((h30 l0 1 : Int) ≠ 0) <|
  qz_ck (0 < h30 l0 1 ∧ (0 : Int) ≤ 4 ∧ 4 < h34 (h30 l0 1) (-1)) <|
  qz_bn (qz_up h34 (h30 l0 1) 4 q32) fun h35 =>
  qz_mk h35 3 0 fun h36 q37 =>
  qz_bc (fn_Frame_init q37 h36) fun _ h39 =>
  qz_ck ((h35 l0 1 : Int) ≠ 0) <|
  qz_ck (0 < h35 l0 1 ∧ (0 : Int) ≤ 5 ∧ 5 < h39 (h35 l0 1) (-1)) <|
  qz_bn (qz_up h39 (h35 l0 1) 5 q37) fun h40 =>
  qz_mk h40 3 0 fun h41 q42 =>
  qz_bc (fn_Frame_init q42 h41) fun _ h44 =>
  qz_ck ((h40 l0 1 : Int) ≠ 0) <|
  qz_ck (0 < h40 l0 1 ∧ (0 : Int) ≤ 6 ∧ 6 < h44 (h40 l0 1) (-1)) <|
  qz_bn (qz_up h44 (h40 l0 1) 6 q42) fun h45 =>
  qz_mk h45 3 0 fun h46 q47 =>
  qz_bc (fn_Frame_init q47 h46) fun _ h49 =>
  qz_ck ((h45 l0 1 : Int) ≠ 0) <|
  qz_ck (0 < h45 l0 1 ∧ (0 : Int) ≤ 7 ∧ 7 < h49 (h45 l0 1) (-1)) <|
  qz_bn (qz_up h49 (h45 l0 1) 7 q47) fun h50 =>
  qz_mk h50 3 0 fun h51 q52 =>
  qz_bc (fn_Frame_init q52 h51) fun _ h54 =>
  qz_ck ((h50 l0 1 : Int) ≠ 0) <|
  qz_ck (0 < h50 l0 1 ∧ (0 : Int) ≤ 8 ∧ 8 < h54 (h50 l0 1) (-1)) <|
  qz_bn (qz_up h54 (h50 l0 1) 8 q52) fun h55 =>
  qz_mk h55 3 0 fun h56 q57 =>
  qz_bc (fn_Frame_init q57 h56) fun _ h59 =>
  qz_ck ((h55 l0 1 : Int) ≠ 0) <|
  qz_ck (0 < h55 l0 1 ∧ (0 : Int) ≤ 9 ∧ 9 < h59 (h55 l0 1) (-1)) <|
  qz_bn (qz_up h59 (h55 l0 1) 9 q57) fun h60 =>
  qz_mk h60 3 0 fun h61 q62 =>
  qz_bc (fn_Frame_init q62 h61) fun _ h64 =>
  qz_ck ((h60 l0 1 : Int) ≠ 0) <|
  qz_ck (0 < h60 l0 1 ∧ (0 : Int) ≤ 10 ∧ 10 < h64 (h60 l0 1) (-1)) <|
  qz_bn (qz_up h64 (h60 l0 1) 10 q62) fun h65 =>
  qz_mk h65 3 0 fun h66 q67 =>
  qz_bc (fn_Frame_init q67 h66) fun _ h69 =>
  qz_ck ((h65 l0 1 : Int) ≠ 0) <|
  qz_ck (0 < h65 l0 1 ∧ (0 : Int) ≤ 11 ∧ 11 < h69 (h65 l0 1) (-1)) <|
  qz_bn (qz_up h69 (h65 l0 1) 11 q67) fun h70 =>
  some (0, h70)
def bk_Checker_init_0 : List (Instr × Nat) := [(.aload_n 0, 1), (.invokespecial 3, 3), (.aload_n 0, 1), (.bipush 64, 2), (.newarray .int, 2), (.putfield 9, 3), (.aload_n 0, 1), (.bipush 12, 2), (.anewarray 15, 3), (.putfield 17, 3), (.aload_n 0, 1), (.aload_n 1, 1), (.putfield 21, 3), (.aload_n 0, 1), (.aload_n 1, 1), (.invokevirtual 25, 3), (.putfield 31, 3), (.iconst 0, 1), (.istore_n 2, 1)]
def bk_Checker_init_36 : List (Instr × Nat) := [(.iload_n 2, 1), (.bipush 12, 2), (.if_icmp .ge 22, 3), (.aload_n 0, 1), (.getfield 17, 3), (.iload_n 2, 1), (.new 15, 3), (.dup, 1), (.invokespecial 35, 3), (.aastore, 1), (.iinc 2 1, 3), (.goto (-22), 3)]
def bk_Checker_init_61 : List (Instr × Nat) := [(.return_, 1)]
theorem ca_Checker_init_0 : qz_ca yd_Checker_init.2.1 0 bk_Checker_init_0 := qz_cab_ok _ _ (by decide +kernel)
theorem ca_Checker_init_36 : qz_ca yd_Checker_init.2.1 36 bk_Checker_init_36 := qz_cab_ok _ _ (by decide +kernel)
theorem ca_Checker_init_61 : qz_ca yd_Checker_init.2.1 61 bk_Checker_init_61 := qz_cab_ok _ _ (by decide +kernel)
set_option maxRecDepth 20000 in
theorem cn_Checker_init (l0 : Int) (l1 : Int) (h : qz_H) : qz_C yd_Checker_init [qz_r true 1 l0, qz_r false 6 l1] h (fn_Checker_init l0 l1 h) := by
  refine qz_con (is := bk_Checker_init_0) (ls := [qz_r true 1 l0, qz_r false 6 l1, qz_u]) mw_Checker_init.2.2.2 ca_Checker_init_0 rfl rfl fun G => ?_
  unfold fn_Checker_init bk_Checker_init_0; exact
    qz_aload_n rfl <|
    qz_objI oi_Checker_3 rfl <|
    qz_aload_n rfl <|
    qz_bipush rfl <|
    qz_newa (N := 64) rfl rfl (by decide) rfl rfl rfl (by decide) wa_int rfl fun h1 q2 =>
    qz_putR (k1 := 40) kw_1 fp_Checker_9_Checker_init rfl rfl fun h3 =>
    qz_aload_n rfl <|
    qz_bipush rfl <|
    qz_anew (N := 12) rfl rfl (by decide) rfl rfl rfl an_Checker_15 rfl fun h4 q5 =>
    qz_putR (k1 := 48) kw_1 fp_Checker_17_Checker_init rfl rfl fun h6 =>
    qz_aload_n rfl <|
    qz_aload_n rfl <|
    qz_putR (k1 := 6) kw_1 fp_Checker_21_Checker_init rfl rfl fun h7 =>
    qz_aload_n rfl <|
    qz_aload_n rfl <|
    qz_nnd 0 rfl <|
    qz_invvR [] rfl (cn_Module_latest l1 h7) mw_Module_latest vw_Module_latest ⟨_, rfl, rfl, by decide⟩ rfl rfl ln_Checker_25 rfl fun r8 h9 =>
    qz_putR (k1 := 4) kw_1 fp_Checker_31_Checker_init rfl rfl fun h10 =>
    qz_iconst rfl <|
    qz_istore_nC (by decide) <|
    qz_fall rfl ca_Checker_init_36 <|
    qz_iload_n rfl <|
    qz_bipush rfl <|
    qz_eqt (if_neg (by decide)) <| qz_icmp_ge rfl ca_Checker_init_61 (t1 := none) qz_none <|
    qz_aload_n rfl <|
    qz_getR (k1 := 48) kg_1 fl_Checker_17 rfl rfl <|
    qz_iload_n rfl <|
    qz_new kw_3 rfl nw_Checker_15 rfl fun h11 q12 =>
    qz_dup rfl <|
    qz_inviV [] rfl (cn_Frame_init q12 h11) mw_Frame_init vi_Frame_init rfl rfl ln_Checker_35 rfl fun _ h14 =>
    qz_nnd 2 rfl <|
    qz_aast (k0 := 48) (k1 := 3) rfl rfl rfl (by decide) ⟨_, rfl, rfl, by decide⟩ fun h15 =>
    qz_iincC (i := 2) rfl (by decide) (y := 1) rfl <|
    qz_nl [qz_r true 1 l0, qz_r false 6 l1, qz_i 1] rfl <|
    qz_goto rfl ca_Checker_init_36 <|
    qz_iload_n rfl <|
    qz_bipush rfl <|
    qz_eqt (if_neg (by decide)) <| qz_icmp_ge rfl ca_Checker_init_61 (t1 := none) qz_none <|
    qz_aload_n rfl <|
    qz_getR (k1 := 48) kg_1 fl_Checker_17 rfl rfl <|
    qz_iload_n rfl <|
    qz_new kw_3 rfl nw_Checker_15 rfl fun h16 q17 =>
    qz_dup rfl <|
    qz_inviV [] rfl (cn_Frame_init q17 h16) mw_Frame_init vi_Frame_init rfl rfl ln_Checker_35 rfl fun _ h19 =>
    qz_nnd 2 rfl <|
    qz_aast (k0 := 48) (k1 := 3) rfl rfl rfl (by decide) ⟨_, rfl, rfl, by decide⟩ fun h20 =>
    qz_iincC (i := 2) rfl (by decide) (y := 2) rfl <|
    qz_nl [qz_r true 1 l0, qz_r false 6 l1, qz_i 2] rfl <|
    qz_goto rfl ca_Checker_init_36 <|
    qz_iload_n rfl <|
    qz_bipush rfl <|
    qz_eqt (if_neg (by decide)) <| qz_icmp_ge rfl ca_Checker_init_61 (t1 := none) qz_none <|
    qz_aload_n rfl <|
    qz_getR (k1 := 48) kg_1 fl_Checker_17 rfl rfl <|
    qz_iload_n rfl <|
    qz_new kw_3 rfl nw_Checker_15 rfl fun h21 q22 =>
    qz_dup rfl <|
    qz_inviV [] rfl (cn_Frame_init q22 h21) mw_Frame_init vi_Frame_init rfl rfl ln_Checker_35 rfl fun _ h24 =>
    qz_nnd 2 rfl <|
    qz_aast (k0 := 48) (k1 := 3) rfl rfl rfl (by decide) ⟨_, rfl, rfl, by decide⟩ fun h25 =>
    qz_iincC (i := 2) rfl (by decide) (y := 3) rfl <|
    qz_nl [qz_r true 1 l0, qz_r false 6 l1, qz_i 3] rfl <|
    qz_goto rfl ca_Checker_init_36 <|
    qz_iload_n rfl <|
    qz_bipush rfl <|
    qz_eqt (if_neg (by decide)) <| qz_icmp_ge rfl ca_Checker_init_61 (t1 := none) qz_none <|
    qz_aload_n rfl <|
    qz_getR (k1 := 48) kg_1 fl_Checker_17 rfl rfl <|
    qz_iload_n rfl <|
    qz_new kw_3 rfl nw_Checker_15 rfl fun h26 q27 =>
    qz_dup rfl <|
    qz_inviV [] rfl (cn_Frame_init q27 h26) mw_Frame_init vi_Frame_init rfl rfl ln_Checker_35 rfl fun _ h29 =>
    qz_nnd 2 rfl <|
    qz_aast (k0 := 48) (k1 := 3) rfl rfl rfl (by decide) ⟨_, rfl, rfl, by decide⟩ fun h30 =>
    qz_iincC (i := 2) rfl (by decide) (y := 4) rfl <|
    qz_nl [qz_r true 1 l0, qz_r false 6 l1, qz_i 4] rfl <|
    qz_goto rfl ca_Checker_init_36 <|
    qz_iload_n rfl <|
    qz_bipush rfl <|
    qz_eqt (if_neg (by decide)) <| qz_icmp_ge rfl ca_Checker_init_61 (t1 := none) qz_none <|
    qz_aload_n rfl <|
    qz_getR (k1 := 48) kg_1 fl_Checker_17 rfl rfl <|
    qz_iload_n rfl <|
    qz_new kw_3 rfl nw_Checker_15 rfl fun h31 q32 =>
    qz_dup rfl <|
    qz_inviV [] rfl (cn_Frame_init q32 h31) mw_Frame_init vi_Frame_init rfl rfl ln_Checker_35 rfl fun _ h34 =>
    qz_nnd 2 rfl <|
    qz_aast (k0 := 48) (k1 := 3) rfl rfl rfl (by decide) ⟨_, rfl, rfl, by decide⟩ fun h35 =>
    qz_iincC (i := 2) rfl (by decide) (y := 5) rfl <|
    qz_nl [qz_r true 1 l0, qz_r false 6 l1, qz_i 5] rfl <|
    qz_goto rfl ca_Checker_init_36 <|
    qz_iload_n rfl <|
    qz_bipush rfl <|
    qz_eqt (if_neg (by decide)) <| qz_icmp_ge rfl ca_Checker_init_61 (t1 := none) qz_none <|
    qz_aload_n rfl <|
    qz_getR (k1 := 48) kg_1 fl_Checker_17 rfl rfl <|
    qz_iload_n rfl <|
    qz_new kw_3 rfl nw_Checker_15 rfl fun h36 q37 =>
    qz_dup rfl <|
    qz_inviV [] rfl (cn_Frame_init q37 h36) mw_Frame_init vi_Frame_init rfl rfl ln_Checker_35 rfl fun _ h39 =>
    qz_nnd 2 rfl <|
    qz_aast (k0 := 48) (k1 := 3) rfl rfl rfl (by decide) ⟨_, rfl, rfl, by decide⟩ fun h40 =>
    qz_iincC (i := 2) rfl (by decide) (y := 6) rfl <|
    qz_nl [qz_r true 1 l0, qz_r false 6 l1, qz_i 6] rfl <|
    qz_goto rfl ca_Checker_init_36 <|
    qz_iload_n rfl <|
    qz_bipush rfl <|
    qz_eqt (if_neg (by decide)) <| qz_icmp_ge rfl ca_Checker_init_61 (t1 := none) qz_none <|
    qz_aload_n rfl <|
    qz_getR (k1 := 48) kg_1 fl_Checker_17 rfl rfl <|
    qz_iload_n rfl <|
    qz_new kw_3 rfl nw_Checker_15 rfl fun h41 q42 =>
    qz_dup rfl <|
    qz_inviV [] rfl (cn_Frame_init q42 h41) mw_Frame_init vi_Frame_init rfl rfl ln_Checker_35 rfl fun _ h44 =>
    qz_nnd 2 rfl <|
    qz_aast (k0 := 48) (k1 := 3) rfl rfl rfl (by decide) ⟨_, rfl, rfl, by decide⟩ fun h45 =>
    qz_iincC (i := 2) rfl (by decide) (y := 7) rfl <|
    qz_nl [qz_r true 1 l0, qz_r false 6 l1, qz_i 7] rfl <|
    qz_goto rfl ca_Checker_init_36 <|
    qz_iload_n rfl <|
    qz_bipush rfl <|
    qz_eqt (if_neg (by decide)) <| qz_icmp_ge rfl ca_Checker_init_61 (t1 := none) qz_none <|
    qz_aload_n rfl <|
    qz_getR (k1 := 48) kg_1 fl_Checker_17 rfl rfl <|
    qz_iload_n rfl <|
    qz_new kw_3 rfl nw_Checker_15 rfl fun h46 q47 =>
    qz_dup rfl <|
    qz_inviV [] rfl (cn_Frame_init q47 h46) mw_Frame_init vi_Frame_init rfl rfl ln_Checker_35 rfl fun _ h49 =>
    qz_nnd 2 rfl <|
    qz_aast (k0 := 48) (k1 := 3) rfl rfl rfl (by decide) ⟨_, rfl, rfl, by decide⟩ fun h50 =>
    qz_iincC (i := 2) rfl (by decide) (y := 8) rfl <|
    qz_nl [qz_r true 1 l0, qz_r false 6 l1, qz_i 8] rfl <|
    qz_goto rfl ca_Checker_init_36 <|
    qz_iload_n rfl <|
    qz_bipush rfl <|
    qz_eqt (if_neg (by decide)) <| qz_icmp_ge rfl ca_Checker_init_61 (t1 := none) qz_none <|
    qz_aload_n rfl <|
    qz_getR (k1 := 48) kg_1 fl_Checker_17 rfl rfl <|
    qz_iload_n rfl <|
    qz_new kw_3 rfl nw_Checker_15 rfl fun h51 q52 =>
    qz_dup rfl <|
    qz_inviV [] rfl (cn_Frame_init q52 h51) mw_Frame_init vi_Frame_init rfl rfl ln_Checker_35 rfl fun _ h54 =>
    qz_nnd 2 rfl <|
    qz_aast (k0 := 48) (k1 := 3) rfl rfl rfl (by decide) ⟨_, rfl, rfl, by decide⟩ fun h55 =>
    qz_iincC (i := 2) rfl (by decide) (y := 9) rfl <|
    qz_nl [qz_r true 1 l0, qz_r false 6 l1, qz_i 9] rfl <|
    qz_goto rfl ca_Checker_init_36 <|
    qz_iload_n rfl <|
    qz_bipush rfl <|
    qz_eqt (if_neg (by decide)) <| qz_icmp_ge rfl ca_Checker_init_61 (t1 := none) qz_none <|
    qz_aload_n rfl <|
    qz_getR (k1 := 48) kg_1 fl_Checker_17 rfl rfl <|
    qz_iload_n rfl <|
    qz_new kw_3 rfl nw_Checker_15 rfl fun h56 q57 =>
    qz_dup rfl <|
    qz_inviV [] rfl (cn_Frame_init q57 h56) mw_Frame_init vi_Frame_init rfl rfl ln_Checker_35 rfl fun _ h59 =>
    qz_nnd 2 rfl <|
    qz_aast (k0 := 48) (k1 := 3) rfl rfl rfl (by decide) ⟨_, rfl, rfl, by decide⟩ fun h60 =>
    qz_iincC (i := 2) rfl (by decide) (y := 10) rfl <|
    qz_nl [qz_r true 1 l0, qz_r false 6 l1, qz_i 10] rfl <|
    qz_goto rfl ca_Checker_init_36 <|
    qz_iload_n rfl <|
    qz_bipush rfl <|
    qz_eqt (if_neg (by decide)) <| qz_icmp_ge rfl ca_Checker_init_61 (t1 := none) qz_none <|
    qz_aload_n rfl <|
    qz_getR (k1 := 48) kg_1 fl_Checker_17 rfl rfl <|
    qz_iload_n rfl <|
    qz_new kw_3 rfl nw_Checker_15 rfl fun h61 q62 =>
    qz_dup rfl <|
    qz_inviV [] rfl (cn_Frame_init q62 h61) mw_Frame_init vi_Frame_init rfl rfl ln_Checker_35 rfl fun _ h64 =>
    qz_nnd 2 rfl <|
    qz_aast (k0 := 48) (k1 := 3) rfl rfl rfl (by decide) ⟨_, rfl, rfl, by decide⟩ fun h65 =>
    qz_iincC (i := 2) rfl (by decide) (y := 11) rfl <|
    qz_nl [qz_r true 1 l0, qz_r false 6 l1, qz_i 11] rfl <|
    qz_goto rfl ca_Checker_init_36 <|
    qz_iload_n rfl <|
    qz_bipush rfl <|
    qz_eqt (if_neg (by decide)) <| qz_icmp_ge rfl ca_Checker_init_61 (t1 := none) qz_none <|
    qz_aload_n rfl <|
    qz_getR (k1 := 48) kg_1 fl_Checker_17 rfl rfl <|
    qz_iload_n rfl <|
    qz_new kw_3 rfl nw_Checker_15 rfl fun h66 q67 =>
    qz_dup rfl <|
    qz_inviV [] rfl (cn_Frame_init q67 h66) mw_Frame_init vi_Frame_init rfl rfl ln_Checker_35 rfl fun _ h69 =>
    qz_nnd 2 rfl <|
    qz_aast (k0 := 48) (k1 := 3) rfl rfl rfl (by decide) ⟨_, rfl, rfl, by decide⟩ fun h70 =>
    qz_iincC (i := 2) rfl (by decide) (y := 12) rfl <|
    qz_nl [qz_r true 1 l0, qz_r false 6 l1, qz_i 12] rfl <|
    qz_goto rfl ca_Checker_init_36 <|
    qz_iload_n rfl <|
    qz_bipush rfl <|
    qz_eqt (if_pos (by decide)) <| qz_icmp_ge rfl ca_Checker_init_61 (t2 := none) (kf := qz_none) <|
    qz_return ⟨rfl, rfl⟩ rfl
def fn_Encoder_init (l0 : Int) (h : qz_H) : Option qz_R :=
  qz_mk h 43 1024 fun h1 q2 =>
  qz_ck ((0 : Int) < l0) <|
  qz_bn (qz_up h1 l0 0 q2) fun h3 =>
  qz_mk h3 40 4 fun h4 q5 =>
  qz_ck ((0 : Int) < l0) <|
  qz_bn (qz_up h4 l0 1 q5) fun h6 =>
  some (0, h6)
def bk_Encoder_init_0 : List (Instr × Nat) := [(.aload_n 0, 1), (.invokespecial 3, 3), (.aload_n 0, 1), (.sipush 1024, 3), (.newarray .byte, 2), (.putfield 11, 3), (.aload_n 0, 1), (.iconst 4, 1), (.newarray .int, 2), (.putfield 15, 3), (.return_, 1)]
theorem ca_Encoder_init_0 : qz_ca yd_Encoder_init.2.1 0 bk_Encoder_init_0 := qz_cab_ok _ _ (by decide +kernel)
set_option maxRecDepth 20000 in
theorem cn_Encoder_init (l0 : Int) (h : qz_H) : qz_C yd_Encoder_init [qz_r true 2 l0] h (fn_Encoder_init l0 h) := by
  refine qz_con (is := bk_Encoder_init_0) (ls := [qz_r true 2 l0]) mw_Encoder_init.2.2.2 ca_Encoder_init_0 rfl rfl fun G => ?_
  unfold fn_Encoder_init bk_Encoder_init_0; exact
    qz_aload_n rfl <|
    qz_objI oi_Encoder_3 rfl <|
    qz_aload_n rfl <|
    qz_sipush rfl <|
    qz_newa (N := 1024) rfl rfl (by decide) rfl rfl rfl (by decide) wa_byte rfl fun h1 q2 =>
    qz_putR (k1 := 43) kw_2 fp_Encoder_11_Encoder_init rfl rfl fun h3 =>
    qz_aload_n rfl <|
    qz_iconst rfl <|
    qz_newa (N := 4) rfl rfl (by decide) rfl rfl rfl (by decide) wa_int rfl fun h4 q5 =>
    qz_putR (k1 := 40) kw_2 fp_Encoder_15_Encoder_init rfl rfl fun h6 =>
    qz_return ⟨rfl, rfl⟩ rfl
def fn_Printer_init (l0 : Int) (l1 : Int) (h : qz_H) : Option qz_R :=
  qz_ck ((0 : Int) < l0) <|
  qz_bn (qz_up h l0 0 l1) fun h1 =>
  some (0, h1)
def bk_Printer_init_0 : List (Instr × Nat) := [(.aload_n 0, 1), (.invokespecial 3, 3), (.aload_n 0, 1), (.aload_n 1, 1), (.putfield 9, 3), (.return_, 1)]
theorem ca_Printer_init_0 : qz_ca yd_Printer_init.2.1 0 bk_Printer_init_0 := qz_cab_ok _ _ (by decide +kernel)
set_option maxRecDepth 20000 in
theorem cn_Printer_init (l0 : Int) (l1 : Int) (h : qz_H) : qz_C yd_Printer_init [qz_r true 8 l0, qz_r false 11 l1] h (fn_Printer_init l0 l1 h) := by
  refine qz_con (is := bk_Printer_init_0) (ls := [qz_r true 8 l0, qz_r false 11 l1]) mw_Printer_init.2.2.2 ca_Printer_init_0 rfl rfl fun G => ?_
  unfold fn_Printer_init bk_Printer_init_0; exact
    qz_aload_n rfl <|
    qz_objI oi_Printer_3 rfl <|
    qz_aload_n rfl <|
    qz_aload_n rfl <|
    qz_putR (k1 := 11) kw_8 fp_Printer_9_Printer_init rfl rfl fun h1 =>
    qz_return ⟨rfl, rfl⟩ rfl
def fn_SA_init (l0 : Int) (h : qz_H) : Option qz_R :=
  qz_mk h 11 0 fun h1 q2 =>
  qz_bc (fn_Text_init q2 h1) fun _ h4 =>
  qz_ck ((0 : Int) < l0) <|
  qz_bn (qz_up h4 l0 4 q2) fun h5 =>
  qz_mk h5 11 0 fun h6 q7 =>
  qz_bc (fn_Text_init q7 h6) fun _ h9 =>
  qz_ck ((0 : Int) < l0) <|
  qz_bn (qz_up h9 l0 5 q7) fun h10 =>
  qz_mk h10 6 0 fun h11 q12 =>
  qz_bc (fn_Module_init q12 h11) fun _ h14 =>
  qz_ck ((0 : Int) < l0) <|
  qz_bn (qz_up h14 l0 6 q12) fun h15 =>
  qz_mk h15 6 0 fun h16 q17 =>
  qz_bc (fn_Module_init q17 h16) fun _ h19 =>
  qz_ck ((0 : Int) < l0) <|
  qz_bn (qz_up h19 l0 7 q17) fun h20 =>
  qz_mk h20 9 0 fun h21 q22 =>
  qz_bc (fn_Reader_init q22 (h21 l0 4) (h21 l0 7) h21) fun _ h24 =>
  qz_ck ((0 : Int) < l0) <|
  qz_bn (qz_up h24 l0 0 q22) fun h25 =>
  qz_mk h25 1 0 fun h26 q27 =>
  qz_bc (fn_Checker_init q27 (h26 l0 7) h26) fun _ h29 =>
  qz_ck ((0 : Int) < l0) <|
  qz_bn (qz_up h29 l0 1 q27) fun h30 =>
  qz_mk h30 2 0 fun h31 q32 =>
  qz_bc (fn_Encoder_init q32 h31) fun _ h34 =>
  qz_ck ((0 : Int) < l0) <|
  qz_bn (qz_up h34 l0 2 q32) fun h35 =>
  qz_mk h35 8 0 fun h36 q37 =>
  qz_bc (fn_Printer_init q37 (h36 l0 5) h36) fun _ h39 =>
  qz_ck ((0 : Int) < l0) <|
  qz_bn (qz_up h39 l0 3 q37) fun h40 =>
  some (0, h40)
def bk_SA_init_0 : List (Instr × Nat) := [(.aload_n 0, 1), (.invokespecial 1, 3), (.aload_n 0, 1), (.new 7, 3), (.dup, 1), (.invokespecial 9, 3), (.putfield 10, 3), (.aload_n 0, 1), (.new 7, 3), (.dup, 1), (.invokespecial 9, 3), (.putfield 16, 3), (.aload_n 0, 1), (.new 19, 3), (.dup, 1), (.invokespecial 21, 3), (.putfield 22, 3), (.aload_n 0, 1), (.new 19, 3), (.dup, 1), (.invokespecial 21, 3), (.putfield 26, 3), (.aload_n 0, 1), (.new 29, 3), (.dup, 1), (.aload_n 0, 1), (.getfield 10, 3), (.aload_n 0, 1), (.getfield 26, 3), (.invokespecial 31, 3), (.putfield 34, 3), (.aload_n 0, 1), (.new 38, 3), (.dup, 1), (.aload_n 0, 1), (.getfield 26, 3), (.invokespecial 40, 3), (.putfield 43, 3), (.aload_n 0, 1), (.new 47, 3), (.dup, 1), (.invokespecial 49, 3), (.putfield 50, 3), (.aload_n 0, 1), (.new 54, 3), (.dup, 1), (.aload_n 0, 1), (.getfield 16, 3), (.invokespecial 56, 3), (.putfield 59, 3), (.return_, 1)]
theorem ca_SA_init_0 : qz_ca yd_SA_init.2.1 0 bk_SA_init_0 := qz_cab_ok _ _ (by decide +kernel)
set_option maxRecDepth 20000 in
theorem cn_SA_init (l0 : Int) (h : qz_H) : qz_C yd_SA_init [qz_r true 0 l0] h (fn_SA_init l0 h) := by
  refine qz_con (is := bk_SA_init_0) (ls := [qz_r true 0 l0]) mw_SA_init.2.2.2 ca_SA_init_0 rfl rfl fun G => ?_
  unfold fn_SA_init bk_SA_init_0; exact
    qz_aload_n rfl <|
    qz_objI oi_SA_1 rfl <|
    qz_aload_n rfl <|
    qz_new kw_11 rfl nw_SA_7 rfl fun h1 q2 =>
    qz_dup rfl <|
    qz_inviV [] rfl (cn_Text_init q2 h1) mw_Text_init vi_Text_init rfl rfl ln_SA_9 rfl fun _ h4 =>
    qz_putR (k1 := 11) kw_0 fp_SA_10_SA_init rfl rfl fun h5 =>
    qz_aload_n rfl <|
    qz_new kw_11 rfl nw_SA_7 rfl fun h6 q7 =>
    qz_dup rfl <|
    qz_inviV [] rfl (cn_Text_init q7 h6) mw_Text_init vi_Text_init rfl rfl ln_SA_9 rfl fun _ h9 =>
    qz_putR (k1 := 11) kw_0 fp_SA_16_SA_init rfl rfl fun h10 =>
    qz_aload_n rfl <|
    qz_new kw_6 rfl nw_SA_19 rfl fun h11 q12 =>
    qz_dup rfl <|
    qz_inviV [] rfl (cn_Module_init q12 h11) mw_Module_init vi_Module_init rfl rfl ln_SA_21 rfl fun _ h14 =>
    qz_putR (k1 := 6) kw_0 fp_SA_22_SA_init rfl rfl fun h15 =>
    qz_aload_n rfl <|
    qz_new kw_6 rfl nw_SA_19 rfl fun h16 q17 =>
    qz_dup rfl <|
    qz_inviV [] rfl (cn_Module_init q17 h16) mw_Module_init vi_Module_init rfl rfl ln_SA_21 rfl fun _ h19 =>
    qz_putR (k1 := 6) kw_0 fp_SA_26_SA_init rfl rfl fun h20 =>
    qz_aload_n rfl <|
    qz_new kw_9 rfl nw_SA_29 rfl fun h21 q22 =>
    qz_dup rfl <|
    qz_aload_n rfl <|
    qz_getR (k1 := 11) kg_0 fl_SA_10 rfl rfl <|
    qz_aload_n rfl <|
    qz_getR (k1 := 6) kg_0 fl_SA_26 rfl rfl <|
    qz_inviV [qz_r false 11 (h21 l0 4), qz_r false 6 (h21 l0 7)] rfl (cn_Reader_init q22 (h21 l0 4) (h21 l0 7) h21) mw_Reader_init vi_Reader_init rfl rfl ln_SA_31 rfl fun _ h24 =>
    qz_putR (k1 := 9) kw_0 fp_SA_34_SA_init rfl rfl fun h25 =>
    qz_aload_n rfl <|
    qz_new kw_1 rfl nw_SA_38 rfl fun h26 q27 =>
    qz_dup rfl <|
    qz_aload_n rfl <|
    qz_getR (k1 := 6) kg_0 fl_SA_26 rfl rfl <|
    qz_inviV [qz_r false 6 (h26 l0 7)] rfl (cn_Checker_init q27 (h26 l0 7) h26) mw_Checker_init vi_Checker_init rfl rfl ln_SA_40 rfl fun _ h29 =>
    qz_putR (k1 := 1) kw_0 fp_SA_43_SA_init rfl rfl fun h30 =>
    qz_aload_n rfl <|
    qz_new kw_2 rfl nw_SA_47 rfl fun h31 q32 =>
    qz_dup rfl <|
    qz_inviV [] rfl (cn_Encoder_init q32 h31) mw_Encoder_init vi_Encoder_init rfl rfl ln_SA_49 rfl fun _ h34 =>
    qz_putR (k1 := 2) kw_0 fp_SA_50_SA_init rfl rfl fun h35 =>
    qz_aload_n rfl <|
    qz_new kw_8 rfl nw_SA_54 rfl fun h36 q37 =>
    qz_dup rfl <|
    qz_aload_n rfl <|
    qz_getR (k1 := 11) kg_0 fl_SA_16 rfl rfl <|
    qz_inviV [qz_r false 11 (h36 l0 5)] rfl (cn_Printer_init q37 (h36 l0 5) h36) mw_Printer_init vi_Printer_init rfl rfl ln_SA_56 rfl fun _ h39 =>
    qz_putR (k1 := 8) kw_0 fp_SA_59_SA_init rfl rfl fun h40 =>
    qz_return ⟨rfl, rfl⟩ rfl
def fn_Text_add_27 (l0 : Int) (h : qz_H) : Option qz_R :=
  qz_ck ((0 : Int) < l0) <|
  qz_bn (qz_up h l0 1 (qz_w ((h l0 1) + 1))) fun h1 =>
  some (0, h1)
def fn_Text_add (l0 : Int) (l1 : Int) (h : qz_H) : Option qz_R :=
  if h l0 1 < 0 then
    fn_Text_add_27 l0 h
  else
    if 320 ≤ h l0 1 then
      fn_Text_add_27 l0 h
    else
      qz_ck ((h l0 0 : Int) ≠ 0) <|
      qz_ck (0 < h l0 0 ∧ (0 : Int) ≤ h l0 1 ∧ h l0 1 < h (h l0 0) (-1)) <|
      qz_bn (qz_up h (h l0 0) (h l0 1) (qz_nc l1)) fun h1 =>
      fn_Text_add_27 l0 h1
def bk_Text_add_0 : List (Instr × Nat) := [(.aload_n 0, 1), (.getfield 15, 3), (.ifCond .lt 23, 3), (.aload_n 0, 1), (.getfield 15, 3), (.sipush 320, 3), (.if_icmp .ge 13, 3), (.aload_n 0, 1), (.getfield 9, 3), (.aload_n 0, 1), (.getfield 15, 3), (.iload_n 1, 1), (.castore, 1)]
def bk_Text_add_27 : List (Instr × Nat) := [(.aload_n 0, 1), (.dup, 1), (.getfield 15, 3), (.iconst 1, 1), (.iadd, 1), (.putfield 15, 3), (.return_, 1)]
theorem ca_Text_add_0 : qz_ca yd_Text_add.2.1 0 bk_Text_add_0 := qz_cab_ok _ _ (by decide +kernel)
theorem ca_Text_add_27 : qz_ca yd_Text_add.2.1 27 bk_Text_add_27 := qz_cab_ok _ _ (by decide +kernel)
set_option maxRecDepth 20000 in
theorem jb_Text_add_27 (G : qz_G) (l0 : Int) (h : qz_H) : qz_J yd_Text_add G bk_Text_add_27 27 [qz_r true 11 l0, qz_u] [] h 0 0 (fn_Text_add_27 l0 h) := by
  unfold fn_Text_add_27 bk_Text_add_27; exact
    qz_aload_n rfl <|
    qz_dup rfl <|
    qz_getI kg_11 fl_Text_15 rfl rfl <|
    qz_iconst rfl <|
    qz_iadd <|
    qz_putI kw_11 fp_Text_15_Text_add rfl rfl fun h1 =>
    qz_return ⟨rfl, rfl⟩ rfl
set_option maxRecDepth 20000 in
theorem cn_Text_add (l0 : Int) (l1 : Int) (h : qz_H) : qz_C yd_Text_add [qz_r true 11 l0, qz_i l1] h (fn_Text_add l0 l1 h) := by
  refine qz_con (is := bk_Text_add_0) (ls := [qz_r true 11 l0, qz_i l1]) mw_Text_add.2.2.2 ca_Text_add_0 rfl rfl fun G => ?_
  unfold fn_Text_add bk_Text_add_0; exact
    qz_aload_n rfl <|
    qz_getI kg_11 fl_Text_15 rfl rfl <|
    qz_if_lt rfl ca_Text_add_27
      (qz_fgt [1, 0] <| jb_Text_add_27 G l0 h)
      (qz_aload_n rfl <|
        qz_getI kg_11 fl_Text_15 rfl rfl <|
        qz_sipush rfl <|
        qz_icmp_ge rfl ca_Text_add_27
          (qz_fgt [1, 0] <| jb_Text_add_27 G l0 h)
          (qz_aload_n rfl <|
            qz_getR (k1 := 42) kg_11 fl_Text_9 rfl rfl <|
            qz_aload_n rfl <|
            qz_getI kg_11 fl_Text_15 rfl rfl <|
            qz_iload_n rfl <|
            qz_nnd 2 rfl <|
            qz_cast rfl rfl rfl fun h1 =>
            qz_fall rfl ca_Text_add_27 <|
            qz_fgt [1, 0] <| jb_Text_add_27 G l0 h1))
def fn_Text_addBytes_115 (k87 : Int → Int → Int → qz_H → Option qz_R) (l0 : Int) (l1 : Int) (l4 : Int) (h : qz_H) : Option qz_R :=
  qz_bn (qz_w (l4 + (-8))) fun x1 =>
  k87 l0 l1 x1 h
def fn_Text_addBytes_87_b (k87 : Int → Int → Int → qz_H → Option qz_R) (l0 : Int) (l1 : Int) (l4 : Int) (h : qz_H) : Option qz_R :=
  if l4 < 0 then
    qz_ck ((1 : Int) = 0 ∨ (1 : Int) = 1) (some (1, h))
  else
    qz_bn (qz_and (qz_w (qz_ushJ l1 l4)) 255 : Int) fun x1 =>
    if x1 = 0 then
      fn_Text_addBytes_115 k87 l0 l1 l4 h
    else
      qz_bc (fn_Text_add l0 (qz_i2c x1) h) fun _ h3 =>
      fn_Text_addBytes_115 k87 l0 l1 l4 h3
def fn_Text_addBytes_87 : Nat → Int → Int → Int → qz_H → Option qz_R
  | 0, _, _, _, _ => none
  | n + 1, l0, l1, l4, h => fn_Text_addBytes_87_b (fn_Text_addBytes_87 n) l0 l1 l4 h
def fn_Text_addBytes_61 (k6 : Int → Int → Int → Int → qz_H → Option qz_R) (l0 : Int) (l1 : Int) (l4 : Int) (s0 : Int) (s1 : Int) (h : qz_H) : Option qz_R :=
  qz_bn (qz_w (s0 + s1) : Int) fun x1 =>
  qz_bn (qz_w (l4 + (-8))) fun x2 =>
  k6 l0 l1 x1 x2 h
def fn_Text_addBytes_50 (k6 : Int → Int → Int → Int → qz_H → Option qz_R) (l0 : Int) (l1 : Int) (l3 : Int) (l4 : Int) (l5 : Int) (h : qz_H) : Option qz_R :=
  if ¬ l5 = 0 then
    fn_Text_addBytes_61 k6 l0 l1 l4 l3 1 h
  else
    fn_Text_addBytes_61 k6 l0 l1 l4 l3 0 h
def fn_Text_addBytes_48 (h : qz_H) : Option qz_R :=
  qz_ck ((0 : Int) = 0 ∨ (0 : Int) = 1) (some (0, h))
def fn_Text_addBytes_6_b (k6 : Int → Int → Int → Int → qz_H → Option qz_R) (l0 : Int) (l1 : Int) (l3 : Int) (l4 : Int) (h : qz_H) : Option qz_R :=
  if l4 < 0 then
    if qz_w ((h l0 1) + l3) ≤ 320 then
      qz_bn (56 : Int) fun x1 =>
      fn_Text_addBytes_87 qz_NF l0 l1 x1 h
    else
      qz_ck ((0 : Int) = 0 ∨ (0 : Int) = 1) (some (0, h))
  else
    qz_bn (qz_and (qz_w (qz_ushJ l1 l4)) 255 : Int) fun x2 =>
    if x2 = 0 then
      fn_Text_addBytes_50 k6 l0 l1 l3 l4 x2 h
    else
      if x2 = 10 then
        fn_Text_addBytes_50 k6 l0 l1 l3 l4 x2 h
      else
        if x2 < 32 then
          fn_Text_addBytes_48 h
        else
          if x2 ≤ 126 then
            fn_Text_addBytes_50 k6 l0 l1 l3 l4 x2 h
          else
            fn_Text_addBytes_48 h
def fn_Text_addBytes_6 : Nat → Int → Int → Int → Int → qz_H → Option qz_R
  | 0, _, _, _, _, _ => none
  | n + 1, l0, l1, l3, l4, h => fn_Text_addBytes_6_b (fn_Text_addBytes_6 n) l0 l1 l3 l4 h
def fn_Text_addBytes (l0 : Int) (l1 : Int) (h : qz_H) : Option qz_R :=
  qz_bn (0 : Int) fun x1 =>
  qz_bn (56 : Int) fun x2 =>
  fn_Text_addBytes_6 qz_NF l0 l1 x1 x2 h
def bk_Text_addBytes_0 : List (Instr × Nat) := [(.iconst 0, 1), (.istore_n 3, 1), (.bipush 56, 2), (.istore 4, 2)]
def bk_Text_addBytes_6 : List (Instr × Nat) := [(.iload 4, 2), (.ifCond .lt 61, 3), (.lload_n 1, 1), (.iload 4, 2), (.lushr, 1), (.l2i, 1), (.sipush 255, 3), (.iand, 1), (.istore 5, 2), (.iload 5, 2), (.ifCond .eq 26, 3), (.iload 5, 2), (.bipush 10, 2), (.if_icmp .eq 19, 3), (.iload 5, 2), (.bipush 32, 2), (.if_icmp .lt 10, 3), (.iload 5, 2), (.bipush 126, 2), (.if_icmp .le 5, 3)]
def bk_Text_addBytes_69 : List (Instr × Nat) := [(.aload_n 0, 1), (.getfield 15, 3), (.iload_n 3, 1), (.iadd, 1), (.sipush 320, 3), (.if_icmp .le 5, 3), (.iconst 0, 1), (.ireturn, 1)]
def bk_Text_addBytes_83 : List (Instr × Nat) := [(.bipush 56, 2), (.istore 4, 2)]
def bk_Text_addBytes_87 : List (Instr × Nat) := [(.iload 4, 2), (.ifCond .lt 32, 3), (.lload_n 1, 1), (.iload 4, 2), (.lushr, 1), (.l2i, 1), (.sipush 255, 3), (.iand, 1), (.istore 5, 2), (.iload 5, 2), (.ifCond .eq 10, 3), (.aload_n 0, 1), (.iload 5, 2), (.i2c, 1), (.invokevirtual 28, 3)]
def bk_Text_addBytes_50 : List (Instr × Nat) := [(.iload_n 3, 1), (.iload 5, 2), (.ifCond .ne 7, 3), (.iconst 0, 1), (.goto 4, 3)]
def bk_Text_addBytes_48 : List (Instr × Nat) := [(.iconst 0, 1), (.ireturn, 1)]
def bk_Text_addBytes_121 : List (Instr × Nat) := [(.iconst 1, 1), (.ireturn, 1)]
def bk_Text_addBytes_115 : List (Instr × Nat) := [(.iinc 4 (-8), 3), (.goto (-31), 3)]
def bk_Text_addBytes_60 : List (Instr × Nat) := [(.iconst 1, 1)]
def bk_Text_addBytes_61 : List (Instr × Nat) := [(.iadd, 1), (.istore_n 3, 1), (.iinc 4 (-8), 3), (.goto (-60), 3)]
theorem ca_Text_addBytes_0 : qz_ca yd_Text_addBytes.2.1 0 bk_Text_addBytes_0 := qz_cab_ok _ _ (by decide +kernel)
theorem ca_Text_addBytes_6 : qz_ca yd_Text_addBytes.2.1 6 bk_Text_addBytes_6 := qz_cab_ok _ _ (by decide +kernel)
theorem ca_Text_addBytes_69 : qz_ca yd_Text_addBytes.2.1 69 bk_Text_addBytes_69 := qz_cab_ok _ _ (by decide +kernel)
theorem ca_Text_addBytes_83 : qz_ca yd_Text_addBytes.2.1 83 bk_Text_addBytes_83 := qz_cab_ok _ _ (by decide +kernel)
theorem ca_Text_addBytes_87 : qz_ca yd_Text_addBytes.2.1 87 bk_Text_addBytes_87 := qz_cab_ok _ _ (by decide +kernel)
theorem ca_Text_addBytes_50 : qz_ca yd_Text_addBytes.2.1 50 bk_Text_addBytes_50 := qz_cab_ok _ _ (by decide +kernel)
theorem ca_Text_addBytes_48 : qz_ca yd_Text_addBytes.2.1 48 bk_Text_addBytes_48 := qz_cab_ok _ _ (by decide +kernel)
theorem ca_Text_addBytes_121 : qz_ca yd_Text_addBytes.2.1 121 bk_Text_addBytes_121 := qz_cab_ok _ _ (by decide +kernel)
theorem ca_Text_addBytes_115 : qz_ca yd_Text_addBytes.2.1 115 bk_Text_addBytes_115 := qz_cab_ok _ _ (by decide +kernel)
theorem ca_Text_addBytes_60 : qz_ca yd_Text_addBytes.2.1 60 bk_Text_addBytes_60 := qz_cab_ok _ _ (by decide +kernel)
theorem ca_Text_addBytes_61 : qz_ca yd_Text_addBytes.2.1 61 bk_Text_addBytes_61 := qz_cab_ok _ _ (by decide +kernel)
set_option maxRecDepth 20000 in
theorem jb_Text_addBytes_115 (G : qz_G) (k87 : Int → Int → Int → qz_H → Option qz_R) (jk87 : ∀ (l0 : Int) (l1 : Int) (l4 : Int) (h : qz_H), qz_J yd_Text_addBytes G bk_Text_addBytes_87 87 [qz_r true 11 l0, qz_j l1, qz_u, qz_u, qz_i l4, qz_u] [] h 0 0 (k87 l0 l1 l4 h)) (l0 : Int) (l1 : Int) (l4 : Int) (h : qz_H) : qz_J yd_Text_addBytes G bk_Text_addBytes_115 115 [qz_r true 11 l0, qz_j l1, qz_u, qz_u, qz_i l4, qz_u] [] h 0 0 (fn_Text_addBytes_115 k87 l0 l1 l4 h) := by
  unfold fn_Text_addBytes_115 bk_Text_addBytes_115; exact
    qz_iinc rfl (by decide) fun x1 =>
    qz_goto rfl ca_Text_addBytes_87 <|
    qz_fgt [1, 1, 0, 0, 1, 0] <| jk87 l0 l1 x1 h
set_option maxRecDepth 20000 in
theorem jb_Text_addBytes_87_b (G : qz_G) (k87 : Int → Int → Int → qz_H → Option qz_R) (jk87 : ∀ (l0 : Int) (l1 : Int) (l4 : Int) (h : qz_H), qz_J yd_Text_addBytes G bk_Text_addBytes_87 87 [qz_r true 11 l0, qz_j l1, qz_u, qz_u, qz_i l4, qz_u] [] h 0 0 (k87 l0 l1 l4 h)) (l0 : Int) (l1 : Int) (l4 : Int) (h : qz_H) : qz_J yd_Text_addBytes G bk_Text_addBytes_87 87 [qz_r true 11 l0, qz_j l1, qz_u, qz_u, qz_i l4, qz_u] [] h 0 0 (fn_Text_addBytes_87_b k87 l0 l1 l4 h) := by
  unfold fn_Text_addBytes_87_b bk_Text_addBytes_87; exact
    qz_iload rfl <|
    qz_if_lt rfl ca_Text_addBytes_121
      (qz_iconst rfl <|
        qz_zreturn ⟨rfl, rfl⟩ rfl)
      (qz_lload_n rfl <|
        qz_iload rfl <|
        qz_lushr <|
        qz_l2i <|
        qz_sipush rfl <|
        qz_iand <|
        qz_istore (by decide) fun x1 =>
        qz_iload rfl <|
        qz_if_eq rfl ca_Text_addBytes_115
          (qz_fgt [1, 1, 0, 0, 1, 0] <| jb_Text_addBytes_115 G k87 jk87 l0 l1 l4 h)
          (qz_aload_n rfl <|
            qz_iload rfl <|
            qz_ins_i2c <|
            qz_invvV [qz_i (qz_i2c x1)] rfl (cn_Text_add l0 (qz_i2c x1) h) mw_Text_add vw_Text_add ⟨_, rfl, rfl, by decide⟩ rfl rfl ln_Text_28 rfl fun _ h3 =>
            qz_fall rfl ca_Text_addBytes_115 <|
            qz_fgt [1, 1, 0, 0, 1, 0] <| jb_Text_addBytes_115 G k87 jk87 l0 l1 l4 h3))
theorem jb_Text_addBytes_87 (G : qz_G) : ∀ (n : Nat) (l0 l1 l4 : Int) (h : qz_H), qz_J yd_Text_addBytes G bk_Text_addBytes_87 87 [qz_r true 11 l0, qz_j l1, qz_u, qz_u, qz_i l4, qz_u] [] h 0 0 (fn_Text_addBytes_87 n l0 l1 l4 h)
  | 0, _, _, _, _ => qz_none
  | n + 1, l0, l1, l4, h => jb_Text_addBytes_87_b G (fn_Text_addBytes_87 n) (jb_Text_addBytes_87 G n) l0 l1 l4 h
set_option maxRecDepth 20000 in
theorem jb_Text_addBytes_61 (G : qz_G) (k6 : Int → Int → Int → Int → qz_H → Option qz_R) (jk6 : ∀ (l0 : Int) (l1 : Int) (l3 : Int) (l4 : Int) (h : qz_H), qz_J yd_Text_addBytes G bk_Text_addBytes_6 6 [qz_r true 11 l0, qz_j l1, qz_u, qz_i l3, qz_i l4, qz_u] [] h 0 0 (k6 l0 l1 l3 l4 h)) (l0 : Int) (l1 : Int) (l4 : Int) (s0 : Int) (s1 : Int) (h : qz_H) : qz_J yd_Text_addBytes G bk_Text_addBytes_61 61 [qz_r true 11 l0, qz_j l1, qz_u, qz_u, qz_i l4, qz_u] [qz_i s1, qz_i s0] h 0 0 (fn_Text_addBytes_61 k6 l0 l1 l4 s0 s1 h) := by
  unfold fn_Text_addBytes_61 bk_Text_addBytes_61; exact
    qz_iadd <|
    qz_istore_n (by decide) fun x1 =>
    qz_iinc rfl (by decide) fun x2 =>
    qz_goto rfl ca_Text_addBytes_6 <|
    qz_fgt [1, 1, 0, 1, 1, 0] <| jk6 l0 l1 x1 x2 h
set_option maxRecDepth 20000 in
theorem jb_Text_addBytes_50 (G : qz_G) (k6 : Int → Int → Int → Int → qz_H → Option qz_R) (jk6 : ∀ (l0 : Int) (l1 : Int) (l3 : Int) (l4 : Int) (h : qz_H), qz_J yd_Text_addBytes G bk_Text_addBytes_6 6 [qz_r true 11 l0, qz_j l1, qz_u, qz_i l3, qz_i l4, qz_u] [] h 0 0 (k6 l0 l1 l3 l4 h)) (l0 : Int) (l1 : Int) (l3 : Int) (l4 : Int) (l5 : Int) (h : qz_H) : qz_J yd_Text_addBytes G bk_Text_addBytes_50 50 [qz_r true 11 l0, qz_j l1, qz_u, qz_i l3, qz_i l4, qz_i l5] [] h 0 0 (fn_Text_addBytes_50 k6 l0 l1 l3 l4 l5 h) := by
  unfold fn_Text_addBytes_50 bk_Text_addBytes_50; exact
    qz_iload_n rfl <|
    qz_iload rfl <|
    qz_if_ne rfl ca_Text_addBytes_60
      (qz_iconst rfl <|
        qz_fall rfl ca_Text_addBytes_61 <|
        qz_fgt [1, 1, 0, 0, 1, 0] <| jb_Text_addBytes_61 G k6 jk6 l0 l1 l4 l3 1 h)
      (qz_iconst rfl <|
        qz_goto rfl ca_Text_addBytes_61 <|
        qz_fgt [1, 1, 0, 0, 1, 0] <| jb_Text_addBytes_61 G k6 jk6 l0 l1 l4 l3 0 h)
set_option maxRecDepth 20000 in
theorem jb_Text_addBytes_48 (G : qz_G) (h : qz_H) : qz_J yd_Text_addBytes G bk_Text_addBytes_48 48 [qz_u, qz_u, qz_u, qz_u, qz_u, qz_u] [] h 0 0 (fn_Text_addBytes_48 h) := by
  unfold fn_Text_addBytes_48 bk_Text_addBytes_48; exact
    qz_iconst rfl <|
    qz_zreturn ⟨rfl, rfl⟩ rfl
set_option maxRecDepth 20000 in
theorem jb_Text_addBytes_6_b (G : qz_G) (k6 : Int → Int → Int → Int → qz_H → Option qz_R) (jk6 : ∀ (l0 : Int) (l1 : Int) (l3 : Int) (l4 : Int) (h : qz_H), qz_J yd_Text_addBytes G bk_Text_addBytes_6 6 [qz_r true 11 l0, qz_j l1, qz_u, qz_i l3, qz_i l4, qz_u] [] h 0 0 (k6 l0 l1 l3 l4 h)) (l0 : Int) (l1 : Int) (l3 : Int) (l4 : Int) (h : qz_H) : qz_J yd_Text_addBytes G bk_Text_addBytes_6 6 [qz_r true 11 l0, qz_j l1, qz_u, qz_i l3, qz_i l4, qz_u] [] h 0 0 (fn_Text_addBytes_6_b k6 l0 l1 l3 l4 h) := by
  unfold fn_Text_addBytes_6_b bk_Text_addBytes_6; exact
    qz_iload rfl <|
    qz_if_lt rfl ca_Text_addBytes_69
      (qz_aload_n rfl <|
        qz_getI kg_11 fl_Text_15 rfl rfl <|
        qz_iload_n rfl <|
        qz_iadd <|
        qz_sipush rfl <|
        qz_icmp_le rfl ca_Text_addBytes_83
          (qz_bipush rfl <|
            qz_istore (by decide) fun x1 =>
            qz_fall rfl ca_Text_addBytes_87 <|
            qz_fgt [1, 1, 0, 0, 1, 0] <| jb_Text_addBytes_87 G qz_NF l0 l1 x1 h)
          (qz_iconst rfl <|
            qz_zreturn ⟨rfl, rfl⟩ rfl))
      (qz_lload_n rfl <|
        qz_iload rfl <|
        qz_lushr <|
        qz_l2i <|
        qz_sipush rfl <|
        qz_iand <|
        qz_istore (by decide) fun x2 =>
        qz_iload rfl <|
        qz_if_eq rfl ca_Text_addBytes_50
          (qz_fgt [1, 1, 0, 1, 1, 1] <| jb_Text_addBytes_50 G k6 jk6 l0 l1 l3 l4 x2 h)
          (qz_iload rfl <|
            qz_bipush rfl <|
            qz_icmp_eq rfl ca_Text_addBytes_50
              (qz_fgt [1, 1, 0, 1, 1, 1] <| jb_Text_addBytes_50 G k6 jk6 l0 l1 l3 l4 x2 h)
              (qz_iload rfl <|
                qz_bipush rfl <|
                qz_icmp_lt rfl ca_Text_addBytes_48
                  (qz_fgt [0, 0, 0, 0, 0, 0] <| jb_Text_addBytes_48 G h)
                  (qz_iload rfl <|
                    qz_bipush rfl <|
                    qz_icmp_le rfl ca_Text_addBytes_50
                      (qz_fgt [1, 1, 0, 1, 1, 1] <| jb_Text_addBytes_50 G k6 jk6 l0 l1 l3 l4 x2 h)
                      (qz_fall rfl ca_Text_addBytes_48 <|
                        qz_fgt [0, 0, 0, 0, 0, 0] <| jb_Text_addBytes_48 G h)))))
theorem jb_Text_addBytes_6 (G : qz_G) : ∀ (n : Nat) (l0 l1 l3 l4 : Int) (h : qz_H), qz_J yd_Text_addBytes G bk_Text_addBytes_6 6 [qz_r true 11 l0, qz_j l1, qz_u, qz_i l3, qz_i l4, qz_u] [] h 0 0 (fn_Text_addBytes_6 n l0 l1 l3 l4 h)
  | 0, _, _, _, _, _ => qz_none
  | n + 1, l0, l1, l3, l4, h => jb_Text_addBytes_6_b G (fn_Text_addBytes_6 n) (jb_Text_addBytes_6 G n) l0 l1 l3 l4 h
set_option maxRecDepth 20000 in
theorem cn_Text_addBytes (l0 : Int) (l1 : Int) (h : qz_H) : qz_C yd_Text_addBytes [qz_r true 11 l0, qz_j l1] h (fn_Text_addBytes l0 l1 h) := by
  refine qz_con (is := bk_Text_addBytes_0) (ls := [qz_r true 11 l0, qz_j l1, qz_u, qz_u, qz_u, qz_u]) mw_Text_addBytes.2.2.2 ca_Text_addBytes_0 rfl rfl fun G => ?_
  unfold fn_Text_addBytes bk_Text_addBytes_0; exact
    qz_iconst rfl <|
    qz_istore_n (by decide) fun x1 =>
    qz_bipush rfl <|
    qz_istore (by decide) fun x2 =>
    qz_fall rfl ca_Text_addBytes_6 <|
    qz_fgt [1, 1, 0, 1, 1, 0] <| jb_Text_addBytes_6 G qz_NF l0 l1 x1 x2 h
def fn_SA_type (l0 : Int) (l1 : Int) (h : qz_H) : Option qz_R :=
  qz_ck ((h l0 4 : Int) ≠ 0) <|
  qz_bc (fn_Text_addBytes (h l0 4) l1 h) fun r1 h2 =>
  qz_ck ((r1 : Int) = 0 ∨ (r1 : Int) = 1) (some (r1, h2))
def bk_SA_type_0 : List (Instr × Nat) := [(.aload_n 0, 1), (.getfield 10, 3), (.lload_n 1, 1), (.invokevirtual 63, 3), (.ireturn, 1)]
theorem ca_SA_type_0 : qz_ca yd_SA_type.2.1 0 bk_SA_type_0 := qz_cab_ok _ _ (by decide +kernel)
set_option maxRecDepth 20000 in
theorem cn_SA_type (l0 : Int) (l1 : Int) (h : qz_H) : qz_C yd_SA_type [qz_r true 0 l0, qz_j l1] h (fn_SA_type l0 l1 h) := by
  refine qz_con (is := bk_SA_type_0) (ls := [qz_r true 0 l0, qz_j l1, qz_u]) mw_SA_type.2.2.2 ca_SA_type_0 rfl rfl fun G => ?_
  unfold fn_SA_type bk_SA_type_0; exact
    qz_aload_n rfl <|
    qz_getR (k1 := 11) kg_0 fl_SA_10 rfl rfl <|
    qz_lload_n rfl <|
    qz_nnd 1 rfl <|
    qz_invvI [qz_j l1] rfl (cn_Text_addBytes (h l0 4) l1 h) mw_Text_addBytes vw_Text_addBytes ⟨_, rfl, rfl, by decide⟩ rfl rfl ln_SA_63 rfl fun r1 h2 =>
    qz_zreturn ⟨rfl, rfl⟩ rfl
def fn_SA_wipe (l0 : Int) (h : qz_H) : Option qz_R :=
  qz_ck ((h l0 4 : Int) ≠ 0) <|
  qz_ck ((0 : Int) < h l0 4) <|
  qz_bn (qz_up h (h l0 4) 1 0) fun h1 =>
  some (0, h1)
def bk_SA_wipe_0 : List (Instr × Nat) := [(.aload_n 0, 1), (.getfield 10, 3), (.iconst 0, 1), (.putfield 67, 3), (.return_, 1)]
theorem ca_SA_wipe_0 : qz_ca yd_SA_wipe.2.1 0 bk_SA_wipe_0 := qz_cab_ok _ _ (by decide +kernel)
set_option maxRecDepth 20000 in
theorem cn_SA_wipe (l0 : Int) (h : qz_H) : qz_C yd_SA_wipe [qz_r true 0 l0] h (fn_SA_wipe l0 h) := by
  refine qz_con (is := bk_SA_wipe_0) (ls := [qz_r true 0 l0]) mw_SA_wipe.2.2.2 ca_SA_wipe_0 rfl rfl fun G => ?_
  unfold fn_SA_wipe bk_SA_wipe_0; exact
    qz_aload_n rfl <|
    qz_getR (k1 := 11) kg_0 fl_SA_10 rfl rfl <|
    qz_iconst rfl <|
    qz_nnd 1 rfl <|
    qz_putI kw_11 fp_SA_67_SA_wipe rfl rfl fun h1 =>
    qz_return ⟨rfl, rfl⟩ rfl
def fn_Text_at_29 (s0 : Int) (h : qz_H) : Option qz_R :=
  qz_ck ((0 : Int) ≤ s0 ∧ (s0 : Int) ≤ 65535) (some (s0, h))
def fn_Text_at_28 (h : qz_H) : Option qz_R :=
  fn_Text_at_29 0 h
def fn_Text_at (l0 : Int) (l1 : Int) (h : qz_H) : Option qz_R :=
  if l1 < 0 then
    fn_Text_at_28 h
  else
    if h l0 1 ≤ l1 then
      fn_Text_at_28 h
    else
      if 320 ≤ l1 then
        fn_Text_at_28 h
      else
        qz_ck ((h l0 0 : Int) ≠ 0) <|
        qz_ck ((0 : Int) ≤ l1 ∧ l1 < h (h l0 0) (-1)) <|
        fn_Text_at_29 (h (h l0 0) l1) h
def bk_Text_at_0 : List (Instr × Nat) := [(.iload_n 1, 1), (.ifCond .lt 27, 3), (.iload_n 1, 1), (.aload_n 0, 1), (.getfield 15, 3), (.if_icmp .ge 19, 3), (.iload_n 1, 1), (.sipush 320, 3), (.if_icmp .ge 12, 3), (.aload_n 0, 1), (.getfield 9, 3), (.iload_n 1, 1), (.caload, 1), (.goto 4, 3)]
def bk_Text_at_28 : List (Instr × Nat) := [(.iconst 0, 1)]
def bk_Text_at_29 : List (Instr × Nat) := [(.ireturn, 1)]
theorem ca_Text_at_0 : qz_ca yd_Text_at.2.1 0 bk_Text_at_0 := qz_cab_ok _ _ (by decide +kernel)
theorem ca_Text_at_28 : qz_ca yd_Text_at.2.1 28 bk_Text_at_28 := qz_cab_ok _ _ (by decide +kernel)
theorem ca_Text_at_29 : qz_ca yd_Text_at.2.1 29 bk_Text_at_29 := qz_cab_ok _ _ (by decide +kernel)
set_option maxRecDepth 20000 in
theorem jb_Text_at_29 (G : qz_G) (s0 : Int) (h : qz_H) : qz_J yd_Text_at G bk_Text_at_29 29 [qz_u, qz_u] [qz_i s0] h 0 0 (fn_Text_at_29 s0 h) := by
  unfold fn_Text_at_29 bk_Text_at_29; exact
    qz_creturn ⟨rfl, rfl⟩ rfl
set_option maxRecDepth 20000 in
theorem jb_Text_at_28 (G : qz_G) (h : qz_H) : qz_J yd_Text_at G bk_Text_at_28 28 [qz_u, qz_u] [] h 0 0 (fn_Text_at_28 h) := by
  unfold fn_Text_at_28 bk_Text_at_28; exact
    qz_iconst rfl <|
    qz_fall rfl ca_Text_at_29 <|
    qz_fgt [0, 0] <| jb_Text_at_29 G 0 h
set_option maxRecDepth 20000 in
theorem cn_Text_at (l0 : Int) (l1 : Int) (h : qz_H) : qz_C yd_Text_at [qz_r true 11 l0, qz_i l1] h (fn_Text_at l0 l1 h) := by
  refine qz_con (is := bk_Text_at_0) (ls := [qz_r true 11 l0, qz_i l1]) mw_Text_at.2.2.2 ca_Text_at_0 rfl rfl fun G => ?_
  unfold fn_Text_at bk_Text_at_0; exact
    qz_iload_n rfl <|
    qz_if_lt rfl ca_Text_at_28
      (qz_fgt [0, 0] <| jb_Text_at_28 G h)
      (qz_iload_n rfl <|
        qz_aload_n rfl <|
        qz_getI kg_11 fl_Text_15 rfl rfl <|
        qz_icmp_ge rfl ca_Text_at_28
          (qz_fgt [0, 0] <| jb_Text_at_28 G h)
          (qz_iload_n rfl <|
            qz_sipush rfl <|
            qz_icmp_ge rfl ca_Text_at_28
              (qz_fgt [0, 0] <| jb_Text_at_28 G h)
              (qz_aload_n rfl <|
                qz_getR (k1 := 42) kg_11 fl_Text_9 rfl rfl <|
                qz_iload_n rfl <|
                qz_nnd 1 rfl <|
                qz_cald (k0 := 42) rfl rfl rfl <|
                qz_goto rfl ca_Text_at_29 <|
                qz_fgt [0, 0] <| jb_Text_at_29 G (h (h l0 0) l1) h)))
def fn_SA_character (l0 : Int) (l1 : Int) (h : qz_H) : Option qz_R :=
  qz_ck ((h l0 4 : Int) ≠ 0) <|
  qz_bc (fn_Text_at (h l0 4) l1 h) fun r1 h2 =>
  qz_ck ((0 : Int) ≤ r1 ∧ (r1 : Int) ≤ 65535) (some (r1, h2))
def bk_SA_character_0 : List (Instr × Nat) := [(.aload_n 0, 1), (.getfield 10, 3), (.iload_n 1, 1), (.invokevirtual 71, 3), (.ireturn, 1)]
theorem ca_SA_character_0 : qz_ca yd_SA_character.2.1 0 bk_SA_character_0 := qz_cab_ok _ _ (by decide +kernel)
set_option maxRecDepth 20000 in
theorem cn_SA_character (l0 : Int) (l1 : Int) (h : qz_H) : qz_C yd_SA_character [qz_r true 0 l0, qz_i l1] h (fn_SA_character l0 l1 h) := by
  refine qz_con (is := bk_SA_character_0) (ls := [qz_r true 0 l0, qz_i l1]) mw_SA_character.2.2.2 ca_SA_character_0 rfl rfl fun G => ?_
  unfold fn_SA_character bk_SA_character_0; exact
    qz_aload_n rfl <|
    qz_getR (k1 := 11) kg_0 fl_SA_10 rfl rfl <|
    qz_iload_n rfl <|
    qz_nnd 1 rfl <|
    qz_invvI [qz_i l1] rfl (cn_Text_at (h l0 4) l1 h) mw_Text_at vw_Text_at ⟨_, rfl, rfl, by decide⟩ rfl rfl ln_SA_71 rfl fun r1 h2 =>
    qz_creturn ⟨rfl, rfl⟩ rfl
def fn_Encoder_add_38 (h : qz_H) : Option qz_R :=
  some (0, h)
def fn_Encoder_add (l0 : Int) (l1 : Int) (h : qz_H) : Option qz_R :=
  if h l0 2 < 0 then
    fn_Encoder_add_38 h
  else
    if 1024 ≤ h l0 2 then
      fn_Encoder_add_38 h
    else
      qz_ck ((h l0 0 : Int) ≠ 0) <|
      qz_ck (0 < h l0 0 ∧ (0 : Int) ≤ h l0 2 ∧ h l0 2 < h (h l0 0) (-1)) <|
      qz_bn (qz_up h (h l0 0) (h l0 2) (qz_nb (qz_i2b l1))) fun h1 =>
      qz_ck ((0 : Int) < l0) <|
      qz_bn (qz_up h1 l0 2 (qz_w ((h1 l0 2) + 1))) fun h2 =>
      fn_Encoder_add_38 h2
def bk_Encoder_add_0 : List (Instr × Nat) := [(.aload_n 0, 1), (.getfield 19, 3), (.ifCond .lt 34, 3), (.aload_n 0, 1), (.getfield 19, 3), (.sipush 1024, 3), (.if_icmp .ge 24, 3), (.aload_n 0, 1), (.getfield 11, 3), (.aload_n 0, 1), (.getfield 19, 3), (.iload_n 1, 1), (.i2b, 1), (.bastore, 1), (.aload_n 0, 1), (.dup, 1), (.getfield 19, 3), (.iconst 1, 1), (.iadd, 1), (.putfield 19, 3)]
def bk_Encoder_add_38 : List (Instr × Nat) := [(.return_, 1)]
theorem ca_Encoder_add_0 : qz_ca yd_Encoder_add.2.1 0 bk_Encoder_add_0 := qz_cab_ok _ _ (by decide +kernel)
theorem ca_Encoder_add_38 : qz_ca yd_Encoder_add.2.1 38 bk_Encoder_add_38 := qz_cab_ok _ _ (by decide +kernel)
set_option maxRecDepth 20000 in
theorem jb_Encoder_add_38 (G : qz_G) (h : qz_H) : qz_J yd_Encoder_add G bk_Encoder_add_38 38 [qz_u, qz_u] [] h 0 0 (fn_Encoder_add_38 h) := by
  unfold fn_Encoder_add_38 bk_Encoder_add_38; exact
    qz_return ⟨rfl, rfl⟩ rfl
set_option maxRecDepth 20000 in
theorem cn_Encoder_add (l0 : Int) (l1 : Int) (h : qz_H) : qz_C yd_Encoder_add [qz_r true 2 l0, qz_i l1] h (fn_Encoder_add l0 l1 h) := by
  refine qz_con (is := bk_Encoder_add_0) (ls := [qz_r true 2 l0, qz_i l1]) mw_Encoder_add.2.2.2 ca_Encoder_add_0 rfl rfl fun G => ?_
  unfold fn_Encoder_add bk_Encoder_add_0; exact
    qz_aload_n rfl <|
    qz_getI kg_2 fl_Encoder_19 rfl rfl <|
    qz_if_lt rfl ca_Encoder_add_38
      (qz_fgt [0, 0] <| jb_Encoder_add_38 G h)
      (qz_aload_n rfl <|
        qz_getI kg_2 fl_Encoder_19 rfl rfl <|
        qz_sipush rfl <|
        qz_icmp_ge rfl ca_Encoder_add_38
          (qz_fgt [0, 0] <| jb_Encoder_add_38 G h)
          (qz_aload_n rfl <|
            qz_getR (k1 := 43) kg_2 fl_Encoder_11 rfl rfl <|
            qz_aload_n rfl <|
            qz_getI kg_2 fl_Encoder_19 rfl rfl <|
            qz_iload_n rfl <|
            qz_ins_i2b <|
            qz_nnd 2 rfl <|
            qz_bast rfl rfl rfl fun h1 =>
            qz_aload_n rfl <|
            qz_dup rfl <|
            qz_getI kg_2 fl_Encoder_19 rfl rfl <|
            qz_iconst rfl <|
            qz_iadd <|
            qz_putI kw_2 fp_Encoder_19_Encoder_add rfl rfl fun h2 =>
            qz_fall rfl ca_Encoder_add_38 <|
            qz_fgt [0, 0] <| jb_Encoder_add_38 G h2))
def fn_Function_isCalledLike_75 (l2 : Int) (h : qz_H) : Option qz_R :=
  qz_ck ((l2 : Int) = 0 ∨ (l2 : Int) = 1) (some (l2, h))
def fn_Function_isCalledLike_68 (k30 : Int → Int → Int → Int → qz_H → Option qz_R) (l0 : Int) (l1 : Int) (l3 : Int) (s0 : Int) (h : qz_H) : Option qz_R :=
  qz_bn (s0 : Int) fun x1 =>
  qz_bn (qz_w (l3 + 1)) fun x2 =>
  k30 l0 l1 x1 x2 h
def fn_Function_isCalledLike_30_b (k30 : Int → Int → Int → Int → qz_H → Option qz_R) (l0 : Int) (l1 : Int) (l2 : Int) (l3 : Int) (h : qz_H) : Option qz_R :=
  if l2 = 0 then
    fn_Function_isCalledLike_75 l2 h
  else
    if h l0 1 ≤ l3 then
      fn_Function_isCalledLike_75 l2 h
    else
      if 6 ≤ l3 then
        fn_Function_isCalledLike_75 l2 h
      else
        qz_ck ((h l0 0 : Int) ≠ 0) <|
        qz_ck ((0 : Int) ≤ l3 ∧ l3 < h (h l0 0) (-1)) <|
        qz_ck ((l1 : Int) ≠ 0) <|
        qz_ck ((h l1 0 : Int) ≠ 0) <|
        qz_ck ((0 : Int) ≤ l3 ∧ l3 < h (h l1 0) (-1)) <|
        if ¬ h (h l0 0) l3 = h (h l1 0) l3 then
          fn_Function_isCalledLike_68 k30 l0 l1 l3 0 h
        else
          fn_Function_isCalledLike_68 k30 l0 l1 l3 1 h
def fn_Function_isCalledLike_30 : Nat → Int → Int → Int → Int → qz_H → Option qz_R
  | 0, _, _, _, _, _ => none
  | n + 1, l0, l1, l2, l3, h => fn_Function_isCalledLike_30_b (fn_Function_isCalledLike_30 n) l0 l1 l2 l3 h
def fn_Function_isCalledLike_27 (l0 : Int) (l1 : Int) (s0 : Int) (h : qz_H) : Option qz_R :=
  qz_bn (s0 : Int) fun x1 =>
  qz_bn (0 : Int) fun x2 =>
  fn_Function_isCalledLike_30 qz_NF l0 l1 x1 x2 h
def fn_Function_isCalledLike_26 (l0 : Int) (l1 : Int) (h : qz_H) : Option qz_R :=
  fn_Function_isCalledLike_27 l0 l1 0 h
def fn_Function_isCalledLike (l0 : Int) (l1 : Int) (h : qz_H) : Option qz_R :=
  qz_ck ((l1 : Int) ≠ 0) <|
  if ¬ h l0 1 = h l1 1 then
    fn_Function_isCalledLike_26 l0 l1 h
  else
    qz_ck ((l1 : Int) ≠ 0) <|
    if ¬ h l0 3 = h l1 3 then
      fn_Function_isCalledLike_26 l0 l1 h
    else
      fn_Function_isCalledLike_27 l0 l1 1 h
def bk_Function_isCalledLike_0 : List (Instr × Nat) := [(.aload_n 0, 1), (.getfield 15, 3), (.aload_n 1, 1), (.getfield 15, 3), (.if_icmp .ne 18, 3), (.aload_n 0, 1), (.getfield 22, 3), (.aload_n 1, 1), (.getfield 22, 3), (.if_icmp .ne 7, 3), (.iconst 1, 1), (.goto 4, 3)]
def bk_Function_isCalledLike_26 : List (Instr × Nat) := [(.iconst 0, 1)]
def bk_Function_isCalledLike_27 : List (Instr × Nat) := [(.istore_n 2, 1), (.iconst 0, 1), (.istore_n 3, 1)]
def bk_Function_isCalledLike_30 : List (Instr × Nat) := [(.iload_n 2, 1), (.ifCond .eq 44, 3), (.iload_n 3, 1), (.aload_n 0, 1), (.getfield 15, 3), (.if_icmp .ge 36, 3), (.iload_n 3, 1), (.bipush 6, 2), (.if_icmp .ge 30, 3), (.aload_n 0, 1), (.getfield 9, 3), (.iload_n 3, 1), (.iaload, 1), (.aload_n 1, 1), (.getfield 9, 3), (.iload_n 3, 1), (.iaload, 1), (.if_icmp .ne 7, 3), (.iconst 1, 1), (.goto 4, 3)]
def bk_Function_isCalledLike_75 : List (Instr × Nat) := [(.iload_n 2, 1), (.ireturn, 1)]
def bk_Function_isCalledLike_67 : List (Instr × Nat) := [(.iconst 0, 1)]
def bk_Function_isCalledLike_68 : List (Instr × Nat) := [(.istore_n 2, 1), (.iinc 3 1, 3), (.goto (-42), 3)]
theorem ca_Function_isCalledLike_0 : qz_ca yd_Function_isCalledLike.2.1 0 bk_Function_isCalledLike_0 := qz_cab_ok _ _ (by decide +kernel)
theorem ca_Function_isCalledLike_26 : qz_ca yd_Function_isCalledLike.2.1 26 bk_Function_isCalledLike_26 := qz_cab_ok _ _ (by decide +kernel)
theorem ca_Function_isCalledLike_27 : qz_ca yd_Function_isCalledLike.2.1 27 bk_Function_isCalledLike_27 := qz_cab_ok _ _ (by decide +kernel)
theorem ca_Function_isCalledLike_30 : qz_ca yd_Function_isCalledLike.2.1 30 bk_Function_isCalledLike_30 := qz_cab_ok _ _ (by decide +kernel)
theorem ca_Function_isCalledLike_75 : qz_ca yd_Function_isCalledLike.2.1 75 bk_Function_isCalledLike_75 := qz_cab_ok _ _ (by decide +kernel)
theorem ca_Function_isCalledLike_67 : qz_ca yd_Function_isCalledLike.2.1 67 bk_Function_isCalledLike_67 := qz_cab_ok _ _ (by decide +kernel)
theorem ca_Function_isCalledLike_68 : qz_ca yd_Function_isCalledLike.2.1 68 bk_Function_isCalledLike_68 := qz_cab_ok _ _ (by decide +kernel)
set_option maxRecDepth 20000 in
theorem jb_Function_isCalledLike_75 (G : qz_G) (l2 : Int) (h : qz_H) : qz_J yd_Function_isCalledLike G bk_Function_isCalledLike_75 75 [qz_u, qz_u, qz_i l2, qz_u] [] h 0 0 (fn_Function_isCalledLike_75 l2 h) := by
  unfold fn_Function_isCalledLike_75 bk_Function_isCalledLike_75; exact
    qz_iload_n rfl <|
    qz_zreturn ⟨rfl, rfl⟩ rfl
set_option maxRecDepth 20000 in
theorem jb_Function_isCalledLike_68 (G : qz_G) (k30 : Int → Int → Int → Int → qz_H → Option qz_R) (jk30 : ∀ (l0 : Int) (l1 : Int) (l2 : Int) (l3 : Int) (h : qz_H), qz_J yd_Function_isCalledLike G bk_Function_isCalledLike_30 30 [qz_r true 4 l0, qz_r false 4 l1, qz_i l2, qz_i l3] [] h 0 0 (k30 l0 l1 l2 l3 h)) (l0 : Int) (l1 : Int) (l3 : Int) (s0 : Int) (h : qz_H) : qz_J yd_Function_isCalledLike G bk_Function_isCalledLike_68 68 [qz_r true 4 l0, qz_r false 4 l1, qz_u, qz_i l3] [qz_i s0] h 0 0 (fn_Function_isCalledLike_68 k30 l0 l1 l3 s0 h) := by
  unfold fn_Function_isCalledLike_68 bk_Function_isCalledLike_68; exact
    qz_istore_n (by decide) fun x1 =>
    qz_iinc rfl (by decide) fun x2 =>
    qz_goto rfl ca_Function_isCalledLike_30 <|
    qz_fgt [1, 1, 1, 1] <| jk30 l0 l1 x1 x2 h
set_option maxRecDepth 20000 in
theorem jb_Function_isCalledLike_30_b (G : qz_G) (k30 : Int → Int → Int → Int → qz_H → Option qz_R) (jk30 : ∀ (l0 : Int) (l1 : Int) (l2 : Int) (l3 : Int) (h : qz_H), qz_J yd_Function_isCalledLike G bk_Function_isCalledLike_30 30 [qz_r true 4 l0, qz_r false 4 l1, qz_i l2, qz_i l3] [] h 0 0 (k30 l0 l1 l2 l3 h)) (l0 : Int) (l1 : Int) (l2 : Int) (l3 : Int) (h : qz_H) : qz_J yd_Function_isCalledLike G bk_Function_isCalledLike_30 30 [qz_r true 4 l0, qz_r false 4 l1, qz_i l2, qz_i l3] [] h 0 0 (fn_Function_isCalledLike_30_b k30 l0 l1 l2 l3 h) := by
  unfold fn_Function_isCalledLike_30_b bk_Function_isCalledLike_30; exact
    qz_iload_n rfl <|
    qz_if_eq rfl ca_Function_isCalledLike_75
      (qz_fgt [0, 0, 1, 0] <| jb_Function_isCalledLike_75 G l2 h)
      (qz_iload_n rfl <|
        qz_aload_n rfl <|
        qz_getI kg_4 fl_Function_15 rfl rfl <|
        qz_icmp_ge rfl ca_Function_isCalledLike_75
          (qz_fgt [0, 0, 1, 0] <| jb_Function_isCalledLike_75 G l2 h)
          (qz_iload_n rfl <|
            qz_bipush rfl <|
            qz_icmp_ge rfl ca_Function_isCalledLike_75
              (qz_fgt [0, 0, 1, 0] <| jb_Function_isCalledLike_75 G l2 h)
              (qz_aload_n rfl <|
                qz_getR (k1 := 40) kg_4 fl_Function_9 rfl rfl <|
                qz_iload_n rfl <|
                qz_nnd 1 rfl <|
                qz_iald (k0 := 40) rfl rfl rfl <|
                qz_aload_n rfl <|
                qz_nnd 0 rfl <|
                qz_getR (k1 := 40) kg_4 fl_Function_9 rfl rfl <|
                qz_iload_n rfl <|
                qz_nnd 1 rfl <|
                qz_iald (k0 := 40) rfl rfl rfl <|
                qz_icmp_ne rfl ca_Function_isCalledLike_67
                  (qz_iconst rfl <|
                    qz_fall rfl ca_Function_isCalledLike_68 <|
                    qz_fgt [1, 1, 0, 1] <| jb_Function_isCalledLike_68 G k30 jk30 l0 l1 l3 0 h)
                  (qz_iconst rfl <|
                    qz_goto rfl ca_Function_isCalledLike_68 <|
                    qz_fgt [1, 1, 0, 1] <| jb_Function_isCalledLike_68 G k30 jk30 l0 l1 l3 1 h))))
theorem jb_Function_isCalledLike_30 (G : qz_G) : ∀ (n : Nat) (l0 l1 l2 l3 : Int) (h : qz_H), qz_J yd_Function_isCalledLike G bk_Function_isCalledLike_30 30 [qz_r true 4 l0, qz_r false 4 l1, qz_i l2, qz_i l3] [] h 0 0 (fn_Function_isCalledLike_30 n l0 l1 l2 l3 h)
  | 0, _, _, _, _, _ => qz_none
  | n + 1, l0, l1, l2, l3, h => jb_Function_isCalledLike_30_b G (fn_Function_isCalledLike_30 n) (jb_Function_isCalledLike_30 G n) l0 l1 l2 l3 h
set_option maxRecDepth 20000 in
theorem jb_Function_isCalledLike_27 (G : qz_G) (l0 : Int) (l1 : Int) (s0 : Int) (h : qz_H) : qz_J yd_Function_isCalledLike G bk_Function_isCalledLike_27 27 [qz_r true 4 l0, qz_r false 4 l1, qz_u, qz_u] [qz_i s0] h 0 0 (fn_Function_isCalledLike_27 l0 l1 s0 h) := by
  unfold fn_Function_isCalledLike_27 bk_Function_isCalledLike_27; exact
    qz_istore_n (by decide) fun x1 =>
    qz_iconst rfl <|
    qz_istore_n (by decide) fun x2 =>
    qz_fall rfl ca_Function_isCalledLike_30 <|
    qz_fgt [1, 1, 1, 1] <| jb_Function_isCalledLike_30 G qz_NF l0 l1 x1 x2 h
set_option maxRecDepth 20000 in
theorem jb_Function_isCalledLike_26 (G : qz_G) (l0 : Int) (l1 : Int) (h : qz_H) : qz_J yd_Function_isCalledLike G bk_Function_isCalledLike_26 26 [qz_r true 4 l0, qz_r false 4 l1, qz_u, qz_u] [] h 0 0 (fn_Function_isCalledLike_26 l0 l1 h) := by
  unfold fn_Function_isCalledLike_26 bk_Function_isCalledLike_26; exact
    qz_iconst rfl <|
    qz_fall rfl ca_Function_isCalledLike_27 <|
    qz_fgt [1, 1, 0, 0] <| jb_Function_isCalledLike_27 G l0 l1 0 h
set_option maxRecDepth 20000 in
theorem cn_Function_isCalledLike (l0 : Int) (l1 : Int) (h : qz_H) : qz_C yd_Function_isCalledLike [qz_r true 4 l0, qz_r false 4 l1] h (fn_Function_isCalledLike l0 l1 h) := by
  refine qz_con (is := bk_Function_isCalledLike_0) (ls := [qz_r true 4 l0, qz_r false 4 l1, qz_u, qz_u]) mw_Function_isCalledLike.2.2.2 ca_Function_isCalledLike_0 rfl rfl fun G => ?_
  unfold fn_Function_isCalledLike bk_Function_isCalledLike_0; exact
    qz_aload_n rfl <|
    qz_getI kg_4 fl_Function_15 rfl rfl <|
    qz_aload_n rfl <|
    qz_nnd 0 rfl <|
    qz_getI kg_4 fl_Function_15 rfl rfl <|
    qz_icmp_ne rfl ca_Function_isCalledLike_26
      (qz_fgt [1, 1, 0, 0] <| jb_Function_isCalledLike_26 G l0 l1 h)
      (qz_aload_n rfl <|
        qz_getI kg_4 fl_Function_22 rfl rfl <|
        qz_aload_n rfl <|
        qz_nnd 0 rfl <|
        qz_getI kg_4 fl_Function_22 rfl rfl <|
        qz_icmp_ne rfl ca_Function_isCalledLike_26
          (qz_fgt [1, 1, 0, 0] <| jb_Function_isCalledLike_26 G l0 l1 h)
          (qz_iconst rfl <|
            qz_goto rfl ca_Function_isCalledLike_27 <|
            qz_fgt [1, 1, 0, 0] <| jb_Function_isCalledLike_27 G l0 l1 1 h))
def fn_Encoder_numberSignatures_98 (l2 : Int) (h : qz_H) : Option qz_R :=
  some (l2, h)
def fn_Encoder_numberSignatures_90 (k4 : Int → Int → Int → Int → qz_H → Option qz_R) (l0 : Int) (l1 : Int) (l3 : Int) (s0 : Int) (s1 : Int) (h : qz_H) : Option qz_R :=
  qz_bn (qz_w (s0 + s1) : Int) fun x1 =>
  qz_bn (qz_w (l3 + 1)) fun x2 =>
  k4 l0 l1 x1 x2 h
def fn_Encoder_numberSignatures_74 (k4 : Int → Int → Int → Int → qz_H → Option qz_R) (l0 : Int) (l1 : Int) (l2 : Int) (l3 : Int) (h : qz_H) : Option qz_R :=
  qz_ck ((h l0 1 : Int) ≠ 0) <|
  qz_ck ((0 : Int) ≤ l3 ∧ l3 < h (h l0 1) (-1)) <|
  if ¬ h (h l0 1) l3 = l2 then
    fn_Encoder_numberSignatures_90 k4 l0 l1 l3 l2 0 h
  else
    fn_Encoder_numberSignatures_90 k4 l0 l1 l3 l2 1 h
def fn_Encoder_numberSignatures_27_b (k4 : Int → Int → Int → Int → qz_H → Option qz_R) (k27 : Int → Int → Int → Int → Int → qz_H → Option qz_R) (l0 : Int) (l1 : Int) (l2 : Int) (l3 : Int) (l4 : Int) (h : qz_H) : Option qz_R :=
  if l3 ≤ l4 then
    fn_Encoder_numberSignatures_74 k4 l0 l1 l2 l3 h
  else
    qz_ck ((l1 : Int) ≠ 0) <|
    qz_ck ((h l1 0 : Int) ≠ 0) <|
    qz_ck ((0 : Int) ≤ l4 ∧ l4 < h (h l1 0) (-1)) <|
    qz_ck ((l1 : Int) ≠ 0) <|
    qz_ck ((h l1 0 : Int) ≠ 0) <|
    qz_ck ((0 : Int) ≤ l3 ∧ l3 < h (h l1 0) (-1)) <|
    qz_ck ((h (h l1 0) l4 : Int) ≠ 0) <|
    qz_bc (fn_Function_isCalledLike (h (h l1 0) l4) (h (h l1 0) l3) h) fun r1 h2 =>
    if r1 = 0 then
      qz_bn (qz_w (l4 + 1)) fun x3 =>
      k27 l0 l1 l2 l3 x3 h2
    else
      qz_ck ((h2 l0 1 : Int) ≠ 0) <|
      qz_ck ((0 : Int) ≤ l4 ∧ l4 < h2 (h2 l0 1) (-1)) <|
      qz_ck ((h2 l0 1 : Int) ≠ 0) <|
      qz_ck (0 < h2 l0 1 ∧ (0 : Int) ≤ l3 ∧ l3 < h2 (h2 l0 1) (-1)) <|
      qz_bn (qz_up h2 (h2 l0 1) l3 (h2 (h2 l0 1) l4)) fun h4 =>
      fn_Encoder_numberSignatures_74 k4 l0 l1 l2 l3 h4
def fn_Encoder_numberSignatures_27 (k4 : Int → Int → Int → Int → qz_H → Option qz_R) : Nat → Int → Int → Int → Int → Int → qz_H → Option qz_R
  | 0, _, _, _, _, _, _ => none
  | n + 1, l0, l1, l2, l3, l4, h => fn_Encoder_numberSignatures_27_b k4 (fn_Encoder_numberSignatures_27 k4 n) l0 l1 l2 l3 l4 h
def fn_Encoder_numberSignatures_4_b (k4 : Int → Int → Int → Int → qz_H → Option qz_R) (l0 : Int) (l1 : Int) (l2 : Int) (l3 : Int) (h : qz_H) : Option qz_R :=
  qz_ck ((l1 : Int) ≠ 0) <|
  if h l1 3 ≤ l3 then
    fn_Encoder_numberSignatures_98 l2 h
  else
    if 4 ≤ l3 then
      fn_Encoder_numberSignatures_98 l2 h
    else
      qz_ck ((h l0 1 : Int) ≠ 0) <|
      qz_ck (0 < h l0 1 ∧ (0 : Int) ≤ l3 ∧ l3 < h (h l0 1) (-1)) <|
      qz_bn (qz_up h (h l0 1) l3 l2) fun h1 =>
      qz_bn (0 : Int) fun x2 =>
      fn_Encoder_numberSignatures_27 k4 qz_NF l0 l1 l2 l3 x2 h1
def fn_Encoder_numberSignatures_4 : Nat → Int → Int → Int → Int → qz_H → Option qz_R
  | 0, _, _, _, _, _ => none
  | n + 1, l0, l1, l2, l3, h => fn_Encoder_numberSignatures_4_b (fn_Encoder_numberSignatures_4 n) l0 l1 l2 l3 h
def fn_Encoder_numberSignatures (l0 : Int) (l1 : Int) (h : qz_H) : Option qz_R :=
  qz_bn (0 : Int) fun x1 =>
  qz_bn (0 : Int) fun x2 =>
  fn_Encoder_numberSignatures_4 qz_NF l0 l1 x1 x2 h
def bk_Encoder_numberSignatures_0 : List (Instr × Nat) := [(.iconst 0, 1), (.istore_n 2, 1), (.iconst 0, 1), (.istore_n 3, 1)]
def bk_Encoder_numberSignatures_4 : List (Instr × Nat) := [(.iload_n 3, 1), (.aload_n 1, 1), (.getfield 30, 3), (.if_icmp .ge 89, 3), (.iload_n 3, 1), (.iconst 4, 1), (.if_icmp .ge 84, 3), (.aload_n 0, 1), (.getfield 15, 3), (.iload_n 3, 1), (.iload_n 2, 1), (.iastore, 1), (.iconst 0, 1), (.istore 4, 2)]
def bk_Encoder_numberSignatures_98 : List (Instr × Nat) := [(.iload_n 2, 1), (.ireturn, 1)]
def bk_Encoder_numberSignatures_27 : List (Instr × Nat) := [(.iload 4, 2), (.iload_n 3, 1), (.if_icmp .ge 44, 3), (.aload_n 1, 1), (.getfield 51, 3), (.iload 4, 2), (.aaload, 1), (.aload_n 1, 1), (.getfield 51, 3), (.iload_n 3, 1), (.aaload, 1), (.invokevirtual 62, 3), (.ifCond .eq 19, 3), (.aload_n 0, 1), (.getfield 15, 3), (.iload_n 3, 1), (.aload_n 0, 1), (.getfield 15, 3), (.iload 4, 2), (.iaload, 1), (.iastore, 1), (.goto 9, 3)]
def bk_Encoder_numberSignatures_74 : List (Instr × Nat) := [(.iload_n 2, 1), (.aload_n 0, 1), (.getfield 15, 3), (.iload_n 3, 1), (.iaload, 1), (.iload_n 2, 1), (.if_icmp .ne 7, 3), (.iconst 1, 1), (.goto 4, 3)]
def bk_Encoder_numberSignatures_68 : List (Instr × Nat) := [(.iinc 4 1, 3), (.goto (-44), 3)]
def bk_Encoder_numberSignatures_89 : List (Instr × Nat) := [(.iconst 0, 1)]
def bk_Encoder_numberSignatures_90 : List (Instr × Nat) := [(.iadd, 1), (.istore_n 2, 1), (.iinc 3 1, 3), (.goto (-91), 3)]
theorem ca_Encoder_numberSignatures_0 : qz_ca yd_Encoder_numberSignatures.2.1 0 bk_Encoder_numberSignatures_0 := qz_cab_ok _ _ (by decide +kernel)
theorem ca_Encoder_numberSignatures_4 : qz_ca yd_Encoder_numberSignatures.2.1 4 bk_Encoder_numberSignatures_4 := qz_cab_ok _ _ (by decide +kernel)
theorem ca_Encoder_numberSignatures_98 : qz_ca yd_Encoder_numberSignatures.2.1 98 bk_Encoder_numberSignatures_98 := qz_cab_ok _ _ (by decide +kernel)
theorem ca_Encoder_numberSignatures_27 : qz_ca yd_Encoder_numberSignatures.2.1 27 bk_Encoder_numberSignatures_27 := qz_cab_ok _ _ (by decide +kernel)
theorem ca_Encoder_numberSignatures_74 : qz_ca yd_Encoder_numberSignatures.2.1 74 bk_Encoder_numberSignatures_74 := qz_cab_ok _ _ (by decide +kernel)
theorem ca_Encoder_numberSignatures_68 : qz_ca yd_Encoder_numberSignatures.2.1 68 bk_Encoder_numberSignatures_68 := qz_cab_ok _ _ (by decide +kernel)
theorem ca_Encoder_numberSignatures_89 : qz_ca yd_Encoder_numberSignatures.2.1 89 bk_Encoder_numberSignatures_89 := qz_cab_ok _ _ (by decide +kernel)
theorem ca_Encoder_numberSignatures_90 : qz_ca yd_Encoder_numberSignatures.2.1 90 bk_Encoder_numberSignatures_90 := qz_cab_ok _ _ (by decide +kernel)
set_option maxRecDepth 20000 in
theorem jb_Encoder_numberSignatures_98 (G : qz_G) (l2 : Int) (h : qz_H) : qz_J yd_Encoder_numberSignatures G bk_Encoder_numberSignatures_98 98 [qz_u, qz_u, qz_i l2, qz_u, qz_u] [] h 0 0 (fn_Encoder_numberSignatures_98 l2 h) := by
  unfold fn_Encoder_numberSignatures_98 bk_Encoder_numberSignatures_98; exact
    qz_iload_n rfl <|
    qz_ireturn ⟨rfl, rfl⟩ rfl
set_option maxRecDepth 20000 in
theorem jb_Encoder_numberSignatures_90 (G : qz_G) (k4 : Int → Int → Int → Int → qz_H → Option qz_R) (jk4 : ∀ (l0 : Int) (l1 : Int) (l2 : Int) (l3 : Int) (h : qz_H), qz_J yd_Encoder_numberSignatures G bk_Encoder_numberSignatures_4 4 [qz_r true 2 l0, qz_r false 6 l1, qz_i l2, qz_i l3, qz_u] [] h 0 0 (k4 l0 l1 l2 l3 h)) (l0 : Int) (l1 : Int) (l3 : Int) (s0 : Int) (s1 : Int) (h : qz_H) : qz_J yd_Encoder_numberSignatures G bk_Encoder_numberSignatures_90 90 [qz_r true 2 l0, qz_r false 6 l1, qz_u, qz_i l3, qz_u] [qz_i s1, qz_i s0] h 0 0 (fn_Encoder_numberSignatures_90 k4 l0 l1 l3 s0 s1 h) := by
  unfold fn_Encoder_numberSignatures_90 bk_Encoder_numberSignatures_90; exact
    qz_iadd <|
    qz_istore_n (by decide) fun x1 =>
    qz_iinc rfl (by decide) fun x2 =>
    qz_goto rfl ca_Encoder_numberSignatures_4 <|
    qz_fgt [1, 1, 1, 1, 0] <| jk4 l0 l1 x1 x2 h
set_option maxRecDepth 20000 in
theorem jb_Encoder_numberSignatures_74 (G : qz_G) (k4 : Int → Int → Int → Int → qz_H → Option qz_R) (jk4 : ∀ (l0 : Int) (l1 : Int) (l2 : Int) (l3 : Int) (h : qz_H), qz_J yd_Encoder_numberSignatures G bk_Encoder_numberSignatures_4 4 [qz_r true 2 l0, qz_r false 6 l1, qz_i l2, qz_i l3, qz_u] [] h 0 0 (k4 l0 l1 l2 l3 h)) (l0 : Int) (l1 : Int) (l2 : Int) (l3 : Int) (h : qz_H) : qz_J yd_Encoder_numberSignatures G bk_Encoder_numberSignatures_74 74 [qz_r true 2 l0, qz_r false 6 l1, qz_i l2, qz_i l3, qz_u] [] h 0 0 (fn_Encoder_numberSignatures_74 k4 l0 l1 l2 l3 h) := by
  unfold fn_Encoder_numberSignatures_74 bk_Encoder_numberSignatures_74; exact
    qz_iload_n rfl <|
    qz_aload_n rfl <|
    qz_getR (k1 := 40) kg_2 fl_Encoder_15 rfl rfl <|
    qz_iload_n rfl <|
    qz_nnd 1 rfl <|
    qz_iald (k0 := 40) rfl rfl rfl <|
    qz_iload_n rfl <|
    qz_icmp_ne rfl ca_Encoder_numberSignatures_89
      (qz_iconst rfl <|
        qz_fall rfl ca_Encoder_numberSignatures_90 <|
        qz_fgt [1, 1, 0, 1, 0] <| jb_Encoder_numberSignatures_90 G k4 jk4 l0 l1 l3 l2 0 h)
      (qz_iconst rfl <|
        qz_goto rfl ca_Encoder_numberSignatures_90 <|
        qz_fgt [1, 1, 0, 1, 0] <| jb_Encoder_numberSignatures_90 G k4 jk4 l0 l1 l3 l2 1 h)
set_option maxRecDepth 20000 in
theorem jb_Encoder_numberSignatures_27_b (G : qz_G) (k4 : Int → Int → Int → Int → qz_H → Option qz_R) (jk4 : ∀ (l0 : Int) (l1 : Int) (l2 : Int) (l3 : Int) (h : qz_H), qz_J yd_Encoder_numberSignatures G bk_Encoder_numberSignatures_4 4 [qz_r true 2 l0, qz_r false 6 l1, qz_i l2, qz_i l3, qz_u] [] h 0 0 (k4 l0 l1 l2 l3 h)) (k27 : Int → Int → Int → Int → Int → qz_H → Option qz_R) (jk27 : ∀ (l0 : Int) (l1 : Int) (l2 : Int) (l3 : Int) (l4 : Int) (h : qz_H), qz_J yd_Encoder_numberSignatures G bk_Encoder_numberSignatures_27 27 [qz_r true 2 l0, qz_r false 6 l1, qz_i l2, qz_i l3, qz_i l4] [] h 0 0 (k27 l0 l1 l2 l3 l4 h)) (l0 : Int) (l1 : Int) (l2 : Int) (l3 : Int) (l4 : Int) (h : qz_H) : qz_J yd_Encoder_numberSignatures G bk_Encoder_numberSignatures_27 27 [qz_r true 2 l0, qz_r false 6 l1, qz_i l2, qz_i l3, qz_i l4] [] h 0 0 (fn_Encoder_numberSignatures_27_b k4 k27 l0 l1 l2 l3 l4 h) := by
  unfold fn_Encoder_numberSignatures_27_b bk_Encoder_numberSignatures_27; exact
    qz_iload rfl <|
    qz_iload_n rfl <|
    qz_icmp_ge rfl ca_Encoder_numberSignatures_74
      (qz_fgt [1, 1, 1, 1, 0] <| jb_Encoder_numberSignatures_74 G k4 jk4 l0 l1 l2 l3 h)
      (qz_aload_n rfl <|
        qz_nnd 0 rfl <|
        qz_getR (k1 := 45) kg_6 fl_Encoder_51 rfl rfl <|
        qz_iload rfl <|
        qz_nnd 1 rfl <|
        qz_aald (k0 := 45) (k1 := 4) rfl rfl rfl <|
        qz_aload_n rfl <|
        qz_nnd 0 rfl <|
        qz_getR (k1 := 45) kg_6 fl_Encoder_51 rfl rfl <|
        qz_iload_n rfl <|
        qz_nnd 1 rfl <|
        qz_aald (k0 := 45) (k1 := 4) rfl rfl rfl <|
        qz_nnd 1 rfl <|
        qz_invvI [qz_r false 4 (h (h l1 0) l3)] rfl (cn_Function_isCalledLike (h (h l1 0) l4) (h (h l1 0) l3) h) mw_Function_isCalledLike vw_Function_isCalledLike ⟨_, rfl, rfl, by decide⟩ rfl rfl ln_Encoder_62 rfl fun r1 h2 =>
        qz_if_eq rfl ca_Encoder_numberSignatures_68
          (qz_iinc rfl (by decide) fun x3 =>
            qz_goto rfl ca_Encoder_numberSignatures_27 <|
            qz_fgt [1, 1, 1, 1, 1] <| jk27 l0 l1 l2 l3 x3 h2)
          (qz_aload_n rfl <|
            qz_getR (k1 := 40) kg_2 fl_Encoder_15 rfl rfl <|
            qz_iload_n rfl <|
            qz_aload_n rfl <|
            qz_getR (k1 := 40) kg_2 fl_Encoder_15 rfl rfl <|
            qz_iload rfl <|
            qz_nnd 1 rfl <|
            qz_iald (k0 := 40) rfl rfl rfl <|
            qz_nnd 2 rfl <|
            qz_iast rfl rfl rfl fun h4 =>
            qz_goto rfl ca_Encoder_numberSignatures_74 <|
            qz_fgt [1, 1, 1, 1, 0] <| jb_Encoder_numberSignatures_74 G k4 jk4 l0 l1 l2 l3 h4))
theorem jb_Encoder_numberSignatures_27 (G : qz_G) (k4 : Int → Int → Int → Int → qz_H → Option qz_R) (jk4 : ∀ (l0 : Int) (l1 : Int) (l2 : Int) (l3 : Int) (h : qz_H), qz_J yd_Encoder_numberSignatures G bk_Encoder_numberSignatures_4 4 [qz_r true 2 l0, qz_r false 6 l1, qz_i l2, qz_i l3, qz_u] [] h 0 0 (k4 l0 l1 l2 l3 h)) : ∀ (n : Nat) (l0 l1 l2 l3 l4 : Int) (h : qz_H), qz_J yd_Encoder_numberSignatures G bk_Encoder_numberSignatures_27 27 [qz_r true 2 l0, qz_r false 6 l1, qz_i l2, qz_i l3, qz_i l4] [] h 0 0 (fn_Encoder_numberSignatures_27 k4 n l0 l1 l2 l3 l4 h)
  | 0, _, _, _, _, _, _ => qz_none
  | n + 1, l0, l1, l2, l3, l4, h => jb_Encoder_numberSignatures_27_b G k4 jk4 (fn_Encoder_numberSignatures_27 k4 n) (jb_Encoder_numberSignatures_27 G k4 jk4 n) l0 l1 l2 l3 l4 h
set_option maxRecDepth 20000 in
theorem jb_Encoder_numberSignatures_4_b (G : qz_G) (k4 : Int → Int → Int → Int → qz_H → Option qz_R) (jk4 : ∀ (l0 : Int) (l1 : Int) (l2 : Int) (l3 : Int) (h : qz_H), qz_J yd_Encoder_numberSignatures G bk_Encoder_numberSignatures_4 4 [qz_r true 2 l0, qz_r false 6 l1, qz_i l2, qz_i l3, qz_u] [] h 0 0 (k4 l0 l1 l2 l3 h)) (l0 : Int) (l1 : Int) (l2 : Int) (l3 : Int) (h : qz_H) : qz_J yd_Encoder_numberSignatures G bk_Encoder_numberSignatures_4 4 [qz_r true 2 l0, qz_r false 6 l1, qz_i l2, qz_i l3, qz_u] [] h 0 0 (fn_Encoder_numberSignatures_4_b k4 l0 l1 l2 l3 h) := by
  unfold fn_Encoder_numberSignatures_4_b bk_Encoder_numberSignatures_4; exact
    qz_iload_n rfl <|
    qz_aload_n rfl <|
    qz_nnd 0 rfl <|
    qz_getI kg_6 fl_Encoder_30 rfl rfl <|
    qz_icmp_ge rfl ca_Encoder_numberSignatures_98
      (qz_fgt [0, 0, 1, 0, 0] <| jb_Encoder_numberSignatures_98 G l2 h)
      (qz_iload_n rfl <|
        qz_iconst rfl <|
        qz_icmp_ge rfl ca_Encoder_numberSignatures_98
          (qz_fgt [0, 0, 1, 0, 0] <| jb_Encoder_numberSignatures_98 G l2 h)
          (qz_aload_n rfl <|
            qz_getR (k1 := 40) kg_2 fl_Encoder_15 rfl rfl <|
            qz_iload_n rfl <|
            qz_iload_n rfl <|
            qz_nnd 2 rfl <|
            qz_iast rfl rfl rfl fun h1 =>
            qz_iconst rfl <|
            qz_istore (by decide) fun x2 =>
            qz_fall rfl ca_Encoder_numberSignatures_27 <|
            qz_fgt [1, 1, 1, 1, 1] <| jb_Encoder_numberSignatures_27 G k4 jk4 qz_NF l0 l1 l2 l3 x2 h1))
theorem jb_Encoder_numberSignatures_4 (G : qz_G) : ∀ (n : Nat) (l0 l1 l2 l3 : Int) (h : qz_H), qz_J yd_Encoder_numberSignatures G bk_Encoder_numberSignatures_4 4 [qz_r true 2 l0, qz_r false 6 l1, qz_i l2, qz_i l3, qz_u] [] h 0 0 (fn_Encoder_numberSignatures_4 n l0 l1 l2 l3 h)
  | 0, _, _, _, _, _ => qz_none
  | n + 1, l0, l1, l2, l3, h => jb_Encoder_numberSignatures_4_b G (fn_Encoder_numberSignatures_4 n) (jb_Encoder_numberSignatures_4 G n) l0 l1 l2 l3 h
set_option maxRecDepth 20000 in
theorem cn_Encoder_numberSignatures (l0 : Int) (l1 : Int) (h : qz_H) : qz_C yd_Encoder_numberSignatures [qz_r true 2 l0, qz_r false 6 l1] h (fn_Encoder_numberSignatures l0 l1 h) := by
  refine qz_con (is := bk_Encoder_numberSignatures_0) (ls := [qz_r true 2 l0, qz_r false 6 l1, qz_u, qz_u, qz_u]) mw_Encoder_numberSignatures.2.2.2 ca_Encoder_numberSignatures_0 rfl rfl fun G => ?_
  unfold fn_Encoder_numberSignatures bk_Encoder_numberSignatures_0; exact
    qz_iconst rfl <|
    qz_istore_n (by decide) fun x1 =>
    qz_iconst rfl <|
    qz_istore_n (by decide) fun x2 =>
    qz_fall rfl ca_Encoder_numberSignatures_4 <|
    qz_fgt [1, 1, 1, 1, 0] <| jb_Encoder_numberSignatures_4 G qz_NF l0 l1 x1 x2 h
def fn_Encoder_addUnsigned_46 (l0 : Int) (l3 : Int) (h : qz_H) : Option qz_R :=
  qz_bc (fn_Encoder_add l0 (qz_w (qz_andJ l3 127)) h) fun _ h2 =>
  some (0, h2)
def fn_Encoder_addUnsigned_5_b (k5 : Int → Int → Int → qz_H → Option qz_R) (l0 : Int) (l3 : Int) (l5 : Int) (h : qz_H) : Option qz_R :=
  if 9 ≤ l5 then
    fn_Encoder_addUnsigned_46 l0 l3 h
  else
    if qz_cmp (qz_ushJ l3 7) 0 = 0 then
      fn_Encoder_addUnsigned_46 l0 l3 h
    else
      qz_bc (fn_Encoder_add l0 (qz_or (qz_w (qz_andJ l3 127)) 128) h) fun _ h2 =>
      qz_bn (qz_ushJ l3 7 : Int) fun x3 =>
      qz_bn (qz_w (l5 + 1)) fun x4 =>
      k5 l0 x3 x4 h2
def fn_Encoder_addUnsigned_5 : Nat → Int → Int → Int → qz_H → Option qz_R
  | 0, _, _, _, _ => none
  | n + 1, l0, l3, l5, h => fn_Encoder_addUnsigned_5_b (fn_Encoder_addUnsigned_5 n) l0 l3 l5 h
def fn_Encoder_addUnsigned (l0 : Int) (l1 : Int) (h : qz_H) : Option qz_R :=
  qz_bn (l1 : Int) fun x1 =>
  qz_bn (0 : Int) fun x2 =>
  fn_Encoder_addUnsigned_5 qz_NF l0 x1 x2 h
def bk_Encoder_addUnsigned_0 : List (Instr × Nat) := [(.lload_n 1, 1), (.lstore_n 3, 1), (.iconst 0, 1), (.istore 5, 2)]
def bk_Encoder_addUnsigned_5 : List (Instr × Nat) := [(.iload 5, 2), (.bipush 9, 2), (.if_icmp .ge 37, 3), (.lload_n 3, 1), (.bipush 7, 2), (.lushr, 1), (.lconst 0, 1), (.lcmp, 1), (.ifCond .eq 28, 3), (.aload_n 0, 1), (.lload_n 3, 1), (.ldc2_w 128, 3), (.land, 1), (.l2i, 1), (.sipush 128, 3), (.ior, 1), (.invokevirtual 26, 3), (.lload_n 3, 1), (.bipush 7, 2), (.lushr, 1), (.lstore_n 3, 1), (.iinc 5 1, 3), (.goto (-38), 3)]
def bk_Encoder_addUnsigned_46 : List (Instr × Nat) := [(.aload_n 0, 1), (.lload_n 3, 1), (.ldc2_w 128, 3), (.land, 1), (.l2i, 1), (.invokevirtual 26, 3), (.return_, 1)]
theorem ca_Encoder_addUnsigned_0 : qz_ca yd_Encoder_addUnsigned.2.1 0 bk_Encoder_addUnsigned_0 := qz_cab_ok _ _ (by decide +kernel)
theorem ca_Encoder_addUnsigned_5 : qz_ca yd_Encoder_addUnsigned.2.1 5 bk_Encoder_addUnsigned_5 := qz_cab_ok _ _ (by decide +kernel)
theorem ca_Encoder_addUnsigned_46 : qz_ca yd_Encoder_addUnsigned.2.1 46 bk_Encoder_addUnsigned_46 := qz_cab_ok _ _ (by decide +kernel)
set_option maxRecDepth 20000 in
theorem jb_Encoder_addUnsigned_46 (G : qz_G) (l0 : Int) (l3 : Int) (h : qz_H) : qz_J yd_Encoder_addUnsigned G bk_Encoder_addUnsigned_46 46 [qz_r true 2 l0, qz_u, qz_u, qz_j l3, qz_u, qz_u] [] h 0 0 (fn_Encoder_addUnsigned_46 l0 l3 h) := by
  unfold fn_Encoder_addUnsigned_46 bk_Encoder_addUnsigned_46; exact
    qz_aload_n rfl <|
    qz_lload_n rfl <|
    qz_ldc2 wc_Encoder_128 rfl <|
    qz_land <|
    qz_l2i <|
    qz_invvV [qz_i (qz_w (qz_andJ l3 127))] rfl (cn_Encoder_add l0 (qz_w (qz_andJ l3 127)) h) mw_Encoder_add vw_Encoder_add ⟨_, rfl, rfl, by decide⟩ rfl rfl ln_Encoder_26 rfl fun _ h2 =>
    qz_return ⟨rfl, rfl⟩ rfl
set_option maxRecDepth 20000 in
theorem jb_Encoder_addUnsigned_5_b (G : qz_G) (k5 : Int → Int → Int → qz_H → Option qz_R) (jk5 : ∀ (l0 : Int) (l3 : Int) (l5 : Int) (h : qz_H), qz_J yd_Encoder_addUnsigned G bk_Encoder_addUnsigned_5 5 [qz_r true 2 l0, qz_u, qz_u, qz_j l3, qz_u, qz_i l5] [] h 0 0 (k5 l0 l3 l5 h)) (l0 : Int) (l3 : Int) (l5 : Int) (h : qz_H) : qz_J yd_Encoder_addUnsigned G bk_Encoder_addUnsigned_5 5 [qz_r true 2 l0, qz_u, qz_u, qz_j l3, qz_u, qz_i l5] [] h 0 0 (fn_Encoder_addUnsigned_5_b k5 l0 l3 l5 h) := by
  unfold fn_Encoder_addUnsigned_5_b bk_Encoder_addUnsigned_5; exact
    qz_iload rfl <|
    qz_bipush rfl <|
    qz_icmp_ge rfl ca_Encoder_addUnsigned_46
      (qz_fgt [1, 0, 0, 1, 0, 0] <| jb_Encoder_addUnsigned_46 G l0 l3 h)
      (qz_lload_n rfl <|
        qz_bipush rfl <|
        qz_lushr <|
        qz_lconst rfl <|
        qz_lcmp <|
        qz_if_eq rfl ca_Encoder_addUnsigned_46
          (qz_fgt [1, 0, 0, 1, 0, 0] <| jb_Encoder_addUnsigned_46 G l0 l3 h)
          (qz_aload_n rfl <|
            qz_lload_n rfl <|
            qz_ldc2 wc_Encoder_128 rfl <|
            qz_land <|
            qz_l2i <|
            qz_sipush rfl <|
            qz_ior <|
            qz_invvV [qz_i (qz_or (qz_w (qz_andJ l3 127)) 128)] rfl (cn_Encoder_add l0 (qz_or (qz_w (qz_andJ l3 127)) 128) h) mw_Encoder_add vw_Encoder_add ⟨_, rfl, rfl, by decide⟩ rfl rfl ln_Encoder_26 rfl fun _ h2 =>
            qz_lload_n rfl <|
            qz_bipush rfl <|
            qz_lushr <|
            qz_lstore_n (by decide) fun x3 =>
            qz_iinc rfl (by decide) fun x4 =>
            qz_goto rfl ca_Encoder_addUnsigned_5 <|
            qz_fgt [1, 0, 0, 1, 0, 1] <| jk5 l0 x3 x4 h2))
theorem jb_Encoder_addUnsigned_5 (G : qz_G) : ∀ (n : Nat) (l0 l3 l5 : Int) (h : qz_H), qz_J yd_Encoder_addUnsigned G bk_Encoder_addUnsigned_5 5 [qz_r true 2 l0, qz_u, qz_u, qz_j l3, qz_u, qz_i l5] [] h 0 0 (fn_Encoder_addUnsigned_5 n l0 l3 l5 h)
  | 0, _, _, _, _ => qz_none
  | n + 1, l0, l3, l5, h => jb_Encoder_addUnsigned_5_b G (fn_Encoder_addUnsigned_5 n) (jb_Encoder_addUnsigned_5 G n) l0 l3 l5 h
set_option maxRecDepth 20000 in
theorem cn_Encoder_addUnsigned (l0 : Int) (l1 : Int) (h : qz_H) : qz_C yd_Encoder_addUnsigned [qz_r true 2 l0, qz_j l1] h (fn_Encoder_addUnsigned l0 l1 h) := by
  refine qz_con (is := bk_Encoder_addUnsigned_0) (ls := [qz_r true 2 l0, qz_j l1, qz_u, qz_u, qz_u, qz_u]) mw_Encoder_addUnsigned.2.2.2 ca_Encoder_addUnsigned_0 rfl rfl fun G => ?_
  unfold fn_Encoder_addUnsigned bk_Encoder_addUnsigned_0; exact
    qz_lload_n rfl <|
    qz_lstore_n (by decide) fun x1 =>
    qz_iconst rfl <|
    qz_istore (by decide) fun x2 =>
    qz_fall rfl ca_Encoder_addUnsigned_5 <|
    qz_fgt [1, 0, 0, 1, 0, 1] <| jb_Encoder_addUnsigned_5 G qz_NF l0 x1 x2 h
def fn_Encoder_addType_29 (h : qz_H) : Option qz_R :=
  some (0, h)
def fn_Encoder_addType_26 (s0 : Int) (s1 : Int) (h : qz_H) : Option qz_R :=
  qz_bc (fn_Encoder_add s0 s1 h) fun _ h2 =>
  fn_Encoder_addType_29 h2
def fn_Encoder_addType (l0 : Int) (l1 : Int) (h : qz_H) : Option qz_R :=
  if ¬ l1 = 0 then
    if ¬ l1 = 1 then
      fn_Encoder_addType_26 l0 126 h
    else
      fn_Encoder_addType_26 l0 127 h
  else
    qz_bc (fn_Encoder_add l0 64 h) fun _ h2 =>
    fn_Encoder_addType_29 h2
def bk_Encoder_addType_0 : List (Instr × Nat) := [(.iload_n 1, 1), (.ifCond .ne 12, 3), (.aload_n 0, 1), (.bipush 64, 2), (.invokevirtual 26, 3), (.goto 19, 3)]
def bk_Encoder_addType_13 : List (Instr × Nat) := [(.aload_n 0, 1), (.iload_n 1, 1), (.iconst 1, 1), (.if_icmp .ne 8, 3), (.bipush 127, 2), (.goto 5, 3)]
def bk_Encoder_addType_24 : List (Instr × Nat) := [(.bipush 126, 2)]
def bk_Encoder_addType_26 : List (Instr × Nat) := [(.invokevirtual 26, 3)]
def bk_Encoder_addType_29 : List (Instr × Nat) := [(.return_, 1)]
theorem ca_Encoder_addType_0 : qz_ca yd_Encoder_addType.2.1 0 bk_Encoder_addType_0 := qz_cab_ok _ _ (by decide +kernel)
theorem ca_Encoder_addType_13 : qz_ca yd_Encoder_addType.2.1 13 bk_Encoder_addType_13 := qz_cab_ok _ _ (by decide +kernel)
theorem ca_Encoder_addType_24 : qz_ca yd_Encoder_addType.2.1 24 bk_Encoder_addType_24 := qz_cab_ok _ _ (by decide +kernel)
theorem ca_Encoder_addType_26 : qz_ca yd_Encoder_addType.2.1 26 bk_Encoder_addType_26 := qz_cab_ok _ _ (by decide +kernel)
theorem ca_Encoder_addType_29 : qz_ca yd_Encoder_addType.2.1 29 bk_Encoder_addType_29 := qz_cab_ok _ _ (by decide +kernel)
set_option maxRecDepth 20000 in
theorem jb_Encoder_addType_29 (G : qz_G) (h : qz_H) : qz_J yd_Encoder_addType G bk_Encoder_addType_29 29 [qz_u, qz_u] [] h 0 0 (fn_Encoder_addType_29 h) := by
  unfold fn_Encoder_addType_29 bk_Encoder_addType_29; exact
    qz_return ⟨rfl, rfl⟩ rfl
set_option maxRecDepth 20000 in
theorem jb_Encoder_addType_26 (G : qz_G) (s0 : Int) (s1 : Int) (h : qz_H) : qz_J yd_Encoder_addType G bk_Encoder_addType_26 26 [qz_u, qz_u] [qz_i s1, qz_r true 2 s0] h 0 0 (fn_Encoder_addType_26 s0 s1 h) := by
  unfold fn_Encoder_addType_26 bk_Encoder_addType_26; exact
    qz_invvV [qz_i s1] rfl (cn_Encoder_add s0 s1 h) mw_Encoder_add vw_Encoder_add ⟨_, rfl, rfl, by decide⟩ rfl rfl ln_Encoder_26 rfl fun _ h2 =>
    qz_fall rfl ca_Encoder_addType_29 <|
    qz_fgt [0, 0] <| jb_Encoder_addType_29 G h2
set_option maxRecDepth 20000 in
theorem cn_Encoder_addType (l0 : Int) (l1 : Int) (h : qz_H) : qz_C yd_Encoder_addType [qz_r true 2 l0, qz_i l1] h (fn_Encoder_addType l0 l1 h) := by
  refine qz_con (is := bk_Encoder_addType_0) (ls := [qz_r true 2 l0, qz_i l1]) mw_Encoder_addType.2.2.2 ca_Encoder_addType_0 rfl rfl fun G => ?_
  unfold fn_Encoder_addType bk_Encoder_addType_0; exact
    qz_iload_n rfl <|
    qz_if_ne rfl ca_Encoder_addType_13
      (qz_aload_n rfl <|
        qz_iload_n rfl <|
        qz_iconst rfl <|
        qz_icmp_ne rfl ca_Encoder_addType_24
          (qz_bipush rfl <|
            qz_fall rfl ca_Encoder_addType_26 <|
            qz_fgt [0, 0] <| jb_Encoder_addType_26 G l0 126 h)
          (qz_bipush rfl <|
            qz_goto rfl ca_Encoder_addType_26 <|
            qz_fgt [0, 0] <| jb_Encoder_addType_26 G l0 127 h))
      (qz_aload_n rfl <|
        qz_bipush rfl <|
        qz_invvV [qz_i 64] rfl (cn_Encoder_add l0 64 h) mw_Encoder_add vw_Encoder_add ⟨_, rfl, rfl, by decide⟩ rfl rfl ln_Encoder_26 rfl fun _ h2 =>
        qz_goto rfl ca_Encoder_addType_29 <|
        qz_fgt [0, 0] <| jb_Encoder_addType_29 G h2)
def fn_Encoder_addSignature_78 (h : qz_H) : Option qz_R :=
  some (0, h)
def fn_Encoder_addSignature_60 (l0 : Int) (l1 : Int) (s0 : Int) (s1 : Int) (h : qz_H) : Option qz_R :=
  qz_bc (fn_Encoder_addUnsigned s0 s1 h) fun _ h2 =>
  qz_ck ((l1 : Int) ≠ 0) <|
  if h2 l1 3 = 0 then
    fn_Encoder_addSignature_78 h2
  else
    qz_ck ((l1 : Int) ≠ 0) <|
    qz_bc (fn_Encoder_addType l0 (h2 l1 3) h2) fun _ h4 =>
    fn_Encoder_addSignature_78 h4
def fn_Encoder_addSignature_47 (l0 : Int) (l1 : Int) (h : qz_H) : Option qz_R :=
  qz_ck ((l1 : Int) ≠ 0) <|
  if ¬ h l1 3 = 0 then
    fn_Encoder_addSignature_60 l0 l1 l0 1 h
  else
    fn_Encoder_addSignature_60 l0 l1 l0 0 h
def fn_Encoder_addSignature_17_b (k17 : Int → Int → Int → qz_H → Option qz_R) (l0 : Int) (l1 : Int) (l2 : Int) (h : qz_H) : Option qz_R :=
  qz_ck ((l1 : Int) ≠ 0) <|
  if h l1 1 ≤ l2 then
    fn_Encoder_addSignature_47 l0 l1 h
  else
    if 6 ≤ l2 then
      fn_Encoder_addSignature_47 l0 l1 h
    else
      qz_ck ((l1 : Int) ≠ 0) <|
      qz_ck ((h l1 0 : Int) ≠ 0) <|
      qz_ck ((0 : Int) ≤ l2 ∧ l2 < h (h l1 0) (-1)) <|
      qz_bc (fn_Encoder_addType l0 (h (h l1 0) l2) h) fun _ h2 =>
      qz_bn (qz_w (l2 + 1)) fun x3 =>
      k17 l0 l1 x3 h2
def fn_Encoder_addSignature_17 : Nat → Int → Int → Int → qz_H → Option qz_R
  | 0, _, _, _, _ => none
  | n + 1, l0, l1, l2, h => fn_Encoder_addSignature_17_b (fn_Encoder_addSignature_17 n) l0 l1 l2 h
def fn_Encoder_addSignature (l0 : Int) (l1 : Int) (h : qz_H) : Option qz_R :=
  qz_bc (fn_Encoder_add l0 96 h) fun _ h2 =>
  qz_ck ((l1 : Int) ≠ 0) <|
  qz_bc (fn_Encoder_addUnsigned l0 (h2 l1 1) h2) fun _ h4 =>
  qz_bn (0 : Int) fun x5 =>
  fn_Encoder_addSignature_17 qz_NF l0 l1 x5 h4
def bk_Encoder_addSignature_0 : List (Instr × Nat) := [(.aload_n 0, 1), (.bipush 96, 2), (.invokevirtual 26, 3), (.aload_n 0, 1), (.aload_n 1, 1), (.getfield 68, 3), (.i2l, 1), (.invokevirtual 47, 3), (.iconst 0, 1), (.istore_n 2, 1)]
def bk_Encoder_addSignature_17 : List (Instr × Nat) := [(.iload_n 2, 1), (.aload_n 1, 1), (.getfield 68, 3), (.if_icmp .ge 25, 3), (.iload_n 2, 1), (.bipush 6, 2), (.if_icmp .ge 19, 3), (.aload_n 0, 1), (.aload_n 1, 1), (.getfield 71, 3), (.iload_n 2, 1), (.iaload, 1), (.invokevirtual 74, 3), (.iinc 2 1, 3), (.goto (-27), 3)]
def bk_Encoder_addSignature_47 : List (Instr × Nat) := [(.aload_n 0, 1), (.aload_n 1, 1), (.getfield 77, 3), (.ifCond .ne 7, 3), (.lconst 0, 1), (.goto 4, 3)]
def bk_Encoder_addSignature_59 : List (Instr × Nat) := [(.lconst 1, 1)]
def bk_Encoder_addSignature_60 : List (Instr × Nat) := [(.invokevirtual 47, 3), (.aload_n 1, 1), (.getfield 77, 3), (.ifCond .eq 11, 3), (.aload_n 0, 1), (.aload_n 1, 1), (.getfield 77, 3), (.invokevirtual 74, 3)]
def bk_Encoder_addSignature_78 : List (Instr × Nat) := [(.return_, 1)]
theorem ca_Encoder_addSignature_0 : qz_ca yd_Encoder_addSignature.2.1 0 bk_Encoder_addSignature_0 := qz_cab_ok _ _ (by decide +kernel)
theorem ca_Encoder_addSignature_17 : qz_ca yd_Encoder_addSignature.2.1 17 bk_Encoder_addSignature_17 := qz_cab_ok _ _ (by decide +kernel)
theorem ca_Encoder_addSignature_47 : qz_ca yd_Encoder_addSignature.2.1 47 bk_Encoder_addSignature_47 := qz_cab_ok _ _ (by decide +kernel)
theorem ca_Encoder_addSignature_59 : qz_ca yd_Encoder_addSignature.2.1 59 bk_Encoder_addSignature_59 := qz_cab_ok _ _ (by decide +kernel)
theorem ca_Encoder_addSignature_60 : qz_ca yd_Encoder_addSignature.2.1 60 bk_Encoder_addSignature_60 := qz_cab_ok _ _ (by decide +kernel)
theorem ca_Encoder_addSignature_78 : qz_ca yd_Encoder_addSignature.2.1 78 bk_Encoder_addSignature_78 := qz_cab_ok _ _ (by decide +kernel)
set_option maxRecDepth 20000 in
theorem jb_Encoder_addSignature_78 (G : qz_G) (h : qz_H) : qz_J yd_Encoder_addSignature G bk_Encoder_addSignature_78 78 [qz_u, qz_u, qz_u] [] h 0 0 (fn_Encoder_addSignature_78 h) := by
  unfold fn_Encoder_addSignature_78 bk_Encoder_addSignature_78; exact
    qz_return ⟨rfl, rfl⟩ rfl
set_option maxRecDepth 20000 in
theorem jb_Encoder_addSignature_60 (G : qz_G) (l0 : Int) (l1 : Int) (s0 : Int) (s1 : Int) (h : qz_H) : qz_J yd_Encoder_addSignature G bk_Encoder_addSignature_60 60 [qz_r true 2 l0, qz_r false 4 l1, qz_u] [qz_j s1, qz_r true 2 s0] h 0 0 (fn_Encoder_addSignature_60 l0 l1 s0 s1 h) := by
  unfold fn_Encoder_addSignature_60 bk_Encoder_addSignature_60; exact
    qz_invvV [qz_j s1] rfl (cn_Encoder_addUnsigned s0 s1 h) mw_Encoder_addUnsigned vw_Encoder_addUnsigned ⟨_, rfl, rfl, by decide⟩ rfl rfl ln_Encoder_47 rfl fun _ h2 =>
    qz_aload_n rfl <|
    qz_nnd 0 rfl <|
    qz_getI kg_4 fl_Encoder_77 rfl rfl <|
    qz_if_eq rfl ca_Encoder_addSignature_78
      (qz_fgt [0, 0, 0] <| jb_Encoder_addSignature_78 G h2)
      (qz_aload_n rfl <|
        qz_aload_n rfl <|
        qz_nnd 0 rfl <|
        qz_getI kg_4 fl_Encoder_77 rfl rfl <|
        qz_invvV [qz_i (h2 l1 3)] rfl (cn_Encoder_addType l0 (h2 l1 3) h2) mw_Encoder_addType vw_Encoder_addType ⟨_, rfl, rfl, by decide⟩ rfl rfl ln_Encoder_74 rfl fun _ h4 =>
        qz_fall rfl ca_Encoder_addSignature_78 <|
        qz_fgt [0, 0, 0] <| jb_Encoder_addSignature_78 G h4)
set_option maxRecDepth 20000 in
theorem jb_Encoder_addSignature_47 (G : qz_G) (l0 : Int) (l1 : Int) (h : qz_H) : qz_J yd_Encoder_addSignature G bk_Encoder_addSignature_47 47 [qz_r true 2 l0, qz_r false 4 l1, qz_u] [] h 0 0 (fn_Encoder_addSignature_47 l0 l1 h) := by
  unfold fn_Encoder_addSignature_47 bk_Encoder_addSignature_47; exact
    qz_aload_n rfl <|
    qz_aload_n rfl <|
    qz_nnd 0 rfl <|
    qz_getI kg_4 fl_Encoder_77 rfl rfl <|
    qz_if_ne rfl ca_Encoder_addSignature_59
      (qz_lconst rfl <|
        qz_fall rfl ca_Encoder_addSignature_60 <|
        qz_fgt [1, 1, 0] <| jb_Encoder_addSignature_60 G l0 l1 l0 1 h)
      (qz_lconst rfl <|
        qz_goto rfl ca_Encoder_addSignature_60 <|
        qz_fgt [1, 1, 0] <| jb_Encoder_addSignature_60 G l0 l1 l0 0 h)
set_option maxRecDepth 20000 in
theorem jb_Encoder_addSignature_17_b (G : qz_G) (k17 : Int → Int → Int → qz_H → Option qz_R) (jk17 : ∀ (l0 : Int) (l1 : Int) (l2 : Int) (h : qz_H), qz_J yd_Encoder_addSignature G bk_Encoder_addSignature_17 17 [qz_r true 2 l0, qz_r false 4 l1, qz_i l2] [] h 0 0 (k17 l0 l1 l2 h)) (l0 : Int) (l1 : Int) (l2 : Int) (h : qz_H) : qz_J yd_Encoder_addSignature G bk_Encoder_addSignature_17 17 [qz_r true 2 l0, qz_r false 4 l1, qz_i l2] [] h 0 0 (fn_Encoder_addSignature_17_b k17 l0 l1 l2 h) := by
  unfold fn_Encoder_addSignature_17_b bk_Encoder_addSignature_17; exact
    qz_iload_n rfl <|
    qz_aload_n rfl <|
    qz_nnd 0 rfl <|
    qz_getI kg_4 fl_Encoder_68 rfl rfl <|
    qz_icmp_ge rfl ca_Encoder_addSignature_47
      (qz_fgt [1, 1, 0] <| jb_Encoder_addSignature_47 G l0 l1 h)
      (qz_iload_n rfl <|
        qz_bipush rfl <|
        qz_icmp_ge rfl ca_Encoder_addSignature_47
          (qz_fgt [1, 1, 0] <| jb_Encoder_addSignature_47 G l0 l1 h)
          (qz_aload_n rfl <|
            qz_aload_n rfl <|
            qz_nnd 0 rfl <|
            qz_getR (k1 := 40) kg_4 fl_Encoder_71 rfl rfl <|
            qz_iload_n rfl <|
            qz_nnd 1 rfl <|
            qz_iald (k0 := 40) rfl rfl rfl <|
            qz_invvV [qz_i (h (h l1 0) l2)] rfl (cn_Encoder_addType l0 (h (h l1 0) l2) h) mw_Encoder_addType vw_Encoder_addType ⟨_, rfl, rfl, by decide⟩ rfl rfl ln_Encoder_74 rfl fun _ h2 =>
            qz_iinc rfl (by decide) fun x3 =>
            qz_goto rfl ca_Encoder_addSignature_17 <|
            qz_fgt [1, 1, 1] <| jk17 l0 l1 x3 h2))
theorem jb_Encoder_addSignature_17 (G : qz_G) : ∀ (n : Nat) (l0 l1 l2 : Int) (h : qz_H), qz_J yd_Encoder_addSignature G bk_Encoder_addSignature_17 17 [qz_r true 2 l0, qz_r false 4 l1, qz_i l2] [] h 0 0 (fn_Encoder_addSignature_17 n l0 l1 l2 h)
  | 0, _, _, _, _ => qz_none
  | n + 1, l0, l1, l2, h => jb_Encoder_addSignature_17_b G (fn_Encoder_addSignature_17 n) (jb_Encoder_addSignature_17 G n) l0 l1 l2 h
set_option maxRecDepth 20000 in
theorem cn_Encoder_addSignature (l0 : Int) (l1 : Int) (h : qz_H) : qz_C yd_Encoder_addSignature [qz_r true 2 l0, qz_r false 4 l1] h (fn_Encoder_addSignature l0 l1 h) := by
  refine qz_con (is := bk_Encoder_addSignature_0) (ls := [qz_r true 2 l0, qz_r false 4 l1, qz_u]) mw_Encoder_addSignature.2.2.2 ca_Encoder_addSignature_0 rfl rfl fun G => ?_
  unfold fn_Encoder_addSignature bk_Encoder_addSignature_0; exact
    qz_aload_n rfl <|
    qz_bipush rfl <|
    qz_invvV [qz_i 96] rfl (cn_Encoder_add l0 96 h) mw_Encoder_add vw_Encoder_add ⟨_, rfl, rfl, by decide⟩ rfl rfl ln_Encoder_26 rfl fun _ h2 =>
    qz_aload_n rfl <|
    qz_aload_n rfl <|
    qz_nnd 0 rfl <|
    qz_getI kg_4 fl_Encoder_68 rfl rfl <|
    qz_i2l <|
    qz_invvV [qz_j (h2 l1 1)] rfl (cn_Encoder_addUnsigned l0 (h2 l1 1) h2) mw_Encoder_addUnsigned vw_Encoder_addUnsigned ⟨_, rfl, rfl, by decide⟩ rfl rfl ln_Encoder_47 rfl fun _ h4 =>
    qz_iconst rfl <|
    qz_istore_n (by decide) fun x5 =>
    qz_fall rfl ca_Encoder_addSignature_17 <|
    qz_fgt [1, 1, 1] <| jb_Encoder_addSignature_17 G qz_NF l0 l1 x5 h4
end
