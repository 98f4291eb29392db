section
-- ===== PART A: goes FIRST, ahead of the names: the tables' words, and 'selects' of the private methods out of them =====
/-- a private method of a class that the tables say can be made, by its rows of tables_1 -/
def lw_okq (q : MethodName × Nat) : Prop := (q.1.cls ≠ "java/lang/invoke/MethodHandle" ∧ q.1.cls ≠ "java/lang/invoke/VarHandle") ∧ Cond.instantiable q.1.cls q.2 ∈ tables_1 ∧ Cond.privateMethod q.1 ∈ tables_1 ∧ Cond.instanceMethod q.1 ∈ tables_1
theorem lw_p0 : lw_okq (⟨"StackAssembler$Encoder", "add", "(I)V"⟩, 3) := ⟨⟨by decide +kernel, by decide +kernel⟩, List.mem_of_getElem? (i := 320) (by decide +kernel), List.mem_of_getElem? (i := 410) (by decide +kernel), List.mem_of_getElem? (i := 411) (by decide +kernel)⟩
theorem lw_p1 : lw_okq (⟨"StackAssembler$Encoder", "addSignatures", "(LStackAssembler$Module;)V"⟩, 3) := ⟨⟨by decide +kernel, by decide +kernel⟩, List.mem_of_getElem? (i := 320) (by decide +kernel), List.mem_of_getElem? (i := 414) (by decide +kernel), List.mem_of_getElem? (i := 415) (by decide +kernel)⟩
theorem lw_p2 : lw_okq (⟨"StackAssembler$Encoder", "numberSignatures", "(LStackAssembler$Module;)I"⟩, 3) := ⟨⟨by decide +kernel, by decide +kernel⟩, List.mem_of_getElem? (i := 320) (by decide +kernel), List.mem_of_getElem? (i := 418) (by decide +kernel), List.mem_of_getElem? (i := 419) (by decide +kernel)⟩
theorem lw_p3 : lw_okq (⟨"StackAssembler$Encoder", "addUnsigned", "(J)V"⟩, 3) := ⟨⟨by decide +kernel, by decide +kernel⟩, List.mem_of_getElem? (i := 320) (by decide +kernel), List.mem_of_getElem? (i := 426) (by decide +kernel), List.mem_of_getElem? (i := 427) (by decide +kernel)⟩
theorem lw_p4 : lw_okq (⟨"StackAssembler$Encoder", "addSignature", "(LStackAssembler$Function;)V"⟩, 3) := ⟨⟨by decide +kernel, by decide +kernel⟩, List.mem_of_getElem? (i := 320) (by decide +kernel), List.mem_of_getElem? (i := 431) (by decide +kernel), List.mem_of_getElem? (i := 432) (by decide +kernel)⟩
theorem lw_p5 : lw_okq (⟨"StackAssembler$Encoder", "addType", "(I)V"⟩, 3) := ⟨⟨by decide +kernel, by decide +kernel⟩, List.mem_of_getElem? (i := 320) (by decide +kernel), List.mem_of_getElem? (i := 435) (by decide +kernel), List.mem_of_getElem? (i := 436) (by decide +kernel)⟩
theorem lw_p6 : lw_okq (⟨"StackAssembler$Encoder", "putSizeAhead", "(I)V"⟩, 3) := ⟨⟨by decide +kernel, by decide +kernel⟩, List.mem_of_getElem? (i := 320) (by decide +kernel), List.mem_of_getElem? (i := 439) (by decide +kernel), List.mem_of_getElem? (i := 440) (by decide +kernel)⟩
theorem lw_p7 : lw_okq (⟨"StackAssembler$Encoder", "addSignatureNumbers", "(LStackAssembler$Module;)V"⟩, 3) := ⟨⟨by decide +kernel, by decide +kernel⟩, List.mem_of_getElem? (i := 320) (by decide +kernel), List.mem_of_getElem? (i := 443) (by decide +kernel), List.mem_of_getElem? (i := 444) (by decide +kernel)⟩
theorem lw_p8 : lw_okq (⟨"StackAssembler$Encoder", "addBodies", "(LStackAssembler$Module;)V"⟩, 3) := ⟨⟨by decide +kernel, by decide +kernel⟩, List.mem_of_getElem? (i := 320) (by decide +kernel), List.mem_of_getElem? (i := 447) (by decide +kernel), List.mem_of_getElem? (i := 448) (by decide +kernel)⟩
theorem lw_p9 : lw_okq (⟨"StackAssembler$Encoder", "addBody", "(LStackAssembler$Module;LStackAssembler$Function;)V"⟩, 3) := ⟨⟨by decide +kernel, by decide +kernel⟩, List.mem_of_getElem? (i := 320) (by decide +kernel), List.mem_of_getElem? (i := 451) (by decide +kernel), List.mem_of_getElem? (i := 452) (by decide +kernel)⟩
theorem lw_p10 : lw_okq (⟨"StackAssembler$Encoder", "addRuns", "(LStackAssembler$Function;)V"⟩, 3) := ⟨⟨by decide +kernel, by decide +kernel⟩, List.mem_of_getElem? (i := 320) (by decide +kernel), List.mem_of_getElem? (i := 455) (by decide +kernel), List.mem_of_getElem? (i := 456) (by decide +kernel)⟩
theorem lw_p11 : lw_okq (⟨"StackAssembler$Encoder", "addOperand", "(LStackAssembler$Op;J)V"⟩, 3) := ⟨⟨by decide +kernel, by decide +kernel⟩, List.mem_of_getElem? (i := 320) (by decide +kernel), List.mem_of_getElem? (i := 467) (by decide +kernel), List.mem_of_getElem? (i := 468) (by decide +kernel)⟩
theorem lw_p12 : lw_okq (⟨"StackAssembler$Encoder", "addSigned", "(J)V"⟩, 3) := ⟨⟨by decide +kernel, by decide +kernel⟩, List.mem_of_getElem? (i := 320) (by decide +kernel), List.mem_of_getElem? (i := 471) (by decide +kernel), List.mem_of_getElem? (i := 472) (by decide +kernel)⟩
theorem lw_p13 : lw_okq (⟨"StackAssembler$Scanner", "behindGaps", "(I)I"⟩, 6) := ⟨⟨by decide +kernel, by decide +kernel⟩, List.mem_of_getElem? (i := 162) (by decide +kernel), List.mem_of_getElem? (i := 547) (by decide +kernel), List.mem_of_getElem? (i := 548) (by decide +kernel)⟩
theorem lw_p14 : lw_okq (⟨"StackAssembler$Scanner", "behindGap", "(I)I"⟩, 6) := ⟨⟨by decide +kernel, by decide +kernel⟩, List.mem_of_getElem? (i := 162) (by decide +kernel), List.mem_of_getElem? (i := 551) (by decide +kernel), List.mem_of_getElem? (i := 552) (by decide +kernel)⟩
theorem lw_p15 : lw_okq (⟨"StackAssembler$Scanner", "behindLine", "(I)I"⟩, 6) := ⟨⟨by decide +kernel, by decide +kernel⟩, List.mem_of_getElem? (i := 162) (by decide +kernel), List.mem_of_getElem? (i := 556) (by decide +kernel), List.mem_of_getElem? (i := 557) (by decide +kernel)⟩
def lw_privs_1 : List (MethodName × Nat) := [(⟨"StackAssembler$Encoder", "add", "(I)V"⟩, 3), (⟨"StackAssembler$Encoder", "addSignatures", "(LStackAssembler$Module;)V"⟩, 3), (⟨"StackAssembler$Encoder", "numberSignatures", "(LStackAssembler$Module;)I"⟩, 3), (⟨"StackAssembler$Encoder", "addUnsigned", "(J)V"⟩, 3), (⟨"StackAssembler$Encoder", "addSignature", "(LStackAssembler$Function;)V"⟩, 3), (⟨"StackAssembler$Encoder", "addType", "(I)V"⟩, 3), (⟨"StackAssembler$Encoder", "putSizeAhead", "(I)V"⟩, 3), (⟨"StackAssembler$Encoder", "addSignatureNumbers", "(LStackAssembler$Module;)V"⟩, 3), (⟨"StackAssembler$Encoder", "addBodies", "(LStackAssembler$Module;)V"⟩, 3), (⟨"StackAssembler$Encoder", "addBody", "(LStackAssembler$Module;LStackAssembler$Function;)V"⟩, 3), (⟨"StackAssembler$Encoder", "addRuns", "(LStackAssembler$Function;)V"⟩, 3), (⟨"StackAssembler$Encoder", "addOperand", "(LStackAssembler$Op;J)V"⟩, 3), (⟨"StackAssembler$Encoder", "addSigned", "(J)V"⟩, 3), (⟨"StackAssembler$Scanner", "behindGaps", "(I)I"⟩, 6), (⟨"StackAssembler$Scanner", "behindGap", "(I)I"⟩, 6), (⟨"StackAssembler$Scanner", "behindLine", "(I)I"⟩, 6)]
theorem lw_r1 : ∀ q ∈ lw_privs_1, lw_okq q := List.forall_mem_cons.mpr ⟨lw_p0, List.forall_mem_cons.mpr ⟨lw_p1, List.forall_mem_cons.mpr ⟨lw_p2, List.forall_mem_cons.mpr ⟨lw_p3, List.forall_mem_cons.mpr ⟨lw_p4, List.forall_mem_cons.mpr ⟨lw_p5, List.forall_mem_cons.mpr ⟨lw_p6, List.forall_mem_cons.mpr ⟨lw_p7, List.forall_mem_cons.mpr ⟨lw_p8, List.forall_mem_cons.mpr ⟨lw_p9, List.forall_mem_cons.mpr ⟨lw_p10, List.forall_mem_cons.mpr ⟨lw_p11, List.forall_mem_cons.mpr ⟨lw_p12, List.forall_mem_cons.mpr ⟨lw_p13, List.forall_mem_cons.mpr ⟨lw_p14, List.forall_mem_cons.mpr ⟨lw_p15, fun _ h => absurd h List.not_mem_nil⟩⟩⟩⟩⟩⟩⟩⟩⟩⟩⟩⟩⟩⟩⟩⟩
theorem lw_p16 : lw_okq (⟨"StackAssembler$Scanner", "behindComment", "(I)I"⟩, 6) := ⟨⟨by decide +kernel, by decide +kernel⟩, List.mem_of_getElem? (i := 162) (by decide +kernel), List.mem_of_getElem? (i := 560) (by decide +kernel), List.mem_of_getElem? (i := 561) (by decide +kernel)⟩
theorem lw_p17 : lw_okq (⟨"StackAssembler$Scanner", "behindWord", "(I)I"⟩, 6) := ⟨⟨by decide +kernel, by decide +kernel⟩, List.mem_of_getElem? (i := 162) (by decide +kernel), List.mem_of_getElem? (i := 567) (by decide +kernel), List.mem_of_getElem? (i := 568) (by decide +kernel)⟩
theorem lw_p18 : lw_okq (⟨"StackAssembler$Scanner", "findOp", "()LStackAssembler$Op;"⟩, 6) := ⟨⟨by decide +kernel, by decide +kernel⟩, List.mem_of_getElem? (i := 162) (by decide +kernel), List.mem_of_getElem? (i := 571) (by decide +kernel), List.mem_of_getElem? (i := 572) (by decide +kernel)⟩
theorem lw_p19 : lw_okq (⟨"StackAssembler$Reader", "judge", "(LStackAssembler$Level;)I"⟩, 10) := ⟨⟨by decide +kernel, by decide +kernel⟩, List.mem_of_getElem? (i := 154) (by decide +kernel), List.mem_of_getElem? (i := 629) (by decide +kernel), List.mem_of_getElem? (i := 630) (by decide +kernel)⟩
theorem lw_p20 : lw_okq (⟨"StackAssembler$Reader", "inOperand", "(LStackAssembler$Level;)I"⟩, 10) := ⟨⟨by decide +kernel, by decide +kernel⟩, List.mem_of_getElem? (i := 154) (by decide +kernel), List.mem_of_getElem? (i := 633) (by decide +kernel), List.mem_of_getElem? (i := 634) (by decide +kernel)⟩
theorem lw_p21 : lw_okq (⟨"StackAssembler$Reader", "readOperand", "(I)Z"⟩, 10) := ⟨⟨by decide +kernel, by decide +kernel⟩, List.mem_of_getElem? (i := 154) (by decide +kernel), List.mem_of_getElem? (i := 637) (by decide +kernel), List.mem_of_getElem? (i := 638) (by decide +kernel)⟩
theorem lw_p22 : lw_okq (⟨"StackAssembler$Reader", "readNumber", "(JJ)Z"⟩, 10) := ⟨⟨by decide +kernel, by decide +kernel⟩, List.mem_of_getElem? (i := 154) (by decide +kernel), List.mem_of_getElem? (i := 643) (by decide +kernel), List.mem_of_getElem? (i := 644) (by decide +kernel)⟩
theorem lw_p23 : lw_okq (⟨"StackAssembler$Reader", "labelNamed", "()I"⟩, 10) := ⟨⟨by decide +kernel, by decide +kernel⟩, List.mem_of_getElem? (i := 154) (by decide +kernel), List.mem_of_getElem? (i := 672) (by decide +kernel), List.mem_of_getElem? (i := 673) (by decide +kernel)⟩
theorem lw_p24 : lw_okq (⟨"StackAssembler$Reader", "slotNamed", "()I"⟩, 10) := ⟨⟨by decide +kernel, by decide +kernel⟩, List.mem_of_getElem? (i := 154) (by decide +kernel), List.mem_of_getElem? (i := 684) (by decide +kernel), List.mem_of_getElem? (i := 685) (by decide +kernel)⟩
theorem lw_p25 : lw_okq (⟨"StackAssembler$Reader", "setLatestOperand", "(J)V"⟩, 10) := ⟨⟨by decide +kernel, by decide +kernel⟩, List.mem_of_getElem? (i := 154) (by decide +kernel), List.mem_of_getElem? (i := 689) (by decide +kernel), List.mem_of_getElem? (i := 690) (by decide +kernel)⟩
theorem lw_p26 : lw_okq (⟨"StackAssembler$Reader", "inText", "(LStackAssembler$Level;)I"⟩, 10) := ⟨⟨by decide +kernel, by decide +kernel⟩, List.mem_of_getElem? (i := 154) (by decide +kernel), List.mem_of_getElem? (i := 693) (by decide +kernel), List.mem_of_getElem? (i := 694) (by decide +kernel)⟩
theorem lw_p27 : lw_okq (⟨"StackAssembler$Reader", "open", "()I"⟩, 10) := ⟨⟨by decide +kernel, by decide +kernel⟩, List.mem_of_getElem? (i := 154) (by decide +kernel), List.mem_of_getElem? (i := 697) (by decide +kernel), List.mem_of_getElem? (i := 698) (by decide +kernel)⟩
theorem lw_p28 : lw_okq (⟨"StackAssembler$Reader", "push", "(I)Z"⟩, 10) := ⟨⟨by decide +kernel, by decide +kernel⟩, List.mem_of_getElem? (i := 154) (by decide +kernel), List.mem_of_getElem? (i := 701) (by decide +kernel), List.mem_of_getElem? (i := 702) (by decide +kernel)⟩
theorem lw_p29 : lw_okq (⟨"StackAssembler$Reader", "behindOpening", "(LStackAssembler$Level;)I"⟩, 10) := ⟨⟨by decide +kernel, by decide +kernel⟩, List.mem_of_getElem? (i := 154) (by decide +kernel), List.mem_of_getElem? (i := 705) (by decide +kernel), List.mem_of_getElem? (i := 706) (by decide +kernel)⟩
theorem lw_p30 : lw_okq (⟨"StackAssembler$Reader", "beginFunction", "(LStackAssembler$Level;)I"⟩, 10) := ⟨⟨by decide +kernel, by decide +kernel⟩, List.mem_of_getElem? (i := 154) (by decide +kernel), List.mem_of_getElem? (i := 712) (by decide +kernel), List.mem_of_getElem? (i := 713) (by decide +kernel)⟩
theorem lw_p31 : lw_okq (⟨"StackAssembler$Reader", "setFunctionName", "(I)V"⟩, 10) := ⟨⟨by decide +kernel, by decide +kernel⟩, List.mem_of_getElem? (i := 154) (by decide +kernel), List.mem_of_getElem? (i := 726) (by decide +kernel), List.mem_of_getElem? (i := 727) (by decide +kernel)⟩
def lw_privs_2 : List (MethodName × Nat) := [(⟨"StackAssembler$Scanner", "behindComment", "(I)I"⟩, 6), (⟨"StackAssembler$Scanner", "behindWord", "(I)I"⟩, 6), (⟨"StackAssembler$Scanner", "findOp", "()LStackAssembler$Op;"⟩, 6), (⟨"StackAssembler$Reader", "judge", "(LStackAssembler$Level;)I"⟩, 10), (⟨"StackAssembler$Reader", "inOperand", "(LStackAssembler$Level;)I"⟩, 10), (⟨"StackAssembler$Reader", "readOperand", "(I)Z"⟩, 10), (⟨"StackAssembler$Reader", "readNumber", "(JJ)Z"⟩, 10), (⟨"StackAssembler$Reader", "labelNamed", "()I"⟩, 10), (⟨"StackAssembler$Reader", "slotNamed", "()I"⟩, 10), (⟨"StackAssembler$Reader", "setLatestOperand", "(J)V"⟩, 10), (⟨"StackAssembler$Reader", "inText", "(LStackAssembler$Level;)I"⟩, 10), (⟨"StackAssembler$Reader", "open", "()I"⟩, 10), (⟨"StackAssembler$Reader", "push", "(I)Z"⟩, 10), (⟨"StackAssembler$Reader", "behindOpening", "(LStackAssembler$Level;)I"⟩, 10), (⟨"StackAssembler$Reader", "beginFunction", "(LStackAssembler$Level;)I"⟩, 10), (⟨"StackAssembler$Reader", "setFunctionName", "(I)V"⟩, 10)]
theorem lw_r2 : ∀ q ∈ lw_privs_2, lw_okq q := List.forall_mem_cons.mpr ⟨lw_p16, List.forall_mem_cons.mpr ⟨lw_p17, List.forall_mem_cons.mpr ⟨lw_p18, List.forall_mem_cons.mpr ⟨lw_p19, List.forall_mem_cons.mpr ⟨lw_p20, List.forall_mem_cons.mpr ⟨lw_p21, List.forall_mem_cons.mpr ⟨lw_p22, List.forall_mem_cons.mpr ⟨lw_p23, List.forall_mem_cons.mpr ⟨lw_p24, List.forall_mem_cons.mpr ⟨lw_p25, List.forall_mem_cons.mpr ⟨lw_p26, List.forall_mem_cons.mpr ⟨lw_p27, List.forall_mem_cons.mpr ⟨lw_p28, List.forall_mem_cons.mpr ⟨lw_p29, List.forall_mem_cons.mpr ⟨lw_p30, List.forall_mem_cons.mpr ⟨lw_p31, fun _ h => absurd h List.not_mem_nil⟩⟩⟩⟩⟩⟩⟩⟩⟩⟩⟩⟩⟩⟩⟩⟩
theorem lw_p32 : lw_okq (⟨"StackAssembler$Reader", "beginFolded", "(LStackAssembler$Level;)I"⟩, 10) := ⟨⟨by decide +kernel, by decide +kernel⟩, List.mem_of_getElem? (i := 154) (by decide +kernel), List.mem_of_getElem? (i := 730) (by decide +kernel), List.mem_of_getElem? (i := 731) (by decide +kernel)⟩
theorem lw_p33 : lw_okq (⟨"StackAssembler$Reader", "beginPart", "(LStackAssembler$Level;LStackAssembler$Level;)I"⟩, 10) := ⟨⟨by decide +kernel, by decide +kernel⟩, List.mem_of_getElem? (i := 154) (by decide +kernel), List.mem_of_getElem? (i := 749) (by decide +kernel), List.mem_of_getElem? (i := 750) (by decide +kernel)⟩
theorem lw_p34 : lw_okq (⟨"StackAssembler$Reader", "inModule", "()I"⟩, 10) := ⟨⟨by decide +kernel, by decide +kernel⟩, List.mem_of_getElem? (i := 154) (by decide +kernel), List.mem_of_getElem? (i := 756) (by decide +kernel), List.mem_of_getElem? (i := 757) (by decide +kernel)⟩
theorem lw_p35 : lw_okq (⟨"StackAssembler$Reader", "close", "()I"⟩, 10) := ⟨⟨by decide +kernel, by decide +kernel⟩, List.mem_of_getElem? (i := 154) (by decide +kernel), List.mem_of_getElem? (i := 760) (by decide +kernel), List.mem_of_getElem? (i := 761) (by decide +kernel)⟩
theorem lw_p36 : lw_okq (⟨"StackAssembler$Reader", "inDeclaration", "(LStackAssembler$Level;)I"⟩, 10) := ⟨⟨by decide +kernel, by decide +kernel⟩, List.mem_of_getElem? (i := 154) (by decide +kernel), List.mem_of_getElem? (i := 764) (by decide +kernel), List.mem_of_getElem? (i := 765) (by decide +kernel)⟩
theorem lw_p37 : lw_okq (⟨"StackAssembler$Reader", "declare", "(LStackAssembler$Level;I)Z"⟩, 10) := ⟨⟨by decide +kernel, by decide +kernel⟩, List.mem_of_getElem? (i := 154) (by decide +kernel), List.mem_of_getElem? (i := 774) (by decide +kernel), List.mem_of_getElem? (i := 775) (by decide +kernel)⟩
theorem lw_p38 : lw_okq (⟨"StackAssembler$Reader", "inResult", "(LStackAssembler$Level;)I"⟩, 10) := ⟨⟨by decide +kernel, by decide +kernel⟩, List.mem_of_getElem? (i := 154) (by decide +kernel), List.mem_of_getElem? (i := 787) (by decide +kernel), List.mem_of_getElem? (i := 788) (by decide +kernel)⟩
theorem lw_p39 : lw_okq (⟨"StackAssembler$Reader", "setResult", "(I)V"⟩, 10) := ⟨⟨by decide +kernel, by decide +kernel⟩, List.mem_of_getElem? (i := 154) (by decide +kernel), List.mem_of_getElem? (i := 791) (by decide +kernel), List.mem_of_getElem? (i := 792) (by decide +kernel)⟩
theorem lw_p40 : lw_okq (⟨"StackAssembler$Reader", "inFolded", "(LStackAssembler$Level;)I"⟩, 10) := ⟨⟨by decide +kernel, by decide +kernel⟩, List.mem_of_getElem? (i := 154) (by decide +kernel), List.mem_of_getElem? (i := 795) (by decide +kernel), List.mem_of_getElem? (i := 796) (by decide +kernel)⟩
theorem lw_p41 : lw_okq (⟨"StackAssembler$Reader", "inBody", "(LStackAssembler$Level;)I"⟩, 10) := ⟨⟨by decide +kernel, by decide +kernel⟩, List.mem_of_getElem? (i := 154) (by decide +kernel), List.mem_of_getElem? (i := 803) (by decide +kernel), List.mem_of_getElem? (i := 804) (by decide +kernel)⟩
theorem lw_p42 : lw_okq (⟨"StackAssembler$Reader", "instructionIn", "(LStackAssembler$Level;)I"⟩, 10) := ⟨⟨by decide +kernel, by decide +kernel⟩, List.mem_of_getElem? (i := 154) (by decide +kernel), List.mem_of_getElem? (i := 807) (by decide +kernel), List.mem_of_getElem? (i := 808) (by decide +kernel)⟩
theorem lw_p43 : lw_okq (⟨"StackAssembler$Reader", "giveName", "(LStackAssembler$Level;)I"⟩, 10) := ⟨⟨by decide +kernel, by decide +kernel⟩, List.mem_of_getElem? (i := 154) (by decide +kernel), List.mem_of_getElem? (i := 816) (by decide +kernel), List.mem_of_getElem? (i := 817) (by decide +kernel)⟩
theorem lw_p44 : lw_okq (⟨"StackAssembler$Reader", "functionNamed", "(I)I"⟩, 10) := ⟨⟨by decide +kernel, by decide +kernel⟩, List.mem_of_getElem? (i := 154) (by decide +kernel), List.mem_of_getElem? (i := 820) (by decide +kernel), List.mem_of_getElem? (i := 821) (by decide +kernel)⟩
theorem lw_p45 : lw_okq (⟨"StackAssembler$Reader", "findFunctions", "()I"⟩, 10) := ⟨⟨by decide +kernel, by decide +kernel⟩, List.mem_of_getElem? (i := 154) (by decide +kernel), List.mem_of_getElem? (i := 824) (by decide +kernel), List.mem_of_getElem? (i := 825) (by decide +kernel)⟩
theorem lw_p46 : lw_okq (⟨"StackAssembler$Checker", "checkFunction", "()I"⟩, 8) := ⟨⟨by decide +kernel, by decide +kernel⟩, List.mem_of_getElem? (i := 250) (by decide +kernel), List.mem_of_getElem? (i := 835) (by decide +kernel), List.mem_of_getElem? (i := 836) (by decide +kernel)⟩
theorem lw_p47 : lw_okq (⟨"StackAssembler$Checker", "check", "(LStackAssembler$Op;J)V"⟩, 8) := ⟨⟨by decide +kernel, by decide +kernel⟩, List.mem_of_getElem? (i := 250) (by decide +kernel), List.mem_of_getElem? (i := 843) (by decide +kernel), List.mem_of_getElem? (i := 844) (by decide +kernel)⟩
def lw_privs_3 : List (MethodName × Nat) := [(⟨"StackAssembler$Reader", "beginFolded", "(LStackAssembler$Level;)I"⟩, 10), (⟨"StackAssembler$Reader", "beginPart", "(LStackAssembler$Level;LStackAssembler$Level;)I"⟩, 10), (⟨"StackAssembler$Reader", "inModule", "()I"⟩, 10), (⟨"StackAssembler$Reader", "close", "()I"⟩, 10), (⟨"StackAssembler$Reader", "inDeclaration", "(LStackAssembler$Level;)I"⟩, 10), (⟨"StackAssembler$Reader", "declare", "(LStackAssembler$Level;I)Z"⟩, 10), (⟨"StackAssembler$Reader", "inResult", "(LStackAssembler$Level;)I"⟩, 10), (⟨"StackAssembler$Reader", "setResult", "(I)V"⟩, 10), (⟨"StackAssembler$Reader", "inFolded", "(LStackAssembler$Level;)I"⟩, 10), (⟨"StackAssembler$Reader", "inBody", "(LStackAssembler$Level;)I"⟩, 10), (⟨"StackAssembler$Reader", "instructionIn", "(LStackAssembler$Level;)I"⟩, 10), (⟨"StackAssembler$Reader", "giveName", "(LStackAssembler$Level;)I"⟩, 10), (⟨"StackAssembler$Reader", "functionNamed", "(I)I"⟩, 10), (⟨"StackAssembler$Reader", "findFunctions", "()I"⟩, 10), (⟨"StackAssembler$Checker", "checkFunction", "()I"⟩, 8), (⟨"StackAssembler$Checker", "check", "(LStackAssembler$Op;J)V"⟩, 8)]
theorem lw_r3 : ∀ q ∈ lw_privs_3, lw_okq q := List.forall_mem_cons.mpr ⟨lw_p32, List.forall_mem_cons.mpr ⟨lw_p33, List.forall_mem_cons.mpr ⟨lw_p34, List.forall_mem_cons.mpr ⟨lw_p35, List.forall_mem_cons.mpr ⟨lw_p36, List.forall_mem_cons.mpr ⟨lw_p37, List.forall_mem_cons.mpr ⟨lw_p38, List.forall_mem_cons.mpr ⟨lw_p39, List.forall_mem_cons.mpr ⟨lw_p40, List.forall_mem_cons.mpr ⟨lw_p41, List.forall_mem_cons.mpr ⟨lw_p42, List.forall_mem_cons.mpr ⟨lw_p43, List.forall_mem_cons.mpr ⟨lw_p44, List.forall_mem_cons.mpr ⟨lw_p45, List.forall_mem_cons.mpr ⟨lw_p46, List.forall_mem_cons.mpr ⟨lw_p47, fun _ h => absurd h List.not_mem_nil⟩⟩⟩⟩⟩⟩⟩⟩⟩⟩⟩⟩⟩⟩⟩⟩
theorem lw_p48 : lw_okq (⟨"StackAssembler$Checker", "beginFrame", "(LStackAssembler$Op;I)V"⟩, 8) := ⟨⟨by decide +kernel, by decide +kernel⟩, List.mem_of_getElem? (i := 250) (by decide +kernel), List.mem_of_getElem? (i := 855) (by decide +kernel), List.mem_of_getElem? (i := 856) (by decide +kernel)⟩
theorem lw_p49 : lw_okq (⟨"StackAssembler$Checker", "take", "(I)I"⟩, 8) := ⟨⟨by decide +kernel, by decide +kernel⟩, List.mem_of_getElem? (i := 250) (by decide +kernel), List.mem_of_getElem? (i := 860) (by decide +kernel), List.mem_of_getElem? (i := 861) (by decide +kernel)⟩
theorem lw_p50 : lw_okq (⟨"StackAssembler$Checker", "endFrame", "()V"⟩, 8) := ⟨⟨by decide +kernel, by decide +kernel⟩, List.mem_of_getElem? (i := 250) (by decide +kernel), List.mem_of_getElem? (i := 866) (by decide +kernel), List.mem_of_getElem? (i := 867) (by decide +kernel)⟩
theorem lw_p51 : lw_okq (⟨"StackAssembler$Checker", "takeResult", "(I)V"⟩, 8) := ⟨⟨by decide +kernel, by decide +kernel⟩, List.mem_of_getElem? (i := 250) (by decide +kernel), List.mem_of_getElem? (i := 870) (by decide +kernel), List.mem_of_getElem? (i := 871) (by decide +kernel)⟩
theorem lw_p52 : lw_okq (⟨"StackAssembler$Checker", "restartFrame", "()V"⟩, 8) := ⟨⟨by decide +kernel, by decide +kernel⟩, List.mem_of_getElem? (i := 250) (by decide +kernel), List.mem_of_getElem? (i := 874) (by decide +kernel), List.mem_of_getElem? (i := 875) (by decide +kernel)⟩
theorem lw_p53 : lw_okq (⟨"StackAssembler$Checker", "leaveFrame", "()V"⟩, 8) := ⟨⟨by decide +kernel, by decide +kernel⟩, List.mem_of_getElem? (i := 250) (by decide +kernel), List.mem_of_getElem? (i := 878) (by decide +kernel), List.mem_of_getElem? (i := 879) (by decide +kernel)⟩
theorem lw_p54 : lw_okq (⟨"StackAssembler$Checker", "put", "(I)V"⟩, 8) := ⟨⟨by decide +kernel, by decide +kernel⟩, List.mem_of_getElem? (i := 250) (by decide +kernel), List.mem_of_getElem? (i := 883) (by decide +kernel), List.mem_of_getElem? (i := 884) (by decide +kernel)⟩
theorem lw_p55 : lw_okq (⟨"StackAssembler$Checker", "checkBranch", "(LStackAssembler$Op;J)V"⟩, 8) := ⟨⟨by decide +kernel, by decide +kernel⟩, List.mem_of_getElem? (i := 250) (by decide +kernel), List.mem_of_getElem? (i := 887) (by decide +kernel), List.mem_of_getElem? (i := 888) (by decide +kernel)⟩
theorem lw_p56 : lw_okq (⟨"StackAssembler$Checker", "makeUnreachable", "()V"⟩, 8) := ⟨⟨by decide +kernel, by decide +kernel⟩, List.mem_of_getElem? (i := 250) (by decide +kernel), List.mem_of_getElem? (i := 893) (by decide +kernel), List.mem_of_getElem? (i := 894) (by decide +kernel)⟩
theorem lw_p57 : lw_okq (⟨"StackAssembler$Checker", "checkCall", "(J)V"⟩, 8) := ⟨⟨by decide +kernel, by decide +kernel⟩, List.mem_of_getElem? (i := 250) (by decide +kernel), List.mem_of_getElem? (i := 897) (by decide +kernel), List.mem_of_getElem? (i := 898) (by decide +kernel)⟩
theorem lw_p58 : lw_okq (⟨"StackAssembler$Checker", "checkSelect", "()V"⟩, 8) := ⟨⟨by decide +kernel, by decide +kernel⟩, List.mem_of_getElem? (i := 250) (by decide +kernel), List.mem_of_getElem? (i := 903) (by decide +kernel), List.mem_of_getElem? (i := 904) (by decide +kernel)⟩
theorem lw_p59 : lw_okq (⟨"StackAssembler$Checker", "checkSlot", "(LStackAssembler$Op;J)V"⟩, 8) := ⟨⟨by decide +kernel, by decide +kernel⟩, List.mem_of_getElem? (i := 250) (by decide +kernel), List.mem_of_getElem? (i := 907) (by decide +kernel), List.mem_of_getElem? (i := 908) (by decide +kernel)⟩
theorem lw_p60 : lw_okq (⟨"StackAssembler$Checker", "checkSimple", "(LStackAssembler$Op;)V"⟩, 8) := ⟨⟨by decide +kernel, by decide +kernel⟩, List.mem_of_getElem? (i := 250) (by decide +kernel), List.mem_of_getElem? (i := 916) (by decide +kernel), List.mem_of_getElem? (i := 917) (by decide +kernel)⟩
theorem lw_p61 : lw_okq (⟨"java/lang/Throwable", "fillInStackTrace", "(I)Ljava/lang/Throwable;"⟩, 6) := ⟨⟨by decide +kernel, by decide +kernel⟩, List.mem_of_getElem? (i := 958) (by decide +kernel), List.mem_of_getElem? (i := 956) (by decide +kernel), List.mem_of_getElem? (i := 957) (by decide +kernel)⟩
theorem lw_p62 : lw_okq (⟨"StackAssembler$Printer", "writeFunction", "(LStackAssembler$Module;LStackAssembler$Function;)V"⟩, 1) := ⟨⟨by decide +kernel, by decide +kernel⟩, List.mem_of_getElem? (i := 338) (by decide +kernel), List.mem_of_getElem? (i := 1037) (by decide +kernel), List.mem_of_getElem? (i := 1038) (by decide +kernel)⟩
theorem lw_p63 : lw_okq (⟨"StackAssembler$Printer", "writeSlots", "(Ljava/lang/String;LStackAssembler$Function;II)V"⟩, 1) := ⟨⟨by decide +kernel, by decide +kernel⟩, List.mem_of_getElem? (i := 338) (by decide +kernel), List.mem_of_getElem? (i := 1043) (by decide +kernel), List.mem_of_getElem? (i := 1044) (by decide +kernel)⟩
def lw_privs_4 : List (MethodName × Nat) := [(⟨"StackAssembler$Checker", "beginFrame", "(LStackAssembler$Op;I)V"⟩, 8), (⟨"StackAssembler$Checker", "take", "(I)I"⟩, 8), (⟨"StackAssembler$Checker", "endFrame", "()V"⟩, 8), (⟨"StackAssembler$Checker", "takeResult", "(I)V"⟩, 8), (⟨"StackAssembler$Checker", "restartFrame", "()V"⟩, 8), (⟨"StackAssembler$Checker", "leaveFrame", "()V"⟩, 8), (⟨"StackAssembler$Checker", "put", "(I)V"⟩, 8), (⟨"StackAssembler$Checker", "checkBranch", "(LStackAssembler$Op;J)V"⟩, 8), (⟨"StackAssembler$Checker", "makeUnreachable", "()V"⟩, 8), (⟨"StackAssembler$Checker", "checkCall", "(J)V"⟩, 8), (⟨"StackAssembler$Checker", "checkSelect", "()V"⟩, 8), (⟨"StackAssembler$Checker", "checkSlot", "(LStackAssembler$Op;J)V"⟩, 8), (⟨"StackAssembler$Checker", "checkSimple", "(LStackAssembler$Op;)V"⟩, 8), (⟨"java/lang/Throwable", "fillInStackTrace", "(I)Ljava/lang/Throwable;"⟩, 6), (⟨"StackAssembler$Printer", "writeFunction", "(LStackAssembler$Module;LStackAssembler$Function;)V"⟩, 1), (⟨"StackAssembler$Printer", "writeSlots", "(Ljava/lang/String;LStackAssembler$Function;II)V"⟩, 1)]
theorem lw_r4 : ∀ q ∈ lw_privs_4, lw_okq q := List.forall_mem_cons.mpr ⟨lw_p48, List.forall_mem_cons.mpr ⟨lw_p49, List.forall_mem_cons.mpr ⟨lw_p50, List.forall_mem_cons.mpr ⟨lw_p51, List.forall_mem_cons.mpr ⟨lw_p52, List.forall_mem_cons.mpr ⟨lw_p53, List.forall_mem_cons.mpr ⟨lw_p54, List.forall_mem_cons.mpr ⟨lw_p55, List.forall_mem_cons.mpr ⟨lw_p56, List.forall_mem_cons.mpr ⟨lw_p57, List.forall_mem_cons.mpr ⟨lw_p58, List.forall_mem_cons.mpr ⟨lw_p59, List.forall_mem_cons.mpr ⟨lw_p60, List.forall_mem_cons.mpr ⟨lw_p61, List.forall_mem_cons.mpr ⟨lw_p62, List.forall_mem_cons.mpr ⟨lw_p63, fun _ h => absurd h List.not_mem_nil⟩⟩⟩⟩⟩⟩⟩⟩⟩⟩⟩⟩⟩⟩⟩⟩
theorem lw_p64 : lw_okq (⟨"StackAssembler$Printer", "writeType", "(I)V"⟩, 1) := ⟨⟨by decide +kernel, by decide +kernel⟩, List.mem_of_getElem? (i := 338) (by decide +kernel), List.mem_of_getElem? (i := 1049) (by decide +kernel), List.mem_of_getElem? (i := 1050) (by decide +kernel)⟩
theorem lw_p65 : lw_okq (⟨"StackAssembler$Printer", "writeResult", "(I)V"⟩, 1) := ⟨⟨by decide +kernel, by decide +kernel⟩, List.mem_of_getElem? (i := 338) (by decide +kernel), List.mem_of_getElem? (i := 1055) (by decide +kernel), List.mem_of_getElem? (i := 1056) (by decide +kernel)⟩
theorem lw_p66 : lw_okq (⟨"StackAssembler$Printer", "writeInstruction", "(LStackAssembler$Op;J)V"⟩, 1) := ⟨⟨by decide +kernel, by decide +kernel⟩, List.mem_of_getElem? (i := 338) (by decide +kernel), List.mem_of_getElem? (i := 1061) (by decide +kernel), List.mem_of_getElem? (i := 1062) (by decide +kernel)⟩
theorem lw_p67 : lw_okq (⟨"StackAssemblerModel", "readModule", "()Z"⟩, 64) := ⟨⟨by decide +kernel, by decide +kernel⟩, List.mem_of_getElem? (i := 1077) (by decide +kernel), List.mem_of_getElem? (i := 1332) (by decide +kernel), List.mem_of_getElem? (i := 1333) (by decide +kernel)⟩
theorem lw_p68 : lw_okq (⟨"StackAssemblerModel", "next", "()V"⟩, 64) := ⟨⟨by decide +kernel, by decide +kernel⟩, List.mem_of_getElem? (i := 1077) (by decide +kernel), List.mem_of_getElem? (i := 1336) (by decide +kernel), List.mem_of_getElem? (i := 1337) (by decide +kernel)⟩
theorem lw_p69 : lw_okq (⟨"StackAssemblerModel", "ch", "(I)I"⟩, 64) := ⟨⟨by decide +kernel, by decide +kernel⟩, List.mem_of_getElem? (i := 1077) (by decide +kernel), List.mem_of_getElem? (i := 1340) (by decide +kernel), List.mem_of_getElem? (i := 1341) (by decide +kernel)⟩
theorem lw_p70 : lw_okq (⟨"StackAssemblerModel", "comment", "()Z"⟩, 64) := ⟨⟨by decide +kernel, by decide +kernel⟩, List.mem_of_getElem? (i := 1077) (by decide +kernel), List.mem_of_getElem? (i := 1344) (by decide +kernel), List.mem_of_getElem? (i := 1345) (by decide +kernel)⟩
theorem lw_p71 : lw_okq (⟨"StackAssemblerModel", "readWord", "()V"⟩, 64) := ⟨⟨by decide +kernel, by decide +kernel⟩, List.mem_of_getElem? (i := 1077) (by decide +kernel), List.mem_of_getElem? (i := 1354) (by decide +kernel), List.mem_of_getElem? (i := 1355) (by decide +kernel)⟩
theorem lw_p72 : lw_okq (⟨"StackAssemblerModel", "pass", "(I)Z"⟩, 64) := ⟨⟨by decide +kernel, by decide +kernel⟩, List.mem_of_getElem? (i := 1077) (by decide +kernel), List.mem_of_getElem? (i := 1358) (by decide +kernel), List.mem_of_getElem? (i := 1359) (by decide +kernel)⟩
theorem lw_p73 : lw_okq (⟨"StackAssemblerModel", "fail", "(I)Z"⟩, 64) := ⟨⟨by decide +kernel, by decide +kernel⟩, List.mem_of_getElem? (i := 1077) (by decide +kernel), List.mem_of_getElem? (i := 1362) (by decide +kernel), List.mem_of_getElem? (i := 1363) (by decide +kernel)⟩
theorem lw_p74 : lw_okq (⟨"StackAssemblerModel", "passWord", "(JI)Z"⟩, 64) := ⟨⟨by decide +kernel, by decide +kernel⟩, List.mem_of_getElem? (i := 1077) (by decide +kernel), List.mem_of_getElem? (i := 1367) (by decide +kernel), List.mem_of_getElem? (i := 1368) (by decide +kernel)⟩
theorem lw_p75 : lw_okq (⟨"StackAssemblerModel", "is", "(JI)Z"⟩, 64) := ⟨⟨by decide +kernel, by decide +kernel⟩, List.mem_of_getElem? (i := 1077) (by decide +kernel), List.mem_of_getElem? (i := 1371) (by decide +kernel), List.mem_of_getElem? (i := 1372) (by decide +kernel)⟩
theorem lw_p76 : lw_okq (⟨"StackAssemblerModel", "readFunction", "(I)Z"⟩, 64) := ⟨⟨by decide +kernel, by decide +kernel⟩, List.mem_of_getElem? (i := 1077) (by decide +kernel), List.mem_of_getElem? (i := 1376) (by decide +kernel), List.mem_of_getElem? (i := 1377) (by decide +kernel)⟩
theorem lw_p77 : lw_okq (⟨"StackAssemblerModel", "isId", "()Z"⟩, 64) := ⟨⟨by decide +kernel, by decide +kernel⟩, List.mem_of_getElem? (i := 1077) (by decide +kernel), List.mem_of_getElem? (i := 1380) (by decide +kernel), List.mem_of_getElem? (i := 1381) (by decide +kernel)⟩
theorem lw_p78 : lw_okq (⟨"StackAssemblerModel", "sameName", "(IIII)Z"⟩, 64) := ⟨⟨by decide +kernel, by decide +kernel⟩, List.mem_of_getElem? (i := 1077) (by decide +kernel), List.mem_of_getElem? (i := 1384) (by decide +kernel), List.mem_of_getElem? (i := 1385) (by decide +kernel)⟩
theorem lw_p79 : lw_okq (⟨"StackAssemblerModel", "variables", "(IZ)Z"⟩, 64) := ⟨⟨by decide +kernel, by decide +kernel⟩, List.mem_of_getElem? (i := 1077) (by decide +kernel), List.mem_of_getElem? (i := 1389) (by decide +kernel), List.mem_of_getElem? (i := 1390) (by decide +kernel)⟩
def lw_privs_5 : List (MethodName × Nat) := [(⟨"StackAssembler$Printer", "writeType", "(I)V"⟩, 1), (⟨"StackAssembler$Printer", "writeResult", "(I)V"⟩, 1), (⟨"StackAssembler$Printer", "writeInstruction", "(LStackAssembler$Op;J)V"⟩, 1), (⟨"StackAssemblerModel", "readModule", "()Z"⟩, 64), (⟨"StackAssemblerModel", "next", "()V"⟩, 64), (⟨"StackAssemblerModel", "ch", "(I)I"⟩, 64), (⟨"StackAssemblerModel", "comment", "()Z"⟩, 64), (⟨"StackAssemblerModel", "readWord", "()V"⟩, 64), (⟨"StackAssemblerModel", "pass", "(I)Z"⟩, 64), (⟨"StackAssemblerModel", "fail", "(I)Z"⟩, 64), (⟨"StackAssemblerModel", "passWord", "(JI)Z"⟩, 64), (⟨"StackAssemblerModel", "is", "(JI)Z"⟩, 64), (⟨"StackAssemblerModel", "readFunction", "(I)Z"⟩, 64), (⟨"StackAssemblerModel", "isId", "()Z"⟩, 64), (⟨"StackAssemblerModel", "sameName", "(IIII)Z"⟩, 64), (⟨"StackAssemblerModel", "variables", "(IZ)Z"⟩, 64)]
theorem lw_r5 : ∀ q ∈ lw_privs_5, lw_okq q := List.forall_mem_cons.mpr ⟨lw_p64, List.forall_mem_cons.mpr ⟨lw_p65, List.forall_mem_cons.mpr ⟨lw_p66, List.forall_mem_cons.mpr ⟨lw_p67, List.forall_mem_cons.mpr ⟨lw_p68, List.forall_mem_cons.mpr ⟨lw_p69, List.forall_mem_cons.mpr ⟨lw_p70, List.forall_mem_cons.mpr ⟨lw_p71, List.forall_mem_cons.mpr ⟨lw_p72, List.forall_mem_cons.mpr ⟨lw_p73, List.forall_mem_cons.mpr ⟨lw_p74, List.forall_mem_cons.mpr ⟨lw_p75, List.forall_mem_cons.mpr ⟨lw_p76, List.forall_mem_cons.mpr ⟨lw_p77, List.forall_mem_cons.mpr ⟨lw_p78, List.forall_mem_cons.mpr ⟨lw_p79, fun _ h => absurd h List.not_mem_nil⟩⟩⟩⟩⟩⟩⟩⟩⟩⟩⟩⟩⟩⟩⟩⟩
theorem lw_p80 : lw_okq (⟨"StackAssemblerModel", "variableOf", "(I)I"⟩, 64) := ⟨⟨by decide +kernel, by decide +kernel⟩, List.mem_of_getElem? (i := 1077) (by decide +kernel), List.mem_of_getElem? (i := 1393) (by decide +kernel), List.mem_of_getElem? (i := 1394) (by decide +kernel)⟩
theorem lw_p81 : lw_okq (⟨"StackAssemblerModel", "variable", "(IZII)Z"⟩, 64) := ⟨⟨by decide +kernel, by decide +kernel⟩, List.mem_of_getElem? (i := 1077) (by decide +kernel), List.mem_of_getElem? (i := 1397) (by decide +kernel), List.mem_of_getElem? (i := 1398) (by decide +kernel)⟩
theorem lw_p82 : lw_okq (⟨"StackAssemblerModel", "readType", "()I"⟩, 64) := ⟨⟨by decide +kernel, by decide +kernel⟩, List.mem_of_getElem? (i := 1077) (by decide +kernel), List.mem_of_getElem? (i := 1404) (by decide +kernel), List.mem_of_getElem? (i := 1405) (by decide +kernel)⟩
theorem lw_p83 : lw_okq (⟨"StackAssemblerModel", "body", "(IZ)Z"⟩, 64) := ⟨⟨by decide +kernel, by decide +kernel⟩, List.mem_of_getElem? (i := 1077) (by decide +kernel), List.mem_of_getElem? (i := 1409) (by decide +kernel), List.mem_of_getElem? (i := 1410) (by decide +kernel)⟩
theorem lw_p84 : lw_okq (⟨"StackAssemblerModel", "fold", "(I)Z"⟩, 64) := ⟨⟨by decide +kernel, by decide +kernel⟩, List.mem_of_getElem? (i := 1077) (by decide +kernel), List.mem_of_getElem? (i := 1413) (by decide +kernel), List.mem_of_getElem? (i := 1414) (by decide +kernel)⟩
theorem lw_p85 : lw_okq (⟨"StackAssemblerModel", "instructionWord", "()I"⟩, 64) := ⟨⟨by decide +kernel, by decide +kernel⟩, List.mem_of_getElem? (i := 1077) (by decide +kernel), List.mem_of_getElem? (i := 1417) (by decide +kernel), List.mem_of_getElem? (i := 1418) (by decide +kernel)⟩
theorem lw_p86 : lw_okq (⟨"StackAssemblerModel", "readImmediate", "(II)Z"⟩, 64) := ⟨⟨by decide +kernel, by decide +kernel⟩, List.mem_of_getElem? (i := 1077) (by decide +kernel), List.mem_of_getElem? (i := 1424) (by decide +kernel), List.mem_of_getElem? (i := 1425) (by decide +kernel)⟩
theorem lw_p87 : lw_okq (⟨"StackAssemblerModel", "constant", "(Z)Z"⟩, 64) := ⟨⟨by decide +kernel, by decide +kernel⟩, List.mem_of_getElem? (i := 1077) (by decide +kernel), List.mem_of_getElem? (i := 1428) (by decide +kernel), List.mem_of_getElem? (i := 1429) (by decide +kernel)⟩
theorem lw_p88 : lw_okq (⟨"StackAssemblerModel", "digits", "(I)Z"⟩, 64) := ⟨⟨by decide +kernel, by decide +kernel⟩, List.mem_of_getElem? (i := 1077) (by decide +kernel), List.mem_of_getElem? (i := 1432) (by decide +kernel), List.mem_of_getElem? (i := 1433) (by decide +kernel)⟩
theorem lw_p89 : lw_okq (⟨"StackAssemblerModel", "index", "(II)Z"⟩, 64) := ⟨⟨by decide +kernel, by decide +kernel⟩, List.mem_of_getElem? (i := 1077) (by decide +kernel), List.mem_of_getElem? (i := 1443) (by decide +kernel), List.mem_of_getElem? (i := 1444) (by decide +kernel)⟩
theorem lw_p90 : lw_okq (⟨"StackAssemblerModel", "labelOf", "()I"⟩, 64) := ⟨⟨by decide +kernel, by decide +kernel⟩, List.mem_of_getElem? (i := 1077) (by decide +kernel), List.mem_of_getElem? (i := 1447) (by decide +kernel), List.mem_of_getElem? (i := 1448) (by decide +kernel)⟩
theorem lw_p91 : lw_okq (⟨"StackAssemblerModel", "inFold", "(I)Z"⟩, 64) := ⟨⟨by decide +kernel, by decide +kernel⟩, List.mem_of_getElem? (i := 1077) (by decide +kernel), List.mem_of_getElem? (i := 1451) (by decide +kernel), List.mem_of_getElem? (i := 1452) (by decide +kernel)⟩
theorem lw_p92 : lw_okq (⟨"StackAssemblerModel", "open", "()Z"⟩, 64) := ⟨⟨by decide +kernel, by decide +kernel⟩, List.mem_of_getElem? (i := 1077) (by decide +kernel), List.mem_of_getElem? (i := 1455) (by decide +kernel), List.mem_of_getElem? (i := 1456) (by decide +kernel)⟩
theorem lw_p93 : lw_okq (⟨"StackAssemblerModel", "hasRoom", "()Z"⟩, 64) := ⟨⟨by decide +kernel, by decide +kernel⟩, List.mem_of_getElem? (i := 1077) (by decide +kernel), List.mem_of_getElem? (i := 1459) (by decide +kernel), List.mem_of_getElem? (i := 1460) (by decide +kernel)⟩
theorem lw_p94 : lw_okq (⟨"StackAssemblerModel", "emit", "(IJ)I"⟩, 64) := ⟨⟨by decide +kernel, by decide +kernel⟩, List.mem_of_getElem? (i := 1077) (by decide +kernel), List.mem_of_getElem? (i := 1463) (by decide +kernel), List.mem_of_getElem? (i := 1464) (by decide +kernel)⟩
theorem lw_p95 : lw_okq (⟨"StackAssemblerModel", "noteCall", "(II)V"⟩, 64) := ⟨⟨by decide +kernel, by decide +kernel⟩, List.mem_of_getElem? (i := 1077) (by decide +kernel), List.mem_of_getElem? (i := 1467) (by decide +kernel), List.mem_of_getElem? (i := 1468) (by decide +kernel)⟩
def lw_privs_6 : List (MethodName × Nat) := [(⟨"StackAssemblerModel", "variableOf", "(I)I"⟩, 64), (⟨"StackAssemblerModel", "variable", "(IZII)Z"⟩, 64), (⟨"StackAssemblerModel", "readType", "()I"⟩, 64), (⟨"StackAssemblerModel", "body", "(IZ)Z"⟩, 64), (⟨"StackAssemblerModel", "fold", "(I)Z"⟩, 64), (⟨"StackAssemblerModel", "instructionWord", "()I"⟩, 64), (⟨"StackAssemblerModel", "readImmediate", "(II)Z"⟩, 64), (⟨"StackAssemblerModel", "constant", "(Z)Z"⟩, 64), (⟨"StackAssemblerModel", "digits", "(I)Z"⟩, 64), (⟨"StackAssemblerModel", "index", "(II)Z"⟩, 64), (⟨"StackAssemblerModel", "labelOf", "()I"⟩, 64), (⟨"StackAssemblerModel", "inFold", "(I)Z"⟩, 64), (⟨"StackAssemblerModel", "open", "()Z"⟩, 64), (⟨"StackAssemblerModel", "hasRoom", "()Z"⟩, 64), (⟨"StackAssemblerModel", "emit", "(IJ)I"⟩, 64), (⟨"StackAssemblerModel", "noteCall", "(II)V"⟩, 64)]
theorem lw_r6 : ∀ q ∈ lw_privs_6, lw_okq q := List.forall_mem_cons.mpr ⟨lw_p80, List.forall_mem_cons.mpr ⟨lw_p81, List.forall_mem_cons.mpr ⟨lw_p82, List.forall_mem_cons.mpr ⟨lw_p83, List.forall_mem_cons.mpr ⟨lw_p84, List.forall_mem_cons.mpr ⟨lw_p85, List.forall_mem_cons.mpr ⟨lw_p86, List.forall_mem_cons.mpr ⟨lw_p87, List.forall_mem_cons.mpr ⟨lw_p88, List.forall_mem_cons.mpr ⟨lw_p89, List.forall_mem_cons.mpr ⟨lw_p90, List.forall_mem_cons.mpr ⟨lw_p91, List.forall_mem_cons.mpr ⟨lw_p92, List.forall_mem_cons.mpr ⟨lw_p93, List.forall_mem_cons.mpr ⟨lw_p94, List.forall_mem_cons.mpr ⟨lw_p95, fun _ h => absurd h List.not_mem_nil⟩⟩⟩⟩⟩⟩⟩⟩⟩⟩⟩⟩⟩⟩⟩⟩
theorem lw_p96 : lw_okq (⟨"StackAssemblerModel", "readInstruction", "(I)Z"⟩, 64) := ⟨⟨by decide +kernel, by decide +kernel⟩, List.mem_of_getElem? (i := 1077) (by decide +kernel), List.mem_of_getElem? (i := 1471) (by decide +kernel), List.mem_of_getElem? (i := 1472) (by decide +kernel)⟩
theorem lw_p97 : lw_okq (⟨"StackAssemblerModel", "beginBlock", "(II)Z"⟩, 64) := ⟨⟨by decide +kernel, by decide +kernel⟩, List.mem_of_getElem? (i := 1077) (by decide +kernel), List.mem_of_getElem? (i := 1475) (by decide +kernel), List.mem_of_getElem? (i := 1476) (by decide +kernel)⟩
theorem lw_p98 : lw_okq (⟨"StackAssemblerModel", "turnBlock", "(I)Z"⟩, 64) := ⟨⟨by decide +kernel, by decide +kernel⟩, List.mem_of_getElem? (i := 1077) (by decide +kernel), List.mem_of_getElem? (i := 1479) (by decide +kernel), List.mem_of_getElem? (i := 1480) (by decide +kernel)⟩
theorem lw_p99 : lw_okq (⟨"StackAssemblerModel", "blockName", "(I)Z"⟩, 64) := ⟨⟨by decide +kernel, by decide +kernel⟩, List.mem_of_getElem? (i := 1077) (by decide +kernel), List.mem_of_getElem? (i := 1483) (by decide +kernel), List.mem_of_getElem? (i := 1484) (by decide +kernel)⟩
theorem lw_p100 : lw_okq (⟨"StackAssemblerModel", "resolve", "()Z"⟩, 64) := ⟨⟨by decide +kernel, by decide +kernel⟩, List.mem_of_getElem? (i := 1077) (by decide +kernel), List.mem_of_getElem? (i := 1487) (by decide +kernel), List.mem_of_getElem? (i := 1488) (by decide +kernel)⟩
theorem lw_p101 : lw_okq (⟨"StackAssemblerModel", "raise", "(I)I"⟩, 64) := ⟨⟨by decide +kernel, by decide +kernel⟩, List.mem_of_getElem? (i := 1077) (by decide +kernel), List.mem_of_getElem? (i := 1491) (by decide +kernel), List.mem_of_getElem? (i := 1492) (by decide +kernel)⟩
theorem lw_p102 : lw_okq (⟨"StackAssemblerModel", "isValid", "()Z"⟩, 64) := ⟨⟨by decide +kernel, by decide +kernel⟩, List.mem_of_getElem? (i := 1077) (by decide +kernel), List.mem_of_getElem? (i := 1495) (by decide +kernel), List.mem_of_getElem? (i := 1496) (by decide +kernel)⟩
theorem lw_p103 : lw_okq (⟨"StackAssemblerModel", "frame", "(III)V"⟩, 64) := ⟨⟨by decide +kernel, by decide +kernel⟩, List.mem_of_getElem? (i := 1077) (by decide +kernel), List.mem_of_getElem? (i := 1499) (by decide +kernel), List.mem_of_getElem? (i := 1500) (by decide +kernel)⟩
theorem lw_p104 : lw_okq (⟨"StackAssemblerModel", "endFrame", "()V"⟩, 64) := ⟨⟨by decide +kernel, by decide +kernel⟩, List.mem_of_getElem? (i := 1077) (by decide +kernel), List.mem_of_getElem? (i := 1503) (by decide +kernel), List.mem_of_getElem? (i := 1504) (by decide +kernel)⟩
theorem lw_p105 : lw_okq (⟨"StackAssemblerModel", "takeResult", "(I)V"⟩, 64) := ⟨⟨by decide +kernel, by decide +kernel⟩, List.mem_of_getElem? (i := 1077) (by decide +kernel), List.mem_of_getElem? (i := 1507) (by decide +kernel), List.mem_of_getElem? (i := 1508) (by decide +kernel)⟩
theorem lw_p106 : lw_okq (⟨"StackAssemblerModel", "take", "(I)I"⟩, 64) := ⟨⟨by decide +kernel, by decide +kernel⟩, List.mem_of_getElem? (i := 1077) (by decide +kernel), List.mem_of_getElem? (i := 1511) (by decide +kernel), List.mem_of_getElem? (i := 1512) (by decide +kernel)⟩
theorem lw_p107 : lw_okq (⟨"StackAssemblerModel", "check", "(IIJ)V"⟩, 64) := ⟨⟨by decide +kernel, by decide +kernel⟩, List.mem_of_getElem? (i := 1077) (by decide +kernel), List.mem_of_getElem? (i := 1515) (by decide +kernel), List.mem_of_getElem? (i := 1516) (by decide +kernel)⟩
theorem lw_p108 : lw_okq (⟨"StackAssemblerModel", "die", "()V"⟩, 64) := ⟨⟨by decide +kernel, by decide +kernel⟩, List.mem_of_getElem? (i := 1077) (by decide +kernel), List.mem_of_getElem? (i := 1519) (by decide +kernel), List.mem_of_getElem? (i := 1520) (by decide +kernel)⟩
theorem lw_p109 : lw_okq (⟨"StackAssemblerModel", "control", "(II)V"⟩, 64) := ⟨⟨by decide +kernel, by decide +kernel⟩, List.mem_of_getElem? (i := 1077) (by decide +kernel), List.mem_of_getElem? (i := 1523) (by decide +kernel), List.mem_of_getElem? (i := 1524) (by decide +kernel)⟩
theorem lw_p110 : lw_okq (⟨"StackAssemblerModel", "put", "(I)V"⟩, 64) := ⟨⟨by decide +kernel, by decide +kernel⟩, List.mem_of_getElem? (i := 1077) (by decide +kernel), List.mem_of_getElem? (i := 1527) (by decide +kernel), List.mem_of_getElem? (i := 1528) (by decide +kernel)⟩
theorem lw_p111 : lw_okq (⟨"StackAssemblerModel", "branch", "(IJ)V"⟩, 64) := ⟨⟨by decide +kernel, by decide +kernel⟩, List.mem_of_getElem? (i := 1077) (by decide +kernel), List.mem_of_getElem? (i := 1531) (by decide +kernel), List.mem_of_getElem? (i := 1532) (by decide +kernel)⟩
def lw_privs_7 : List (MethodName × Nat) := [(⟨"StackAssemblerModel", "readInstruction", "(I)Z"⟩, 64), (⟨"StackAssemblerModel", "beginBlock", "(II)Z"⟩, 64), (⟨"StackAssemblerModel", "turnBlock", "(I)Z"⟩, 64), (⟨"StackAssemblerModel", "blockName", "(I)Z"⟩, 64), (⟨"StackAssemblerModel", "resolve", "()Z"⟩, 64), (⟨"StackAssemblerModel", "raise", "(I)I"⟩, 64), (⟨"StackAssemblerModel", "isValid", "()Z"⟩, 64), (⟨"StackAssemblerModel", "frame", "(III)V"⟩, 64), (⟨"StackAssemblerModel", "endFrame", "()V"⟩, 64), (⟨"StackAssemblerModel", "takeResult", "(I)V"⟩, 64), (⟨"StackAssemblerModel", "take", "(I)I"⟩, 64), (⟨"StackAssemblerModel", "check", "(IIJ)V"⟩, 64), (⟨"StackAssemblerModel", "die", "()V"⟩, 64), (⟨"StackAssemblerModel", "control", "(II)V"⟩, 64), (⟨"StackAssemblerModel", "put", "(I)V"⟩, 64), (⟨"StackAssemblerModel", "branch", "(IJ)V"⟩, 64)]
theorem lw_r7 : ∀ q ∈ lw_privs_7, lw_okq q := List.forall_mem_cons.mpr ⟨lw_p96, List.forall_mem_cons.mpr ⟨lw_p97, List.forall_mem_cons.mpr ⟨lw_p98, List.forall_mem_cons.mpr ⟨lw_p99, List.forall_mem_cons.mpr ⟨lw_p100, List.forall_mem_cons.mpr ⟨lw_p101, List.forall_mem_cons.mpr ⟨lw_p102, List.forall_mem_cons.mpr ⟨lw_p103, List.forall_mem_cons.mpr ⟨lw_p104, List.forall_mem_cons.mpr ⟨lw_p105, List.forall_mem_cons.mpr ⟨lw_p106, List.forall_mem_cons.mpr ⟨lw_p107, List.forall_mem_cons.mpr ⟨lw_p108, List.forall_mem_cons.mpr ⟨lw_p109, List.forall_mem_cons.mpr ⟨lw_p110, List.forall_mem_cons.mpr ⟨lw_p111, fun _ h => absurd h List.not_mem_nil⟩⟩⟩⟩⟩⟩⟩⟩⟩⟩⟩⟩⟩⟩⟩⟩
theorem lw_p112 : lw_okq (⟨"StackAssemblerModel", "bad", "()V"⟩, 64) := ⟨⟨by decide +kernel, by decide +kernel⟩, List.mem_of_getElem? (i := 1077) (by decide +kernel), List.mem_of_getElem? (i := 1535) (by decide +kernel), List.mem_of_getElem? (i := 1536) (by decide +kernel)⟩
theorem lw_p113 : lw_okq (⟨"StackAssemblerModel", "takeAndPut", "(I)V"⟩, 64) := ⟨⟨by decide +kernel, by decide +kernel⟩, List.mem_of_getElem? (i := 1077) (by decide +kernel), List.mem_of_getElem? (i := 1539) (by decide +kernel), List.mem_of_getElem? (i := 1540) (by decide +kernel)⟩
theorem lw_p114 : lw_okq (⟨"StackAssemblerModel", "callOf", "(J)V"⟩, 64) := ⟨⟨by decide +kernel, by decide +kernel⟩, List.mem_of_getElem? (i := 1077) (by decide +kernel), List.mem_of_getElem? (i := 1543) (by decide +kernel), List.mem_of_getElem? (i := 1544) (by decide +kernel)⟩
theorem lw_p115 : lw_okq (⟨"StackAssemblerModel", "select", "()V"⟩, 64) := ⟨⟨by decide +kernel, by decide +kernel⟩, List.mem_of_getElem? (i := 1077) (by decide +kernel), List.mem_of_getElem? (i := 1547) (by decide +kernel), List.mem_of_getElem? (i := 1548) (by decide +kernel)⟩
theorem lw_p116 : lw_okq (⟨"StackAssemblerModel", "local", "(IIJ)V"⟩, 64) := ⟨⟨by decide +kernel, by decide +kernel⟩, List.mem_of_getElem? (i := 1077) (by decide +kernel), List.mem_of_getElem? (i := 1551) (by decide +kernel), List.mem_of_getElem? (i := 1552) (by decide +kernel)⟩
theorem lw_p117 : lw_okq (⟨"StackAssemblerModel", "arithmetic", "(I)V"⟩, 64) := ⟨⟨by decide +kernel, by decide +kernel⟩, List.mem_of_getElem? (i := 1077) (by decide +kernel), List.mem_of_getElem? (i := 1555) (by decide +kernel), List.mem_of_getElem? (i := 1556) (by decide +kernel)⟩
theorem lw_p118 : lw_okq (⟨"StackAssemblerModel", "adopt", "()V"⟩, 64) := ⟨⟨by decide +kernel, by decide +kernel⟩, List.mem_of_getElem? (i := 1077) (by decide +kernel), List.mem_of_getElem? (i := 1559) (by decide +kernel), List.mem_of_getElem? (i := 1560) (by decide +kernel)⟩
theorem lw_p119 : lw_okq (⟨"StackAssemblerModel", "add", "(I)V"⟩, 64) := ⟨⟨by decide +kernel, by decide +kernel⟩, List.mem_of_getElem? (i := 1077) (by decide +kernel), List.mem_of_getElem? (i := 1567) (by decide +kernel), List.mem_of_getElem? (i := 1568) (by decide +kernel)⟩
theorem lw_p120 : lw_okq (⟨"StackAssemblerModel", "signatureSection", "()V"⟩, 64) := ⟨⟨by decide +kernel, by decide +kernel⟩, List.mem_of_getElem? (i := 1077) (by decide +kernel), List.mem_of_getElem? (i := 1571) (by decide +kernel), List.mem_of_getElem? (i := 1572) (by decide +kernel)⟩
theorem lw_p121 : lw_okq (⟨"StackAssemblerModel", "signaturesBefore", "(I)I"⟩, 64) := ⟨⟨by decide +kernel, by decide +kernel⟩, List.mem_of_getElem? (i := 1077) (by decide +kernel), List.mem_of_getElem? (i := 1575) (by decide +kernel), List.mem_of_getElem? (i := 1576) (by decide +kernel)⟩
theorem lw_p122 : lw_okq (⟨"StackAssemblerModel", "firstLike", "(I)I"⟩, 64) := ⟨⟨by decide +kernel, by decide +kernel⟩, List.mem_of_getElem? (i := 1077) (by decide +kernel), List.mem_of_getElem? (i := 1579) (by decide +kernel), List.mem_of_getElem? (i := 1580) (by decide +kernel)⟩
theorem lw_p123 : lw_okq (⟨"StackAssemblerModel", "sameSignature", "(II)Z"⟩, 64) := ⟨⟨by decide +kernel, by decide +kernel⟩, List.mem_of_getElem? (i := 1077) (by decide +kernel), List.mem_of_getElem? (i := 1583) (by decide +kernel), List.mem_of_getElem? (i := 1584) (by decide +kernel)⟩
theorem lw_p124 : lw_okq (⟨"StackAssemblerModel", "unsigned", "(J)V"⟩, 64) := ⟨⟨by decide +kernel, by decide +kernel⟩, List.mem_of_getElem? (i := 1077) (by decide +kernel), List.mem_of_getElem? (i := 1587) (by decide +kernel), List.mem_of_getElem? (i := 1588) (by decide +kernel)⟩
theorem lw_p125 : lw_okq (⟨"StackAssemblerModel", "close", "(I)V"⟩, 64) := ⟨⟨by decide +kernel, by decide +kernel⟩, List.mem_of_getElem? (i := 1077) (by decide +kernel), List.mem_of_getElem? (i := 1595) (by decide +kernel), List.mem_of_getElem? (i := 1596) (by decide +kernel)⟩
theorem lw_p126 : lw_okq (⟨"StackAssemblerModel", "functionSection", "()V"⟩, 64) := ⟨⟨by decide +kernel, by decide +kernel⟩, List.mem_of_getElem? (i := 1077) (by decide +kernel), List.mem_of_getElem? (i := 1599) (by decide +kernel), List.mem_of_getElem? (i := 1600) (by decide +kernel)⟩
theorem lw_p127 : lw_okq (⟨"StackAssemblerModel", "codeSection", "()V"⟩, 64) := ⟨⟨by decide +kernel, by decide +kernel⟩, List.mem_of_getElem? (i := 1077) (by decide +kernel), List.mem_of_getElem? (i := 1603) (by decide +kernel), List.mem_of_getElem? (i := 1604) (by decide +kernel)⟩
def lw_privs_8 : List (MethodName × Nat) := [(⟨"StackAssemblerModel", "bad", "()V"⟩, 64), (⟨"StackAssemblerModel", "takeAndPut", "(I)V"⟩, 64), (⟨"StackAssemblerModel", "callOf", "(J)V"⟩, 64), (⟨"StackAssemblerModel", "select", "()V"⟩, 64), (⟨"StackAssemblerModel", "local", "(IIJ)V"⟩, 64), (⟨"StackAssemblerModel", "arithmetic", "(I)V"⟩, 64), (⟨"StackAssemblerModel", "adopt", "()V"⟩, 64), (⟨"StackAssemblerModel", "add", "(I)V"⟩, 64), (⟨"StackAssemblerModel", "signatureSection", "()V"⟩, 64), (⟨"StackAssemblerModel", "signaturesBefore", "(I)I"⟩, 64), (⟨"StackAssemblerModel", "firstLike", "(I)I"⟩, 64), (⟨"StackAssemblerModel", "sameSignature", "(II)Z"⟩, 64), (⟨"StackAssemblerModel", "unsigned", "(J)V"⟩, 64), (⟨"StackAssemblerModel", "close", "(I)V"⟩, 64), (⟨"StackAssemblerModel", "functionSection", "()V"⟩, 64), (⟨"StackAssemblerModel", "codeSection", "()V"⟩, 64)]
theorem lw_r8 : ∀ q ∈ lw_privs_8, lw_okq q := List.forall_mem_cons.mpr ⟨lw_p112, List.forall_mem_cons.mpr ⟨lw_p113, List.forall_mem_cons.mpr ⟨lw_p114, List.forall_mem_cons.mpr ⟨lw_p115, List.forall_mem_cons.mpr ⟨lw_p116, List.forall_mem_cons.mpr ⟨lw_p117, List.forall_mem_cons.mpr ⟨lw_p118, List.forall_mem_cons.mpr ⟨lw_p119, List.forall_mem_cons.mpr ⟨lw_p120, List.forall_mem_cons.mpr ⟨lw_p121, List.forall_mem_cons.mpr ⟨lw_p122, List.forall_mem_cons.mpr ⟨lw_p123, List.forall_mem_cons.mpr ⟨lw_p124, List.forall_mem_cons.mpr ⟨lw_p125, List.forall_mem_cons.mpr ⟨lw_p126, List.forall_mem_cons.mpr ⟨lw_p127, fun _ h => absurd h List.not_mem_nil⟩⟩⟩⟩⟩⟩⟩⟩⟩⟩⟩⟩⟩⟩⟩⟩
theorem lw_p128 : lw_okq (⟨"StackAssemblerModel", "runs", "(I)V"⟩, 64) := ⟨⟨by decide +kernel, by decide +kernel⟩, List.mem_of_getElem? (i := 1077) (by decide +kernel), List.mem_of_getElem? (i := 1607) (by decide +kernel), List.mem_of_getElem? (i := 1608) (by decide +kernel)⟩
theorem lw_p129 : lw_okq (⟨"StackAssemblerModel", "runBegins", "(II)Z"⟩, 64) := ⟨⟨by decide +kernel, by decide +kernel⟩, List.mem_of_getElem? (i := 1077) (by decide +kernel), List.mem_of_getElem? (i := 1611) (by decide +kernel), List.mem_of_getElem? (i := 1612) (by decide +kernel)⟩
theorem lw_p130 : lw_okq (⟨"StackAssemblerModel", "instructionBytes", "(I)V"⟩, 64) := ⟨⟨by decide +kernel, by decide +kernel⟩, List.mem_of_getElem? (i := 1077) (by decide +kernel), List.mem_of_getElem? (i := 1615) (by decide +kernel), List.mem_of_getElem? (i := 1616) (by decide +kernel)⟩
theorem lw_p131 : lw_okq (⟨"StackAssemblerModel", "signed", "(J)V"⟩, 64) := ⟨⟨by decide +kernel, by decide +kernel⟩, List.mem_of_getElem? (i := 1077) (by decide +kernel), List.mem_of_getElem? (i := 1619) (by decide +kernel), List.mem_of_getElem? (i := 1620) (by decide +kernel)⟩
theorem lw_p132 : lw_okq (⟨"StackAssemblerModel", "out", "(I)V"⟩, 64) := ⟨⟨by decide +kernel, by decide +kernel⟩, List.mem_of_getElem? (i := 1077) (by decide +kernel), List.mem_of_getElem? (i := 1633) (by decide +kernel), List.mem_of_getElem? (i := 1634) (by decide +kernel)⟩
theorem lw_p133 : lw_okq (⟨"StackAssemblerModel", "outLong", "(J)V"⟩, 64) := ⟨⟨by decide +kernel, by decide +kernel⟩, List.mem_of_getElem? (i := 1077) (by decide +kernel), List.mem_of_getElem? (i := 1637) (by decide +kernel), List.mem_of_getElem? (i := 1638) (by decide +kernel)⟩
theorem lw_p134 : lw_okq (⟨"StackAssemblerModel", "outRow", "(JIII)V"⟩, 64) := ⟨⟨by decide +kernel, by decide +kernel⟩, List.mem_of_getElem? (i := 1077) (by decide +kernel), List.mem_of_getElem? (i := 1641) (by decide +kernel), List.mem_of_getElem? (i := 1642) (by decide +kernel)⟩
theorem lw_p135 : lw_okq (⟨"StackAssemblerModel", "outType", "(I)V"⟩, 64) := ⟨⟨by decide +kernel, by decide +kernel⟩, List.mem_of_getElem? (i := 1077) (by decide +kernel), List.mem_of_getElem? (i := 1645) (by decide +kernel), List.mem_of_getElem? (i := 1646) (by decide +kernel)⟩
theorem lw_p136 : lw_okq (⟨"StackAssemblerModel", "outResult", "(I)V"⟩, 64) := ⟨⟨by decide +kernel, by decide +kernel⟩, List.mem_of_getElem? (i := 1077) (by decide +kernel), List.mem_of_getElem? (i := 1649) (by decide +kernel), List.mem_of_getElem? (i := 1650) (by decide +kernel)⟩
theorem lw_p137 : lw_okq (⟨"StackAssemblerModel", "outInstruction", "(I)V"⟩, 64) := ⟨⟨by decide +kernel, by decide +kernel⟩, List.mem_of_getElem? (i := 1077) (by decide +kernel), List.mem_of_getElem? (i := 1653) (by decide +kernel), List.mem_of_getElem? (i := 1654) (by decide +kernel)⟩
theorem lw_p138 : lw_okq (⟨"StackAssemblerModel", "outNumber", "(J)V"⟩, 64) := ⟨⟨by decide +kernel, by decide +kernel⟩, List.mem_of_getElem? (i := 1077) (by decide +kernel), List.mem_of_getElem? (i := 1657) (by decide +kernel), List.mem_of_getElem? (i := 1658) (by decide +kernel)⟩
theorem lw_p139 : lw_okq (⟨"StackAssemblerModel", "isFunction", "(I)Z"⟩, 64) := ⟨⟨by decide +kernel, by decide +kernel⟩, List.mem_of_getElem? (i := 1077) (by decide +kernel), List.mem_of_getElem? (i := 1675) (by decide +kernel), List.mem_of_getElem? (i := 1676) (by decide +kernel)⟩
theorem lw_p140 : lw_okq (⟨"StackAssemblerModel", "isInstruction", "(II)Z"⟩, 64) := ⟨⟨by decide +kernel, by decide +kernel⟩, List.mem_of_getElem? (i := 1077) (by decide +kernel), List.mem_of_getElem? (i := 1683) (by decide +kernel), List.mem_of_getElem? (i := 1684) (by decide +kernel)⟩
def lw_privs_9 : List (MethodName × Nat) := [(⟨"StackAssemblerModel", "runs", "(I)V"⟩, 64), (⟨"StackAssemblerModel", "runBegins", "(II)Z"⟩, 64), (⟨"StackAssemblerModel", "instructionBytes", "(I)V"⟩, 64), (⟨"StackAssemblerModel", "signed", "(J)V"⟩, 64), (⟨"StackAssemblerModel", "out", "(I)V"⟩, 64), (⟨"StackAssemblerModel", "outLong", "(J)V"⟩, 64), (⟨"StackAssemblerModel", "outRow", "(JIII)V"⟩, 64), (⟨"StackAssemblerModel", "outType", "(I)V"⟩, 64), (⟨"StackAssemblerModel", "outResult", "(I)V"⟩, 64), (⟨"StackAssemblerModel", "outInstruction", "(I)V"⟩, 64), (⟨"StackAssemblerModel", "outNumber", "(J)V"⟩, 64), (⟨"StackAssemblerModel", "isFunction", "(I)Z"⟩, 64), (⟨"StackAssemblerModel", "isInstruction", "(II)Z"⟩, 64)]
theorem lw_r9 : ∀ q ∈ lw_privs_9, lw_okq q := List.forall_mem_cons.mpr ⟨lw_p128, List.forall_mem_cons.mpr ⟨lw_p129, List.forall_mem_cons.mpr ⟨lw_p130, List.forall_mem_cons.mpr ⟨lw_p131, List.forall_mem_cons.mpr ⟨lw_p132, List.forall_mem_cons.mpr ⟨lw_p133, List.forall_mem_cons.mpr ⟨lw_p134, List.forall_mem_cons.mpr ⟨lw_p135, List.forall_mem_cons.mpr ⟨lw_p136, List.forall_mem_cons.mpr ⟨lw_p137, List.forall_mem_cons.mpr ⟨lw_p138, List.forall_mem_cons.mpr ⟨lw_p139, List.forall_mem_cons.mpr ⟨lw_p140, fun _ h => absurd h List.not_mem_nil⟩⟩⟩⟩⟩⟩⟩⟩⟩⟩⟩⟩⟩
def lw_privs : List (MethodName × Nat) := lw_privs_1 ++ (lw_privs_2 ++ (lw_privs_3 ++ (lw_privs_4 ++ (lw_privs_5 ++ (lw_privs_6 ++ (lw_privs_7 ++ (lw_privs_8 ++ (lw_privs_9))))))))
def lw_tbl : List Cond := k2_sels lw_privs ++ tables_1
theorem lw_privs_ok : ∀ q ∈ lw_privs, lw_okq q := by
  show ∀ q ∈ lw_privs_1 ++ (lw_privs_2 ++ (lw_privs_3 ++ (lw_privs_4 ++ (lw_privs_5 ++ (lw_privs_6 ++ (lw_privs_7 ++ (lw_privs_8 ++ (lw_privs_9)))))))), lw_okq q
  exact List.forall_mem_append.mpr ⟨lw_r1, List.forall_mem_append.mpr ⟨lw_r2, List.forall_mem_append.mpr ⟨lw_r3, List.forall_mem_append.mpr ⟨lw_r4, List.forall_mem_append.mpr ⟨lw_r5, List.forall_mem_append.mpr ⟨lw_r6, List.forall_mem_append.mpr ⟨lw_r7, List.forall_mem_append.mpr ⟨lw_r8, lw_r9⟩⟩⟩⟩⟩⟩⟩⟩
end
section
def kz_TT : List Cond := lw_tbl.filter goodWord
def kz_NT : List Cond := tables_1.filter (fun w => match w with | .fieldLinkNest .. => true | .methodLinkNest .. => true | _ => false)
theorem kz_TTok : ∀ w ∈ kz_TT, (w.onTables && w.keeps) = true ∨ ∃ ty, w = .arrayClass ty := fun _ hw => good_of_word (List.mem_filter.mp hw).2
theorem kz_TTin : ∀ w ∈ kz_TT, w ∈ lw_tbl := fun _ hw => (List.mem_filter.mp hw).1
theorem kz_at (i : Nat) {w : Cond} (h : (decide (tables_1[i]? = some w) && goodWord w) = true) : w ∈ kz_TT := by
  rw [Bool.and_eq_true, decide_eq_true_eq] at h
  exact List.mem_filter.mpr ⟨List.mem_append_right _ (List.mem_of_getElem? h.1), h.2⟩
theorem kz_pv (i : Nat) {w : Cond} (h : (decide ((k2_sels lw_privs)[i]? = some w) && goodWord w) = true) : w ∈ kz_TT := by
  rw [Bool.and_eq_true, decide_eq_true_eq] at h
  exact List.mem_filter.mpr ⟨List.mem_append_left _ (List.mem_of_getElem? h.1), h.2⟩
theorem kz_nt (i : Nat) {w : Cond} (h : (decide (tables_1[i]? = some w) && (match w with | .fieldLinkNest .. => true | .methodLinkNest .. => true | _ => false)) = true) : w ∈ kz_NT := by
  rw [Bool.and_eq_true, decide_eq_true_eq] at h
  exact List.mem_filter.mpr ⟨List.mem_of_getElem? h.1, h.2⟩
def kz_T0 : u_T := fun k => match k with
  | 0 => ("StackAssembler", "reader", "LStackAssembler$Reader;", true)
  | 1 => ("StackAssembler", "checker", "LStackAssembler$Checker;", true)
  | 2 => ("StackAssembler", "encoder", "LStackAssembler$Encoder;", true)
  | 3 => ("StackAssembler", "printer", "LStackAssembler$Printer;", true)
  | 4 => ("StackAssembler", "text", "LStackAssembler$Text;", false)
  | 5 => ("StackAssembler", "spareText", "LStackAssembler$Text;", false)
  | 6 => ("StackAssembler", "module", "LStackAssembler$Module;", false)
  | 7 => ("StackAssembler", "spareModule", "LStackAssembler$Module;", false)
  | _ => ("StackAssembler", "place", "I", false)
def kz_T1 : u_T := fun k => match k with
  | 0 => ("StackAssembler$Checker", "stack", "[I", true)
  | 1 => ("StackAssembler$Checker", "frames", "[LStackAssembler$Frame;", true)
  | 2 => ("StackAssembler$Checker", "module", "LStackAssembler$Module;", false)
  | 3 => ("StackAssembler$Checker", "function", "LStackAssembler$Function;", false)
  | 4 => ("StackAssembler$Checker", "height", "I", false)
  | 5 => ("StackAssembler$Checker", "depth", "I", false)
  | 6 => ("StackAssembler$Checker", "invalid", "Z", false)
  | _ => ("StackAssembler$Checker", "stop", "I", false)
def kz_T2 : u_T := fun k => match k with
  | 0 => ("StackAssembler$Encoder", "octets", "[B", true)
  | 1 => ("StackAssembler$Encoder", "signatures", "[I", true)
  | _ => ("StackAssembler$Encoder", "count", "I", false)
def kz_T3 : u_T := fun k => match k with
  | 0 => ("StackAssembler$Frame", "label", "I", false)
  | 1 => ("StackAssembler$Frame", "result", "I", false)
  | 2 => ("StackAssembler$Frame", "height", "I", false)
  | 3 => ("StackAssembler$Frame", "unreachable", "Z", false)
  | _ => ("StackAssembler$Frame", "lacksElse", "Z", false)
def kz_T4 : u_T := fun k => match k with
  | 0 => ("StackAssembler$Function", "types", "[I", true)
  | 1 => ("StackAssembler$Function", "parameters", "I", false)
  | 2 => ("StackAssembler$Function", "slots", "I", false)
  | 3 => ("StackAssembler$Function", "result", "I", false)
  | 4 => ("StackAssembler$Function", "first", "I", false)
  | _ => ("StackAssembler$Function", "size", "I", false)
def kz_T5 : u_T := fun k => match k with
  | 0 => ("StackAssembler$Level", "kind", "I", false)
  | 1 => ("StackAssembler$Level", "phase", "I", false)
  | 2 => ("StackAssembler$Level", "name", "I", false)
  | 3 => ("StackAssembler$Level", "op", "LStackAssembler$Op;", false)
  | _ => ("StackAssembler$Level", "operand", "J", false)
def kz_T6 : u_T := fun k => match k with
  | 0 => ("StackAssembler$Module", "functions", "[LStackAssembler$Function;", true)
  | 1 => ("StackAssembler$Module", "ops", "[LStackAssembler$Op;", true)
  | 2 => ("StackAssembler$Module", "operands", "[J", true)
  | 3 => ("StackAssembler$Module", "count", "I", false)
  | _ => ("StackAssembler$Module", "length", "I", false)
def kz_T7 : u_T := fun k => match k with
  | 0 => ("StackAssembler$Op", "word", "Ljava/lang/String;", true)
  | 1 => ("StackAssembler$Op", "code", "I", true)
  | 2 => ("StackAssembler$Op", "operand", "I", true)
  | 3 => ("StackAssembler$Op", "takes", "I", true)
  | 4 => ("StackAssembler$Op", "taken", "I", true)
  | 5 => ("StackAssembler$Op", "puts", "I", true)
  | _ => ("java/lang/Enum", "ordinal", "I", true)
def kz_T8 : u_T := fun k => match k with
  | _ => ("StackAssembler$Printer", "text", "LStackAssembler$Text;", false)
def kz_T9 : u_T := fun k => match k with
  | 0 => ("StackAssembler$Reader", "scanner", "LStackAssembler$Scanner;", true)
  | 1 => ("StackAssembler$Reader", "levels", "[LStackAssembler$Level;", true)
  | 2 => ("StackAssembler$Reader", "functionNames", "[I", true)
  | 3 => ("StackAssembler$Reader", "slotNames", "[I", true)
  | 4 => ("StackAssembler$Reader", "module", "LStackAssembler$Module;", false)
  | 5 => ("StackAssembler$Reader", "depth", "I", false)
  | 6 => ("StackAssembler$Reader", "awaitsOperand", "Z", false)
  | 7 => ("StackAssembler$Reader", "nameOfEnded", "I", false)
  | 8 => ("StackAssembler$Reader", "value", "J", false)
  | _ => ("StackAssembler$Reader", "stop", "I", false)
def kz_T10 : u_T := fun k => match k with
  | 0 => ("StackAssembler$Scanner", "text", "LStackAssembler$Text;", false)
  | 1 => ("StackAssembler$Scanner", "kind", "I", false)
  | 2 => ("StackAssembler$Scanner", "start", "I", false)
  | 3 => ("StackAssembler$Scanner", "end", "I", false)
  | 4 => ("StackAssembler$Scanner", "op", "LStackAssembler$Op;", false)
  | _ => ("StackAssembler$Scanner", "number", "J", false)
def kz_T11 : u_T := fun k => match k with
  | 0 => ("StackAssembler$Text", "characters", "[C", true)
  | _ => ("StackAssembler$Text", "length", "I", false)
def kz_T12 : u_T := fun k => match k with
  | 0 => ("StackAssemblerModel", "head", "[J", true)
  | 1 => ("StackAssemblerModel", "rest", "[J", true)
  | 2 => ("StackAssemblerModel", "codeOf", "[I", true)
  | 3 => ("StackAssemblerModel", "thrown", "I", false)
  | 4 => ("StackAssemblerModel", "place", "I", false)
  | 5 => ("StackAssemblerModel", "size", "I", false)
  | 6 => ("StackAssemblerModel", "text", "[C", true)
  | 7 => ("StackAssemblerModel", "functions", "I", false)
  | 8 => ("StackAssemblerModel", "parameters", "[I", true)
  | 9 => ("StackAssemblerModel", "variables", "[I", true)
  | 10 => ("StackAssemblerModel", "results", "[I", true)
  | 11 => ("StackAssemblerModel", "types", "[I", true)
  | 12 => ("StackAssemblerModel", "start", "[I", true)
  | 13 => ("StackAssemblerModel", "codes", "[I", true)
  | 14 => ("StackAssemblerModel", "values", "[J", true)
  | 15 => ("StackAssemblerModel", "newFunctions", "I", false)
  | 16 => ("StackAssemblerModel", "newParameters", "[I", true)
  | 17 => ("StackAssemblerModel", "newVariables", "[I", true)
  | 18 => ("StackAssemblerModel", "newResults", "[I", true)
  | 19 => ("StackAssemblerModel", "newTypes", "[I", true)
  | 20 => ("StackAssemblerModel", "newStart", "[I", true)
  | 21 => ("StackAssemblerModel", "newCodes", "[I", true)
  | 22 => ("StackAssemblerModel", "newValues", "[J", true)
  | 23 => ("StackAssemblerModel", "many", "I", false)
  | 24 => ("StackAssemblerModel", "functionName", "[I", true)
  | 25 => ("StackAssemblerModel", "functionLength", "[I", true)
  | 26 => ("StackAssemblerModel", "variableName", "[I", true)
  | 27 => ("StackAssemblerModel", "variableLength", "[I", true)
  | 28 => ("StackAssemblerModel", "calls", "I", false)
  | 29 => ("StackAssemblerModel", "callName", "[I", true)
  | 30 => ("StackAssemblerModel", "callLength", "[I", true)
  | 31 => ("StackAssemblerModel", "callTo", "[I", true)
  | 32 => ("StackAssemblerModel", "at", "I", false)
  | 33 => ("StackAssemblerModel", "kind", "I", false)
  | 34 => ("StackAssemblerModel", "from", "I", false)
  | 35 => ("StackAssemblerModel", "wide", "I", false)
  | 36 => ("StackAssemblerModel", "first", "J", false)
  | 37 => ("StackAssemblerModel", "second", "J", false)
  | 38 => ("StackAssemblerModel", "wrong", "I", false)
  | 39 => ("StackAssemblerModel", "opened", "I", false)
  | 40 => ("StackAssemblerModel", "openCode", "[I", true)
  | 41 => ("StackAssemblerModel", "folded", "[Z", true)
  | 42 => ("StackAssemblerModel", "hasElse", "[Z", true)
  | 43 => ("StackAssemblerModel", "openName", "[I", true)
  | 44 => ("StackAssemblerModel", "openLength", "[I", true)
  | 45 => ("StackAssemblerModel", "openValue", "[J", true)
  | 46 => ("StackAssemblerModel", "openCall", "[I", true)
  | 47 => ("StackAssemblerModel", "number", "J", false)
  | 48 => ("StackAssemblerModel", "calling", "I", false)
  | 49 => ("StackAssemblerModel", "top", "I", false)
  | 50 => ("StackAssemblerModel", "stack", "[I", true)
  | 51 => ("StackAssemblerModel", "frames", "I", false)
  | 52 => ("StackAssemblerModel", "label", "[I", true)
  | 53 => ("StackAssemblerModel", "frameResult", "[I", true)
  | 54 => ("StackAssemblerModel", "height", "[I", true)
  | 55 => ("StackAssemblerModel", "frameCode", "[I", true)
  | 56 => ("StackAssemblerModel", "dead", "[Z", true)
  | 57 => ("StackAssemblerModel", "invalid", "Z", false)
  | 58 => ("StackAssemblerModel", "octets", "I", false)
  | 59 => ("StackAssemblerModel", "octet", "[I", true)
  | 60 => ("StackAssemblerModel", "made", "I", false)
  | 61 => ("StackAssemblerModel", "part", "[I", true)
  | 62 => ("StackAssemblerModel", "printed", "I", false)
  | _ => ("StackAssemblerModel", "print", "[C", true)
def kz_T13 : u_T := fun k => match k with
  | 0 => ("java/lang/String", "value", "[B", true)
  | _ => ("java/lang/String", "coder", "B", true)
def kz_cl : List vw_C := [("StackAssembler", kz_T0, 9), ("StackAssembler$Checker", kz_T1, 8), ("StackAssembler$Encoder", kz_T2, 3), ("StackAssembler$Frame", kz_T3, 5), ("StackAssembler$Function", kz_T4, 6), ("StackAssembler$Level", kz_T5, 5), ("StackAssembler$Module", kz_T6, 5), ("StackAssembler$Op", kz_T7, 7), ("StackAssembler$Printer", kz_T8, 1), ("StackAssembler$Reader", kz_T9, 10), ("StackAssembler$Scanner", kz_T10, 6), ("StackAssembler$Text", kz_T11, 2), ("StackAssemblerModel", kz_T12, 64), ("java/lang/String", kz_T13, 2)]
def kz_N (k : Nat) : Nat := match k with
  | 0 => 9
  | 1 => 8
  | 2 => 3
  | 3 => 5
  | 4 => 6
  | 5 => 5
  | 6 => 5
  | 7 => 7
  | 8 => 1
  | 9 => 10
  | 10 => 6
  | 11 => 2
  | 12 => 64
  | 13 => 2
  | _ => 0
def kz_ft (k j : Nat) : Nat := match k with
  | 0 => ([19, 11, 12, 18, 21, 21, 16, 16, 1] : List Nat).getD j 0
  | 1 => ([50, 58, 16, 14, 1, 1, 3, 1] : List Nat).getD j 0
  | 2 => ([53, 50, 1] : List Nat).getD j 0
  | 3 => ([1, 1, 1, 3, 3] : List Nat).getD j 0
  | 4 => ([50, 1, 1, 1, 1, 1] : List Nat).getD j 0
  | 5 => ([1, 1, 1, 17, 2] : List Nat).getD j 0
  | 6 => ([55, 56, 51, 1, 1] : List Nat).getD j 0
  | 7 => ([23, 1, 1, 1, 1, 1, 1] : List Nat).getD j 0
  | 8 => ([21] : List Nat).getD j 0
  | 9 => ([20, 57, 50, 50, 16, 1, 3, 1, 2, 1] : List Nat).getD j 0
  | 10 => ([21, 1, 1, 1, 17, 2] : List Nat).getD j 0
  | 11 => ([52, 1] : List Nat).getD j 0
  | 12 => ([51, 51, 50, 1, 1, 1, 52, 1, 50, 50, 50, 50, 50, 50, 51, 1, 50, 50, 50, 50, 50, 50, 51, 1, 50, 50, 50, 50, 1, 50, 50, 50, 1, 1, 1, 1, 2, 2, 1, 1, 50, 54, 54, 50, 50, 51, 50, 2, 1, 1, 50, 1, 50, 50, 50, 50, 54, 3, 1, 50, 1, 50, 1, 52] : List Nat).getD j 0
  | 13 => ([53, 5] : List Nat).getD j 0
  | _ => 0
def kz_fT (k j : Nat) : FieldType := match k with
  | 0 => ([.object "StackAssembler$Reader", .object "StackAssembler$Checker", .object "StackAssembler$Encoder", .object "StackAssembler$Printer", .object "StackAssembler$Text", .object "StackAssembler$Text", .object "StackAssembler$Module", .object "StackAssembler$Module", .int] : List FieldType).getD j .int
  | 1 => ([.array .int, .array (.object "StackAssembler$Frame"), .object "StackAssembler$Module", .object "StackAssembler$Function", .int, .int, .boolean, .int] : List FieldType).getD j .int
  | 2 => ([.array .byte, .array .int, .int] : List FieldType).getD j .int
  | 3 => ([.int, .int, .int, .boolean, .boolean] : List FieldType).getD j .int
  | 4 => ([.array .int, .int, .int, .int, .int, .int] : List FieldType).getD j .int
  | 5 => ([.int, .int, .int, .object "StackAssembler$Op", .long] : List FieldType).getD j .int
  | 6 => ([.array (.object "StackAssembler$Function"), .array (.object "StackAssembler$Op"), .array .long, .int, .int] : List FieldType).getD j .int
  | 7 => ([.object "java/lang/String", .int, .int, .int, .int, .int, .int] : List FieldType).getD j .int
  | 8 => ([.object "StackAssembler$Text"] : List FieldType).getD j .int
  | 9 => ([.object "StackAssembler$Scanner", .array (.object "StackAssembler$Level"), .array .int, .array .int, .object "StackAssembler$Module", .int, .boolean, .int, .long, .int] : List FieldType).getD j .int
  | 10 => ([.object "StackAssembler$Text", .int, .int, .int, .object "StackAssembler$Op", .long] : List FieldType).getD j .int
  | 11 => ([.array .char, .int] : List FieldType).getD j .int
  | 12 => ([.array .long, .array .long, .array .int, .int, .int, .int, .array .char, .int, .array .int, .array .int, .array .int, .array .int, .array .int, .array .int, .array .long, .int, .array .int, .array .int, .array .int, .array .int, .array .int, .array .int, .array .long, .int, .array .int, .array .int, .array .int, .array .int, .int, .array .int, .array .int, .array .int, .int, .int, .int, .int, .long, .long, .int, .int, .array .int, .array .boolean, .array .boolean, .array .int, .array .int, .array .long, .array .int, .long, .int, .int, .array .int, .int, .array .int, .array .int, .array .int, .array .int, .array .boolean, .boolean, .int, .array .int, .int, .array .int, .int, .array .char] : List FieldType).getD j .int
  | 13 => ([.array .byte, .byte] : List FieldType).getD j .int
  | _ => .int
def kz_ak : List Nat := [40, 41, 42, 43, 44, 45, 46, 47, 48]
def kz_aT (k : Nat) : FieldType := match k with
  | 40 => .int
  | 41 => .long
  | 42 => .char
  | 43 => .byte
  | 44 => .boolean
  | 45 => .object "StackAssembler$Function"
  | 46 => .object "StackAssembler$Op"
  | 47 => .object "StackAssembler$Level"
  | 48 => .object "StackAssembler$Frame"
  | _ => .int
def kz_ae (k : Nat) : Nat := match k with
  | 40 => 1
  | 41 => 2
  | 42 => 4
  | 43 => 5
  | 44 => 3
  | 45 => 14
  | 46 => 17
  | 47 => 15
  | 48 => 13
  | _ => 0
def kz_st : List (String × String × String × Nat × Int) := [("StackAssembler$Op", "UNREACHABLE", "LStackAssembler$Op;", 17, (-1)), ("StackAssembler$Op", "NOP", "LStackAssembler$Op;", 17, (-2)), ("StackAssembler$Op", "BLOCK", "LStackAssembler$Op;", 17, (-3)), ("StackAssembler$Op", "LOOP", "LStackAssembler$Op;", 17, (-4)), ("StackAssembler$Op", "IF", "LStackAssembler$Op;", 17, (-5)), ("StackAssembler$Op", "ELSE", "LStackAssembler$Op;", 17, (-6)), ("StackAssembler$Op", "END", "LStackAssembler$Op;", 17, (-7)), ("StackAssembler$Op", "BR", "LStackAssembler$Op;", 17, (-8)), ("StackAssembler$Op", "BR_IF", "LStackAssembler$Op;", 17, (-9)), ("StackAssembler$Op", "RETURN", "LStackAssembler$Op;", 17, (-10)), ("StackAssembler$Op", "CALL", "LStackAssembler$Op;", 17, (-11)), ("StackAssembler$Op", "DROP", "LStackAssembler$Op;", 17, (-12)), ("StackAssembler$Op", "SELECT", "LStackAssembler$Op;", 17, (-13)), ("StackAssembler$Op", "LOCAL_GET", "LStackAssembler$Op;", 17, (-14)), ("StackAssembler$Op", "LOCAL_SET", "LStackAssembler$Op;", 17, (-15)), ("StackAssembler$Op", "LOCAL_TEE", "LStackAssembler$Op;", 17, (-16)), ("StackAssembler$Op", "I32_CONST", "LStackAssembler$Op;", 17, (-17)), ("StackAssembler$Op", "I64_CONST", "LStackAssembler$Op;", 17, (-18)), ("StackAssembler$Op", "I32_EQZ", "LStackAssembler$Op;", 17, (-19)), ("StackAssembler$Op", "I32_EQ", "LStackAssembler$Op;", 17, (-20)), ("StackAssembler$Op", "I32_LT_S", "LStackAssembler$Op;", 17, (-21)), ("StackAssembler$Op", "I64_EQZ", "LStackAssembler$Op;", 17, (-22)), ("StackAssembler$Op", "I64_EQ", "LStackAssembler$Op;", 17, (-23)), ("StackAssembler$Op", "I32_ADD", "LStackAssembler$Op;", 17, (-24)), ("StackAssembler$Op", "I32_SUB", "LStackAssembler$Op;", 17, (-25)), ("StackAssembler$Op", "I32_MUL", "LStackAssembler$Op;", 17, (-26)), ("StackAssembler$Op", "I64_ADD", "LStackAssembler$Op;", 17, (-27)), ("StackAssembler$Op", "I64_MUL", "LStackAssembler$Op;", 17, (-28)), ("StackAssembler$Op", "I32_WRAP_I64", "LStackAssembler$Op;", 17, (-29)), ("StackAssembler$Op", "I64_EXTEND_I32_S", "LStackAssembler$Op;", 17, (-30)), ("StackAssembler$Op", "ALL", "[LStackAssembler$Op;", 56, (-31)), ("StackAssembler$Encoder", "HEADER", "[I", 50, (-32)), ("StackAssembler$1", "$SwitchMap$StackAssembler$Op", "[I", 50, (-33)), ("java/lang/String", "COMPACT_STRINGS", "Z", 3, 1)]
def kz_ss : List (String × Nat × String × Int) := [("StackAssembler$Reader", 124, "module", (-35)), ("StackAssembler$Reader", 139, "func", (-37)), ("StackAssembler$Reader", 148, "param", (-39)), ("StackAssembler$Reader", 150, "result", (-41)), ("StackAssembler$Reader", 152, "local", (-43)), ("StackAssembler$Scanner", 70, "i32", (-45)), ("StackAssembler$Scanner", 76, "i64", (-47)), ("StackAssembler", 92, "the text is malformed", (-49)), ("StackAssembler", 99, "the text is too much", (-51)), ("StackAssembler", 104, "the module is invalid", (-53)), ("StackAssembler$Printer", 21, "(module", (-55)), ("StackAssembler$Printer", 44, "(func", (-57)), ("StackAssembler$Printer", 46, "(param", (-59)), ("StackAssembler$Printer", 100, "i32", (-45)), ("StackAssembler$Printer", 102, "i64", (-47)), ("StackAssembler$Printer", 98, "(result ", (-61)), ("StackAssembler$Printer", 64, "(local", (-63)), ("StackAssembler", 120, "the printed text is too long", (-65)), ("StackAssembler$Op", 149, "nop", (-67)), ("StackAssembler$Op", 164, "end", (-69)), ("StackAssembler$Op", 161, "else", (-71)), ("StackAssembler$Op", 158, "if", (-73)), ("StackAssembler$Op", 176, "call", (-75)), ("StackAssembler$Op", 155, "loop", (-77)), ("StackAssembler$Op", 170, "br_if", (-79)), ("StackAssembler$Op", 185, "local.get", (-81)), ("StackAssembler$Op", 188, "local.set", (-83)), ("StackAssembler$Op", 143, "unreachable", (-85)), ("StackAssembler$Op", 152, "block", (-87)), ("StackAssembler$Op", 167, "br", (-89)), ("StackAssembler$Op", 173, "return", (-91)), ("StackAssembler$Op", 179, "drop", (-93)), ("StackAssembler$Op", 182, "select", (-95)), ("StackAssembler$Op", 191, "local.tee", (-97)), ("StackAssembler$Op", 194, "i32.const", (-99)), ("StackAssembler$Op", 197, "i64.const", (-101)), ("StackAssembler$Op", 200, "i32.eqz", (-103)), ("StackAssembler$Op", 203, "i32.eq", (-105)), ("StackAssembler$Op", 206, "i32.lt_s", (-107)), ("StackAssembler$Op", 209, "i64.eqz", (-109)), ("StackAssembler$Op", 212, "i64.eq", (-111)), ("StackAssembler$Op", 215, "i32.add", (-113)), ("StackAssembler$Op", 218, "i32.sub", (-115)), ("StackAssembler$Op", 221, "i32.mul", (-117)), ("StackAssembler$Op", 224, "i64.add", (-119)), ("StackAssembler$Op", 227, "i64.mul", (-121)), ("StackAssembler$Op", 230, "i32.wrap_i64", (-123)), ("StackAssembler$Op", 233, "i64.extend_i32_s", (-125))]
def kz_nC : Nat := 126
def kz_kI : Nat := 7
def kz_kS : Nat := 13
def kz_kc (x : Int) : Nat := if -30 ≤ x then 7 else if x = -31 then 46 else if -34 ≤ x then 40 else if x % 2 = 1 then 13 else 43
end
section
/-! The machine of numbers: a heap is a function of object number and place; ints, longs and references are numbers. Place -1: an array's length; -2: the object's kind; -3: its address. Object 0 is null; (0, 0): how many objects were made, (0, 1): the size of the machine's heap. Numbers below zero: what was there before the law began. -/
abbrev qz_H : Type := Int → Int → Int
abbrev qz_R : Type := Int × qz_H
def qz_up (h : qz_H) (o i v : Int) : qz_H := fun a b => if a = o ∧ b = i then v else h a b
def qz_bn {α β : Type} (a : α) (f : α → β) : β := f a
def qz_ck (c : Prop) [Decidable c] (t : Option qz_R) : Option qz_R := if c then t else none
def qz_bc (o : Option qz_R) (f : Int → qz_H → Option qz_R) : Option qz_R := match o with
  | none => none
  | some r => f r.1 r.2
def qz_nw (h : qz_H) (k n : Int) : qz_H := fun a b => if a = 0 then (if b = 0 then h 0 0 + 1 else if b = 1 then h 0 1 + 1 else h 0 b) else if a = h 0 0 + 1 then (if b = -1 then n else if b = -2 then k else if b = -3 then h 0 1 else 0) else h a b
def qz_w (z : Int) : Int := (Int32.ofInt z).toInt
def qz_x (z : Int) : Int := (Int64.ofInt z).toInt
/-- a value on the stack or in a local: an int, a long, a reference (whether it is known not to be null, its kind, its number), nothing -/
abbrev qz_V : Type := Int ⊕ (Int ⊕ ((Bool × Nat × Int) ⊕ Unit))
def qz_i (x : Int) : qz_V := .inl x
def qz_j (x : Int) : qz_V := .inr (.inl x)
def qz_r (b : Bool) (k : Nat) (x : Int) : qz_V := .inr (.inr (.inl (b, k, x)))
def qz_u : qz_V := .inr (.inr (.inr ()))
def qz_ad (h : qz_H) (x : Int) : Nat := (h x (-3)).toNat
def qz_rf (h : qz_H) (x : Int) : Option Nat := if x = 0 then none else some (qz_ad h x)
def qz_cv (h : qz_H) (v : qz_V) : Value := match v with
  | .inl x => .int (Int32.ofInt x)
  | .inr (.inl x) => .long (Int64.ofInt x)
  | .inr (.inr (.inl q)) => va_rf (qz_rf h q.2.2)
  | .inr (.inr (.inr _)) => .null
/-- x is an object of kind k -/
def qz_ok (h : qz_H) (k : Nat) (x : Int) : Prop := ((1 ≤ x ∧ x ≤ h 0 0) ∨ (-(kz_nC : Int) ≤ x ∧ x ≤ -1)) ∧ h x (-2) = (k : Int)
def qz_32 (x : Int) : Prop := -2147483648 ≤ x ∧ x ≤ 2147483647
def qz_64 (x : Int) : Prop := -9223372036854775808 ≤ x ∧ x ≤ 9223372036854775807
def qz_b32 (n : Int) : Bool := decide (-2147483648 ≤ n) && decide (n ≤ 2147483647)
def qz_vo (h : qz_H) (v : qz_V) : Prop := match v with
  | .inl x => qz_32 x
  | .inr (.inl x) => qz_64 x
  | .inr (.inr (.inl q)) => (q.1 = false ∧ q.2.2 = 0) ∨ qz_ok h q.2.1 q.2.2
  | .inr (.inr (.inr _)) => True
/-- types: 1 int, 2 long, 3 boolean, 4 char, 5 byte, 10 + k a reference of kind k -/
def qz_tv (h : qz_H) (t : Nat) (x : Int) : Value := if t = 2 then .long (Int64.ofInt x) else if t < 10 then .int (Int32.ofInt x) else va_rf (qz_rf h x)
def qz_rg (h : qz_H) (t : Nat) (x : Int) : Prop := if t = 2 then qz_64 x else if t = 3 then (x = 0 ∨ x = 1) else if t = 4 then (0 ≤ x ∧ x ≤ 65535) else if t = 5 then (-128 ≤ x ∧ x ≤ 127) else if t < 10 then qz_32 x else (x = 0 ∨ qz_ok h (t - 10) x)
/-- what a cell holds, and what the heap of numbers says of it -/
def qz_ob (D : va_G) (h : qz_H) (H : Heap) (x : Int) (k : Nat) : Prop := ∃ cell : Cell, H[qz_ad h x]? = some cell ∧ cell.cls = D.1 k ∧ cell.vm ≠ .unknown ∧ cell.vm.isStatics = false ∧ (0 < x → cell.vm = .none) ∧ ∀ j : Nat, j < kz_N k → cell.slots[D.2 k j]? = some (qz_tv h (kz_ft k j) (h x j))
def qz_ay (dA : Nat → ClassId) (U : State) (h : qz_H) (H : Heap) (x : Int) (k : Nat) : Prop := ∃ cell : Cell, H[qz_ad h x]? = some cell ∧ U.isArrayOf cell (kz_aT k) ∧ cell.vm ≠ .unknown ∧ (0 < x → cell.vm = .none ∧ cell.cls = dA k) ∧ (h x (-1)).toNat ≤ cell.slots.size ∧ cell.slots.size.toInt32 = Int32.ofInt (h x (-1)) ∧ ∀ j : Nat, j < (h x (-1)).toNat → cell.slots[j]? = some (qz_tv h (kz_ae k) (h x j))
def qz_ob2 (D : va_G) (h : qz_H) (H : Heap) (x : Int) (k : Nat) : Prop := qz_ob D h H x k ∧ ∀ j : Nat, j < kz_N k → qz_rg h (kz_ft k j) (h x j)
def qz_ay2 (dA : Nat → ClassId) (U : State) (h : qz_H) (H : Heap) (x : Int) (k : Nat) : Prop := qz_ay dA U h H x k ∧ 0 ≤ h x (-1) ∧ h x (-1) ≤ 2147483647 ∧ ∀ j : Nat, (j : Int) < h x (-1) → qz_rg h (kz_ae k) (h x j)
/-- one heap of numbers goes on from another: what was an object stays one, at its place -/
def qz_ex (h h' : qz_H) : Prop := ∀ (k : Nat) (x : Int), qz_ok h k x → qz_ok h' k x ∧ h' x (-3) = h x (-3)
/-- the world: every object's cell is as the heap of numbers says -/
def qz_W (D : va_G) (dA : Nat → ClassId) (B0 : Nat) (hc h0 : qz_H) (U : State) (h : qz_H) (H : Heap) : Prop :=
  (0 ≤ h 0 0 ∧ h 0 1 = (H.size : Int)) ∧ (∀ (x : Int) (k : Nat), qz_ok h k x → (k < 40 → qz_ob2 D h H x k) ∧ (40 ≤ k → qz_ay2 dA U h H x k)) ∧
  (∀ x : Int, 1 ≤ x → x ≤ h 0 0 → B0 ≤ qz_ad h x ∧ (0 ≤ h x (-2) ∧ h x (-2) < 99)) ∧ (∀ x y : Int, 1 ≤ x → x ≤ h 0 0 → 1 ≤ y → y ≤ h 0 0 → qz_ad h x = qz_ad h y → x = y) ∧ (∀ x : Int, -(kz_nC : Int) ≤ x → x ≤ -1 → qz_ad h x < B0) ∧ (∀ x : Int, x ≤ -1 → ∀ j : Int, h x j = hc x j) ∧ qz_ex h0 h
def qz_A (B0 : Nat) : Nat → Prop := fun q => B0 ≤ q
/-- what holds of the tables and of what was there before, at a method's entry -/
def qz_tys (dA : Nat → ClassId) : List (ClassId × FieldType) := kz_ak.map fun k => (dA k, kz_aT k)
def qz_kd (hc : qz_H) : Prop := ∀ x : Int, -(kz_nC : Int) ≤ x → x ≤ -1 → hc x (-2) = (kz_kc x : Int)
def qz_E (D : va_G) (dA : Nat → ClassId) (B0 : Nat) (hc : qz_H) (U : State) : Prop :=
  B0 ≤ U.heap.size ∧ va_K D kz_cl (qz_tys dA) U ∧ (∀ w ∈ kz_NT, va_Nw w U) ∧ (∀ q ∈ kz_st, va_Z q.1 q.2.1 q.2.2.1 (qz_tv hc q.2.2.2.1 q.2.2.2.2) (qz_A B0) U U.heap) ∧ (∀ q ∈ kz_ss, vk_R q.1 q.2.1 q.2.2.1 (qz_ad hc q.2.2.2) U) ∧ (∀ x y : Int, -(kz_nC : Int) ≤ x → x ≤ -1 → -(kz_nC : Int) ≤ y → y ≤ -1 → hc x (-2) = (kz_kI : Int) → hc y (-2) = (kz_kI : Int) → qz_ad hc x = qz_ad hc y → x = y) ∧ qz_kd hc
/-- a method: name, code, locals, what it answers (the machine's word, mine), room -/
abbrev qz_Y : Type := MethodName × ByteArray × Nat × Option FieldType × Nat × Room
def qz_ws (Y : qz_Y) : List Cond := Cond.code Y.1 Y.2.1 Y.2.2.1 Y.2.2.2.1 :: kz_TT
abbrev qz_G : Type := Program × Launch × Env × State × MethodId × Array Value × List Frame × Method × Code × va_G × (Nat → ClassId) × Nat × qz_H × qz_H
def qz_ca (cc : ByteArray) : Nat → List (Instr × Nat) → Prop
  | _, [] => True
  | pc, i :: is => decode cc pc = .ok i ∧ qz_ca cc (pc + i.2) is
def qz_cab (cc : ByteArray) : Nat → List (Instr × Nat) → Bool
  | _, [] => true
  | pc, i :: is => decide (decode cc pc = .ok i) && qz_cab cc (pc + i.2) is
theorem qz_cab_ok {cc : ByteArray} : ∀ (is : List (Instr × Nat)) (pc : Nat), qz_cab cc pc is = true → qz_ca cc pc is
  | [], _, _ => trivial
  | i :: is, pc, h => by
    simp only [qz_cab, Bool.and_eq_true, decide_eq_true_eq] at h
    exact ⟨h.1, qz_cab_ok is _ h.2⟩
def qz_sr (h : qz_H) : List qz_V → List Value → Prop
  | [], s => s = []
  | v :: st, s => ∃ r, s = qz_cv h v :: r ∧ qz_vo h v ∧ qz_sr h st r
def qz_lr (h : qz_H) (ls : List qz_V) (lsC : Array Slot) (n : Nat) : Prop := ∃ lv : List (Nat × Value), lv_has lsC n lv ∧ ∀ (i : Nat) (v : qz_V), ls[i]? = some v → v = qz_u ∨ (qz_vo h v ∧ (i, qz_cv h v) ∈ lv)
def qz_rv (Y : qz_Y) (r : qz_R) : Option Value := if Y.2.2.2.2.1 = 0 then none else some (qz_tv r.2 Y.2.2.2.2.1 r.1)
def qz_Q (Y : qz_Y) (D : va_G) (dA : Nat → ClassId) (B0 : Nat) (hc h0 : qz_H) (r : qz_R) : Array Value → State → Outcome → State → Prop := fun _ st oc t =>
  (oc = .returned (qz_rv Y r) ∧ qz_W D dA B0 hc h0 t r.2 t.heap ∧ (Y.2.2.2.2.1 ≠ 0 → qz_rg r.2 Y.2.2.2.2.1 r.1)) ∧ va_F (qz_A B0) st t
def qz_X (Y : qz_Y) (G : qz_G) : Prop := match G with
  | (p, _, _, s, m, args, _, meth, c, D, dA, B0, hc, _) => p.tables.exec = Jvm.exec ∧ c.code = Y.2.1 ∧ c.maxLocals = Y.2.2.1 ∧ meth.sig.returnType = Y.2.2.2.1 ∧ meth.locks = false ∧ meth.name = Y.1.name ∧ s.vm.findClass Y.1.cls = some m.cls ∧ (∀ w ∈ qz_ws Y, w.before args s = true) ∧ qz_E D dA B0 hc s
/-- at this place, with these locals, this stack and this heap of numbers, what is left of the method does what t says -/
def qz_J (Y : qz_Y) (G : qz_G) (is : List (Instr × Nat)) (pc : Nat) (ls st : List qz_V) (h : qz_H) (cs sl : Nat) (t : Option qz_R) : Prop := match G with
  | (p, l, e, s, m, args, below, meth, c, D, dA, B0, hc, h0) => ∀ r, t = some r → qz_X Y G → ∀ (lsC : Array Slot) (stC : List Value) (H : Heap) (locs : List Loc), qz_ca Y.2.1 pc is → qz_lr h ls lsC Y.2.2.1 → qz_sr h st stC → qz_W D dA B0 hc h0 s h H → va_S (qz_A B0) s.heap H locs →
    W p l e Y.2.2.2.2.2 s m args below meth c H locs cs sl (MQ below (qz_Q Y D dA B0 hc h0 r) args s Y.2.2.2.2.2.cells Y.2.2.2.2.2.slots (qz_A B0)) (F0 m pc lsC stC)
/-- a method's contract: on these values and this heap of numbers it does what t says -/
def qz_P (D : va_G) (dA : Nat → ClassId) (B0 : Nat) (hc : qz_H) (vs : List qz_V) (h : qz_H) : Array Value → State → Prop := fun a U => a = (vs.map (qz_cv h)).toArray ∧ (∀ v ∈ vs, qz_vo h v) ∧ qz_W D dA B0 hc h U h U.heap ∧ qz_E D dA B0 hc U
def qz_C (Y : qz_Y) (vs : List qz_V) (h : qz_H) (t : Option qz_R) : Prop := ∀ r, t = some r → ∀ (l : Launch) (D : va_G) (dA : Nat → ClassId) (B0 : Nat) (hc : qz_H), Met l Y.1 (qz_ws Y) Y.2.2.2.2.2 (qz_P D dA B0 hc vs h) (qz_Q Y D dA B0 hc h r) Y.2.2.2.2.2.cells Y.2.2.2.2.2.slots (qz_A B0)
theorem qz_r32 (v : Int32) : qz_32 v.toInt := ⟨by have := v.le_toInt; omega, by have := v.toInt_lt; omega⟩
theorem qz_r64 (v : Int64) : qz_64 v.toInt := ⟨by have := v.le_toInt; omega, by have := v.toInt_lt; omega⟩
theorem qz_t32 {x : Int} (h : qz_32 x) : (Int32.ofInt x).toInt = x := Int32.toInt_ofInt_of_le (by have := h.1; omega) (by have := h.2; omega)
theorem qz_t64 {x : Int} (h : qz_64 x) : (Int64.ofInt x).toInt = x := Int64.toInt_ofInt_of_le (by have := h.1; omega) (by have := h.2; omega)
theorem qz_b32_ok {n : Int} (h : qz_b32 n = true) : qz_32 n := by
  simp only [qz_b32, Bool.and_eq_true, decide_eq_true_eq] at h
  exact h
theorem qz_e32 {x y : Int} (hx : qz_32 x) (hy : qz_32 y) : Int32.ofInt x = Int32.ofInt y ↔ x = y := ⟨fun h => by rw [← qz_t32 hx, ← qz_t32 hy, h], fun h => by rw [h]⟩
theorem qz_l32 {x y : Int} (hx : qz_32 x) (hy : qz_32 y) : Int32.ofInt x < Int32.ofInt y ↔ x < y := by rw [Int32.lt_iff_toInt_lt, qz_t32 hx, qz_t32 hy]
theorem qz_m32 {x y : Int} (hx : qz_32 x) (hy : qz_32 y) : Int32.ofInt x ≤ Int32.ofInt y ↔ x ≤ y := by rw [Int32.le_iff_toInt_le, qz_t32 hx, qz_t32 hy]
theorem qz_032 : qz_32 0 := ⟨by decide, by decide⟩
theorem qz_z0 : (0 : Int32) = Int32.ofInt 0 := by decide
theorem qz_e0 {x : Int} (hx : qz_32 x) : Int32.ofInt x = 0 ↔ x = 0 := by rw [qz_z0]; exact qz_e32 hx qz_032
theorem qz_l0 {x : Int} (hx : qz_32 x) : Int32.ofInt x < 0 ↔ x < 0 := by rw [qz_z0]; exact qz_l32 hx qz_032
theorem qz_g0 {x : Int} (hx : qz_32 x) : 0 < Int32.ofInt x ↔ 0 < x := by rw [qz_z0]; exact qz_l32 qz_032 hx
theorem qz_le0 {x : Int} (hx : qz_32 x) : Int32.ofInt x ≤ 0 ↔ x ≤ 0 := by rw [qz_z0]; exact qz_m32 hx qz_032
theorem qz_ge0 {x : Int} (hx : qz_32 x) : 0 ≤ Int32.ofInt x ↔ 0 ≤ x := by rw [qz_z0]; exact qz_m32 qz_032 hx
theorem qz_ck_some {c : Prop} [Decidable c] {t : Option qz_R} {r : qz_R} (h : qz_ck c t = some r) : c ∧ t = some r := by
  unfold qz_ck at h
  split at h
  · exact ⟨by assumption, h⟩
  · cases h
theorem qz_cvI (h : qz_H) (v : Int32) : qz_cv h (qz_i v.toInt) = .int v := by simp [qz_cv, qz_i]
theorem qz_cvJ (h : qz_H) (v : Int64) : qz_cv h (qz_j v.toInt) = .long v := by simp [qz_cv, qz_j]
def qz_c1 (v : qz_V) : Bool := match v with
  | .inl _ => true
  | .inr (.inr (.inl _)) => true
  | _ => false
theorem qz_cat (h : qz_H) {v : qz_V} (hv : qz_c1 v = true) : (qz_cv h v).category = 1 := by
  rcases v with x | x | q | q
  · rfl
  · cases hv
  · show (va_rf (qz_rf h q.2.2)).category = 1
    cases qz_rf h q.2.2 <;> rfl
  · cases hv
theorem qz_ex.vo {h h' : qz_H} (he : qz_ex h h') {v : qz_V} (hv : qz_vo h v) : qz_vo h' v ∧ qz_cv h' v = qz_cv h v ∨ (v = qz_u) := by
  rcases v with x | x | ⟨b, k, x⟩ | q
  · exact Or.inl ⟨hv, rfl⟩
  · exact Or.inl ⟨hv, rfl⟩
  · rcases hv with ⟨h1, h2⟩ | h1
    · have h2 : x = 0 := h2
      subst h2
      exact Or.inl ⟨Or.inl ⟨h1, rfl⟩, rfl⟩
    · obtain ⟨h3, h4⟩ := he k x h1
      refine Or.inl ⟨Or.inr h3, ?_⟩
      show va_rf (qz_rf h' x) = va_rf (qz_rf h x)
      unfold qz_rf qz_ad
      rw [h4]
  · exact Or.inr rfl
theorem qz_ex.vo' {h h' : qz_H} (he : qz_ex h h') {v : qz_V} (hv : qz_vo h v) : qz_vo h' v ∧ qz_cv h' v = qz_cv h v := by
  rcases he.vo hv with h1 | h1
  · exact h1
  · subst h1
    exact ⟨trivial, rfl⟩
theorem qz_ex.sr {h h' : qz_H} (he : qz_ex h h') : ∀ (st : List qz_V) (s : List Value), qz_sr h st s → qz_sr h' st s
  | [], _, hs => hs
  | v :: st, _, ⟨r, h1, h2, h3⟩ => ⟨r, by rw [(he.vo' h2).2]; exact h1, (he.vo' h2).1, he.sr st r h3⟩
theorem qz_ex.lr {h h' : qz_H} (he : qz_ex h h') {ls : List qz_V} {a : Array Slot} {n : Nat} (hl : qz_lr h ls a n) : qz_lr h' ls a n := by
  obtain ⟨lv, h1, h2⟩ := hl
  refine ⟨lv, h1, fun i v hi => ?_⟩
  rcases h2 i v hi with h3 | ⟨h3, h4⟩
  · exact Or.inl h3
  · exact Or.inr ⟨(he.vo' h3).1, by rw [(he.vo' h3).2]; exact h4⟩
/-- storing a local -/
def qz_lg (v : qz_V) : Bool := match v with
  | .inr (.inl _) => true
  | _ => false
def qz_c0 : List qz_V → List qz_V
  | [] => []
  | _ :: r => qz_u :: r
def qz_st : Nat → qz_V → List qz_V → List qz_V
  | _, _, [] => []
  | 0, v, _ :: r => v :: (if qz_lg v = true then qz_c0 r else r)
  | i + 1, v, u :: r => (if i = 0 ∧ qz_lg u = true then qz_u else u) :: qz_st i v r
theorem qz_st_at : ∀ (i : Nat) (v : qz_V) (ls : List qz_V) (j : Nat) (u : qz_V), (qz_st i v ls)[j]? = some u → (j = i ∧ u = v) ∨ u = qz_u ∨ (j ≠ i ∧ ls[j]? = some u ∧ (qz_lg v = true → j ≠ i + 1) ∧ (j + 1 = i → qz_lg u = false))
  | i, v, [], j, u, h => by cases i <;> simp [qz_st] at h
  | 0, v, w :: r, 0, u, h => by
    simp [qz_st] at h
    exact Or.inl ⟨rfl, h.symm⟩
  | 0, v, w :: r, j + 1, u, h => by
    simp only [qz_st, List.getElem?_cons_succ] at h
    by_cases hv : qz_lg v = true
    · rw [if_pos hv] at h
      cases r with
      | nil => simp [qz_c0] at h
      | cons w2 r2 =>
        cases j with
        | zero => simp [qz_c0] at h; exact Or.inr (Or.inl h.symm)
        | succ j => 
          simp only [qz_c0, List.getElem?_cons_succ] at h
          exact Or.inr (Or.inr ⟨by omega, by simpa using h, fun _ => by omega, fun q => by omega⟩)
    · rw [if_neg hv] at h
      exact Or.inr (Or.inr ⟨by omega, by simpa using h, fun q => absurd q hv, fun q => by omega⟩)
  | i + 1, v, w :: r, 0, u, h => by
    simp only [qz_st, List.getElem?_cons_zero, Option.some.injEq] at h
    by_cases hc : i = 0 ∧ qz_lg w = true
    · rw [if_pos hc] at h
      exact Or.inr (Or.inl h.symm)
    · rw [if_neg hc] at h
      subst h
      refine Or.inr (Or.inr ⟨by omega, by simp, fun _ => by omega, fun q => ?_⟩)
      have : i = 0 := by omega
      simpa [this] using hc
  | i + 1, v, w :: r, j + 1, u, h => by
    simp only [qz_st, List.getElem?_cons_succ] at h
    rcases qz_st_at i v r j u h with ⟨a, b⟩ | a | ⟨a, b, c, d⟩
    · exact Or.inl ⟨by omega, b⟩
    · exact Or.inr (Or.inl a)
    · exact Or.inr (Or.inr ⟨by omega, by simpa using b, fun q => by have := c q; omega, fun q => d (by omega)⟩)
theorem qz_catL (h : qz_H) {v : qz_V} (hv : qz_lg v = false) : ¬ (qz_cv h v).category = 2 := by
  rcases v with x | x | q | q
  · simp [qz_cv, Value.category]
  · cases hv
  · show ¬ (va_rf (qz_rf h q.2.2)).category = 2
    cases qz_rf h q.2.2 <;> simp [va_rf, Value.category]
  · simp [qz_cv, Value.category]
theorem qz_lr_st1 {h : qz_H} {ls : List qz_V} {a a' : Array Slot} {n i : Nat} {v : qz_V} {lv : List (Nat × Value)} (h2 : ∀ (i : Nat) (v : qz_V), ls[i]? = some v → v = qz_u ∨ (qz_vo h v ∧ (i, qz_cv h v) ∈ lv)) (hv : qz_vo h v) (hg : qz_lg v = false)
    (h1 : lv_has a' n ((i, qz_cv h v) :: lv.filter (fun q => !(q.1 == i) && !(q.1 + 1 == i && q.2.category == 2)))) : qz_lr h (qz_st i v ls) a' n := by
  refine ⟨_, h1, fun j u hj => ?_⟩
  rcases qz_st_at i v ls j u hj with ⟨rfl, rfl⟩ | q | ⟨q1, q2, q3, q4⟩
  · exact Or.inr ⟨hv, List.mem_cons_self⟩
  · exact Or.inl q
  · rcases h2 j u q2 with z | ⟨z1, z2⟩
    · exact Or.inl z
    · refine Or.inr ⟨z1, List.mem_cons_of_mem _ (List.mem_filter.mpr ⟨z2, ?_⟩)⟩
      simp only [Bool.and_eq_true, Bool.not_eq_true', beq_eq_false_iff_ne, ne_eq, Bool.and_eq_false_iff]
      refine ⟨q1, ?_⟩
      by_cases e : j + 1 = i
      · exact Or.inr (qz_catL h (q4 e))
      · exact Or.inl e
theorem qz_lr_st2 {h : qz_H} {ls : List qz_V} {a a' : Array Slot} {n i : Nat} {v : qz_V} {lv : List (Nat × Value)} (h2 : ∀ (i : Nat) (v : qz_V), ls[i]? = some v → v = qz_u ∨ (qz_vo h v ∧ (i, qz_cv h v) ∈ lv)) (hv : qz_vo h v) (hg : qz_lg v = true)
    (h1 : lv_has a' n ((i, qz_cv h v) :: lv.filter (fun q => !(q.1 == i) && (!(q.1 == i + 1) && !(q.1 + 1 == i && q.2.category == 2))))) : qz_lr h (qz_st i v ls) a' n := by
  refine ⟨_, h1, fun j u hj => ?_⟩
  rcases qz_st_at i v ls j u hj with ⟨rfl, rfl⟩ | q | ⟨q1, q2, q3, q4⟩
  · exact Or.inr ⟨hv, List.mem_cons_self⟩
  · exact Or.inl q
  · rcases h2 j u q2 with z | ⟨z1, z2⟩
    · exact Or.inl z
    · refine Or.inr ⟨z1, List.mem_cons_of_mem _ (List.mem_filter.mpr ⟨z2, ?_⟩)⟩
      simp only [Bool.and_eq_true, Bool.not_eq_true', beq_eq_false_iff_ne, ne_eq, Bool.and_eq_false_iff]
      refine ⟨q1, q3 hg, ?_⟩
      by_cases e : j + 1 = i
      · exact Or.inr (qz_catL h (q4 e))
      · exact Or.inl e
theorem qz_lr_at {h : qz_H} {ls : List qz_V} {a : Array Slot} {n i : Nat} {v : qz_V} (hl : qz_lr h ls a n) (hi : ls[i]? = some v) (hu : v ≠ qz_u) : qz_vo h v ∧ a[i]? = some (.val (qz_cv h v)) := by
  obtain ⟨lv, h1, h2⟩ := hl
  rcases h2 i v hi with h3 | ⟨h3, h4⟩
  · exact absurd h3 hu
  · exact ⟨h3, h1.2.2 _ h4⟩

section QZ
variable {Y : qz_Y} {G : qz_G} {is isT : List (Instr × Nat)} {pc T : Nat} {ls st : List qz_V} {h : qz_H} {cs sl : Nat} {t t1 t2 : Option qz_R}

theorem qz_iconst {n : Int} (hn : qz_b32 n = true) (k : qz_J Y G is (pc + 1) ls (qz_i n :: st) h cs sl t) : qz_J Y G ((.iconst n, 1) :: is) pc ls st h cs sl t := by
  obtain ⟨p, l, e, s, m, args, below, meth, c, D, dA, B0, hc, h0⟩ := G
  intro r hr hx lsC stC H locs hca hl hs hW hS
  obtain ⟨h1, h2, h3, h4, h5, h6, h7, h8, h9⟩ := id hx
  refine lv_iconst h1 h2 hca.1 rfl ?_
  exact k r hr hx lsC _ H locs hca.2 hl ⟨_, rfl, qz_b32_ok hn, hs⟩ hW hS
theorem qz_8 {n : Int} (hn : (decide (-128 ≤ n) && decide (n ≤ 127)) = true) : (Int8.ofInt n).toInt32 = Int32.ofInt n ∧ qz_32 n := by
  simp only [Bool.and_eq_true, decide_eq_true_eq] at hn
  have h3 : qz_32 n := ⟨by omega, by omega⟩
  refine ⟨?_, h3⟩
  apply Int32.toInt_inj.mp
  rw [qz_t32 h3, Int8.toInt_toInt32, Int8.toInt_ofInt_of_le (by omega) (by omega)]
theorem qz_16 {n : Int} (hn : (decide (-32768 ≤ n) && decide (n ≤ 32767)) = true) : (Int16.ofInt n).toInt32 = Int32.ofInt n ∧ qz_32 n := by
  simp only [Bool.and_eq_true, decide_eq_true_eq] at hn
  have h3 : qz_32 n := ⟨by omega, by omega⟩
  refine ⟨?_, h3⟩
  apply Int32.toInt_inj.mp
  rw [qz_t32 h3, Int16.toInt_toInt32, Int16.toInt_ofInt_of_le (by omega) (by omega)]

theorem qz_bipush {n : Int} (hn : (decide (-128 ≤ n) && decide (n ≤ 127)) = true) (k : qz_J Y G is (pc + 2) ls (qz_i n :: st) h cs sl t) : qz_J Y G ((.bipush n, 2) :: is) pc ls st h cs sl t := by
  obtain ⟨p, l, e, s, m, args, below, meth, c, D, dA, B0, hc, h0⟩ := G
  intro r hr hx lsC stC H locs hca hl hs hW hS
  obtain ⟨h1, h2, h3, h4, h5, h6, h7, h8, h9⟩ := id hx
  refine lv_bipush h1 h2 hca.1 (qz_8 hn).1 ?_
  exact k r hr hx lsC _ H locs hca.2 hl ⟨_, rfl, (qz_8 hn).2, hs⟩ hW hS
theorem qz_sipush {n : Int} (hn : (decide (-32768 ≤ n) && decide (n ≤ 32767)) = true) (k : qz_J Y G is (pc + 3) ls (qz_i n :: st) h cs sl t) : qz_J Y G ((.sipush n, 3) :: is) pc ls st h cs sl t := by
  obtain ⟨p, l, e, s, m, args, below, meth, c, D, dA, B0, hc, h0⟩ := G
  intro r hr hx lsC stC H locs hca hl hs hW hS
  obtain ⟨h1, h2, h3, h4, h5, h6, h7, h8, h9⟩ := id hx
  refine lv_sipush h1 h2 hca.1 (qz_16 hn).1 ?_
  exact k r hr hx lsC _ H locs hca.2 hl ⟨_, rfl, (qz_16 hn).2, hs⟩ hW hS
theorem qz_lconst {f : Fin 2} {n : Int} (hn : ((f : Nat) : Int) = n) (k : qz_J Y G is (pc + 1) ls (qz_j n :: st) h cs sl t) : qz_J Y G ((.lconst f, 1) :: is) pc ls st h cs sl t := by
  obtain ⟨p, l, e, s, m, args, below, meth, c, D, dA, B0, hc, h0⟩ := G
  intro r hr hx lsC stC H locs hca hl hs hW hS
  obtain ⟨h1, h2, h3, h4, h5, h6, h7, h8, h9⟩ := id hx
  refine lv_lconst h1 h2 hca.1 rfl ?_
  subst hn
  refine k r hr hx lsC _ H locs hca.2 hl ⟨_, ?_, ?_, hs⟩ hW hS
  · show Value.long (Int64.ofNat (f : Nat)) :: stC = Value.long (Int64.ofInt ((f : Nat) : Int)) :: stC
    rw [Int64.ofInt_eq_ofNat]
  · show qz_64 _
    have := f.isLt
    exact ⟨by omega, by omega⟩
theorem qz_ldc {i : Nat} {n : Int} (hw : Cond.constant Y.1.cls i (Int32.ofInt n) ∈ kz_TT) (hn : qz_b32 n = true) (k : qz_J Y G is (pc + 2) ls (qz_i n :: st) h cs sl t) : qz_J Y G ((.ldc i, 2) :: is) pc ls st h cs sl t := by
  obtain ⟨p, l, e, s, m, args, below, meth, c, D, dA, B0, hc, h0⟩ := G
  intro r hr hx lsC stC H locs hca hl hs hW hS
  obtain ⟨h1, h2, h3, h4, h5, h6, h7, h8, h9⟩ := id hx
  refine lv_ldc h1 h2 h7 (h8 _ (List.mem_cons_of_mem _ hw)) hca.1 ?_
  exact k r hr hx lsC _ H locs hca.2 hl ⟨_, rfl, qz_b32_ok hn, hs⟩ hW hS
theorem qz_ldc2 {i : Nat} {n : Int} (hw : Cond.constantLong Y.1.cls i (Int64.ofInt n) ∈ kz_TT) (hn : (decide (-9223372036854775808 ≤ n) && decide (n ≤ 9223372036854775807)) = true) (k : qz_J Y G is (pc + 3) ls (qz_j n :: st) h cs sl t) : qz_J Y G ((.ldc2_w i, 3) :: is) pc ls st h cs sl t := by
  obtain ⟨p, l, e, s, m, args, below, meth, c, D, dA, B0, hc, h0⟩ := G
  intro r hr hx lsC stC H locs hca hl hs hW hS
  obtain ⟨h1, h2, h3, h4, h5, h6, h7, h8, h9⟩ := id hx
  refine lv_ldc2 h1 h2 h7 (h8 _ (List.mem_cons_of_mem _ hw)) hca.1 ?_
  simp only [Bool.and_eq_true, decide_eq_true_eq] at hn
  exact k r hr hx lsC _ H locs hca.2 hl ⟨_, rfl, hn, hs⟩ hW hS
theorem qz_null (k0 : Nat) (k : qz_J Y G is (pc + 1) ls (qz_r false k0 0 :: st) h cs sl t) : qz_J Y G ((.aconst_null, 1) :: is) pc ls st h cs sl t := by
  obtain ⟨p, l, e, s, m, args, below, meth, c, D, dA, B0, hc, h0⟩ := G
  intro r hr hx lsC stC H locs hca hl hs hW hS
  obtain ⟨h1, h2, h3, h4, h5, h6, h7, h8, h9⟩ := id hx
  refine lv_null h1 h2 hca.1 ?_
  exact k r hr hx lsC _ H locs hca.2 hl ⟨_, rfl, Or.inl ⟨rfl, rfl⟩, hs⟩ hW hS
theorem qz_iload_n {q : Fin 4} {x : Int} (hi : ls[(q : Nat)]? = some (qz_i x)) (k : qz_J Y G is (pc + 1) ls (qz_i x :: st) h cs sl t) : qz_J Y G ((.iload_n q, 1) :: is) pc ls st h cs sl t := by
  obtain ⟨p, l, e, s, m, args, below, meth, c, D, dA, B0, hc, h0⟩ := G
  intro r hr hx lsC stC H locs hca hl hs hW hS
  obtain ⟨h1, h2, h3, h4, h5, h6, h7, h8, h9⟩ := id hx
  obtain ⟨g1, g2⟩ := qz_lr_at hl hi (fun q => by cases q)
  refine lv_iload_n h1 h2 hca.1 rfl g2 ?_
  exact k r hr hx lsC _ H locs hca.2 hl ⟨_, rfl, g1, hs⟩ hW hS
theorem qz_iload {i : Nat} {x : Int} (hi : ls[i]? = some (qz_i x)) (k : qz_J Y G is (pc + 2) ls (qz_i x :: st) h cs sl t) : qz_J Y G ((.iload i, 2) :: is) pc ls st h cs sl t := by
  obtain ⟨p, l, e, s, m, args, below, meth, c, D, dA, B0, hc, h0⟩ := G
  intro r hr hx lsC stC H locs hca hl hs hW hS
  obtain ⟨h1, h2, h3, h4, h5, h6, h7, h8, h9⟩ := id hx
  obtain ⟨g1, g2⟩ := qz_lr_at hl hi (fun q => by cases q)
  refine lv_iload h1 h2 hca.1 g2 ?_
  exact k r hr hx lsC _ H locs hca.2 hl ⟨_, rfl, g1, hs⟩ hW hS
theorem qz_lload_n {q : Fin 4} {x : Int} (hi : ls[(q : Nat)]? = some (qz_j x)) (k : qz_J Y G is (pc + 1) ls (qz_j x :: st) h cs sl t) : qz_J Y G ((.lload_n q, 1) :: is) pc ls st h cs sl t := by
  obtain ⟨p, l, e, s, m, args, below, meth, c, D, dA, B0, hc, h0⟩ := G
  intro r hr hx lsC stC H locs hca hl hs hW hS
  obtain ⟨h1, h2, h3, h4, h5, h6, h7, h8, h9⟩ := id hx
  obtain ⟨g1, g2⟩ := qz_lr_at hl hi (fun q => by cases q)
  refine lv_lload_n h1 h2 hca.1 rfl g2 ?_
  exact k r hr hx lsC _ H locs hca.2 hl ⟨_, rfl, g1, hs⟩ hW hS
theorem qz_lload {i : Nat} {x : Int} (hi : ls[i]? = some (qz_j x)) (k : qz_J Y G is (pc + 2) ls (qz_j x :: st) h cs sl t) : qz_J Y G ((.lload i, 2) :: is) pc ls st h cs sl t := by
  obtain ⟨p, l, e, s, m, args, below, meth, c, D, dA, B0, hc, h0⟩ := G
  intro r hr hx lsC stC H locs hca hl hs hW hS
  obtain ⟨h1, h2, h3, h4, h5, h6, h7, h8, h9⟩ := id hx
  obtain ⟨g1, g2⟩ := qz_lr_at hl hi (fun q => by cases q)
  refine lv_lload h1 h2 hca.1 g2 ?_
  exact k r hr hx lsC _ H locs hca.2 hl ⟨_, rfl, g1, hs⟩ hW hS
theorem qz_aload_n {q : Fin 4} {b : Bool} {k0 : Nat} {x : Int} (hi : ls[(q : Nat)]? = some (qz_r b k0 x)) (k : qz_J Y G is (pc + 1) ls (qz_r b k0 x :: st) h cs sl t) : qz_J Y G ((.aload_n q, 1) :: is) pc ls st h cs sl t := by
  obtain ⟨p, l, e, s, m, args, below, meth, c, D, dA, B0, hc, h0⟩ := G
  intro r hr hx lsC stC H locs hca hl hs hW hS
  obtain ⟨h1, h2, h3, h4, h5, h6, h7, h8, h9⟩ := id hx
  obtain ⟨g1, g2⟩ := qz_lr_at hl hi (fun q => by cases q)
  have g3 : lsC[(q : Nat)]? = some (.val (va_rf (qz_rf h x))) := g2
  have kk := k r hr hx lsC _ H locs hca.2 hl ⟨_, rfl, g1, hs⟩ hW hS
  have kk : W p l e Y.2.2.2.2.2 s m args below meth c H locs cs sl _ (F0 m (pc + 1) lsC (va_rf (qz_rf h x) :: stC)) := kk
  cases hq : qz_rf h x with
  | none => rw [hq] at g3 kk; exact lv_aload_nN h1 h2 hca.1 rfl g3 kk
  | some a => rw [hq] at g3 kk; exact lv_aload_n h1 h2 hca.1 rfl g3 kk
theorem qz_aload {i : Nat} {b : Bool} {k0 : Nat} {x : Int} (hi : ls[i]? = some (qz_r b k0 x)) (k : qz_J Y G is (pc + 2) ls (qz_r b k0 x :: st) h cs sl t) : qz_J Y G ((.aload i, 2) :: is) pc ls st h cs sl t := by
  obtain ⟨p, l, e, s, m, args, below, meth, c, D, dA, B0, hc, h0⟩ := G
  intro r hr hx lsC stC H locs hca hl hs hW hS
  obtain ⟨h1, h2, h3, h4, h5, h6, h7, h8, h9⟩ := id hx
  obtain ⟨g1, g2⟩ := qz_lr_at hl hi (fun q => by cases q)
  have g3 : lsC[i]? = some (.val (va_rf (qz_rf h x))) := g2
  have kk := k r hr hx lsC _ H locs hca.2 hl ⟨_, rfl, g1, hs⟩ hW hS
  have kk : W p l e Y.2.2.2.2.2 s m args below meth c H locs cs sl _ (F0 m (pc + 2) lsC (va_rf (qz_rf h x) :: stC)) := kk
  cases hq : qz_rf h x with
  | none => rw [hq] at g3 kk; exact lv_aloadN h1 h2 hca.1 g3 kk
  | some a => rw [hq] at g3 kk; exact lv_aload h1 h2 hca.1 g3 kk
theorem qz_istore_n {q : Fin 4} {a : Int} {f : Int → Option qz_R} (hn : (q : Nat) < Y.2.2.1) (k : ∀ x, qz_J Y G is (pc + 1) (qz_st (q : Nat) (qz_i x) ls) st h cs sl (f x)) : qz_J Y G ((.istore_n q, 1) :: is) pc ls (qz_i a :: st) h cs sl (qz_bn a f) := by
  obtain ⟨p, l, e, s, m, args, below, meth, c, D, dA, B0, hc, h0⟩ := G
  intro r hr hx lsC stC H locs hca hl hs hW hS
  obtain ⟨h1, h2, h3, h4, h5, h6, h7, h8, h9⟩ := id hx
  obtain ⟨r1, rfl, ha, hs⟩ := hs
  obtain ⟨lv, g1, g2⟩ := hl
  refine lv_istore_n h1 h2 hca.1 rfl g1 hn rfl fun ls' g3 => ?_
  exact k a r hr hx ls' _ H locs hca.2 (qz_lr_st1 (v := qz_i a) (a := lsC) g2 ha rfl g3) hs hW hS
theorem qz_istore {i : Nat} {a : Int} {f : Int → Option qz_R} (hn : i < Y.2.2.1) (k : ∀ x, qz_J Y G is (pc + 2) (qz_st i (qz_i x) ls) st h cs sl (f x)) : qz_J Y G ((.istore i, 2) :: is) pc ls (qz_i a :: st) h cs sl (qz_bn a f) := by
  obtain ⟨p, l, e, s, m, args, below, meth, c, D, dA, B0, hc, h0⟩ := G
  intro r hr hx lsC stC H locs hca hl hs hW hS
  obtain ⟨h1, h2, h3, h4, h5, h6, h7, h8, h9⟩ := id hx
  obtain ⟨r1, rfl, ha, hs⟩ := hs
  obtain ⟨lv, g1, g2⟩ := hl
  refine lv_istore h1 h2 hca.1 g1 hn rfl fun ls' g3 => ?_
  exact k a r hr hx ls' _ H locs hca.2 (qz_lr_st1 (v := qz_i a) (a := lsC) g2 ha rfl g3) hs hW hS
theorem qz_lstore_n {q : Fin 4} {a : Int} {f : Int → Option qz_R} (hn : (q : Nat) + 1 < Y.2.2.1) (k : ∀ x, qz_J Y G is (pc + 1) (qz_st (q : Nat) (qz_j x) ls) st h cs sl (f x)) : qz_J Y G ((.lstore_n q, 1) :: is) pc ls (qz_j a :: st) h cs sl (qz_bn a f) := by
  obtain ⟨p, l, e, s, m, args, below, meth, c, D, dA, B0, hc, h0⟩ := G
  intro r hr hx lsC stC H locs hca hl hs hW hS
  obtain ⟨h1, h2, h3, h4, h5, h6, h7, h8, h9⟩ := id hx
  obtain ⟨r1, rfl, ha, hs⟩ := hs
  obtain ⟨lv, g1, g2⟩ := hl
  refine lv_lstore_n h1 h2 hca.1 rfl g1 hn rfl fun ls' g3 => ?_
  exact k a r hr hx ls' _ H locs hca.2 (qz_lr_st2 (v := qz_j a) (a := lsC) g2 ha rfl g3) hs hW hS
theorem qz_lstore {i : Nat} {a : Int} {f : Int → Option qz_R} (hn : i + 1 < Y.2.2.1) (k : ∀ x, qz_J Y G is (pc + 2) (qz_st i (qz_j x) ls) st h cs sl (f x)) : qz_J Y G ((.lstore i, 2) :: is) pc ls (qz_j a :: st) h cs sl (qz_bn a f) := by
  obtain ⟨p, l, e, s, m, args, below, meth, c, D, dA, B0, hc, h0⟩ := G
  intro r hr hx lsC stC H locs hca hl hs hW hS
  obtain ⟨h1, h2, h3, h4, h5, h6, h7, h8, h9⟩ := id hx
  obtain ⟨r1, rfl, ha, hs⟩ := hs
  obtain ⟨lv, g1, g2⟩ := hl
  refine lv_lstore h1 h2 hca.1 g1 hn rfl fun ls' g3 => ?_
  exact k a r hr hx ls' _ H locs hca.2 (qz_lr_st2 (v := qz_j a) (a := lsC) g2 ha rfl g3) hs hW hS
theorem qz_astore_n {q : Fin 4} {b : Bool} {k0 : Nat} {a : Int} {f : Int → Option qz_R} (hn : (q : Nat) < Y.2.2.1) (k : ∀ x, qz_J Y G is (pc + 1) (qz_st (q : Nat) (qz_r b k0 x) ls) st h cs sl (f x)) : qz_J Y G ((.astore_n q, 1) :: is) pc ls (qz_r b k0 a :: st) h cs sl (qz_bn a f) := by
  obtain ⟨p, l, e, s, m, args, below, meth, c, D, dA, B0, hc, h0⟩ := G
  intro r hr hx lsC stC H locs hca hl hs hW hS
  obtain ⟨h1, h2, h3, h4, h5, h6, h7, h8, h9⟩ := id hx
  obtain ⟨r1, rfl, ha, hs⟩ := hs
  obtain ⟨lv, g1, g2⟩ := hl
  have fin := fun ls' g3 => k a r hr hx ls' _ H locs hca.2 (qz_lr_st1 (v := qz_r b k0 a) (a := lsC) g2 ha rfl g3) hs hW hS
  have e9 : qz_cv h (qz_r b k0 a) = va_rf (qz_rf h a) := rfl
  rw [e9] at fin
  show W p l e Y.2.2.2.2.2 s m args below meth c H locs cs sl _ (F0 m pc lsC (va_rf (qz_rf h a) :: r1))
  cases hq : qz_rf h a with
  | none => rw [hq] at fin; exact lv_astore_nN h1 h2 hca.1 rfl g1 hn rfl fin
  | some a => rw [hq] at fin; exact lv_astore_n h1 h2 hca.1 rfl g1 hn rfl fin
theorem qz_astore {i : Nat} {b : Bool} {k0 : Nat} {a : Int} {f : Int → Option qz_R} (hn : i < Y.2.2.1) (k : ∀ x, qz_J Y G is (pc + 2) (qz_st i (qz_r b k0 x) ls) st h cs sl (f x)) : qz_J Y G ((.astore i, 2) :: is) pc ls (qz_r b k0 a :: st) h cs sl (qz_bn a f) := by
  obtain ⟨p, l, e, s, m, args, below, meth, c, D, dA, B0, hc, h0⟩ := G
  intro r hr hx lsC stC H locs hca hl hs hW hS
  obtain ⟨h1, h2, h3, h4, h5, h6, h7, h8, h9⟩ := id hx
  obtain ⟨r1, rfl, ha, hs⟩ := hs
  obtain ⟨lv, g1, g2⟩ := hl
  have fin := fun ls' g3 => k a r hr hx ls' _ H locs hca.2 (qz_lr_st1 (v := qz_r b k0 a) (a := lsC) g2 ha rfl g3) hs hW hS
  have e9 : qz_cv h (qz_r b k0 a) = va_rf (qz_rf h a) := rfl
  rw [e9] at fin
  show W p l e Y.2.2.2.2.2 s m args below meth c H locs cs sl _ (F0 m pc lsC (va_rf (qz_rf h a) :: r1))
  cases hq : qz_rf h a with
  | none => rw [hq] at fin; exact lv_astoreN h1 h2 hca.1 g1 hn rfl fin
  | some a => rw [hq] at fin; exact lv_astore h1 h2 hca.1 g1 hn rfl fin
theorem qz_iinc {i : Nat} {n x : Int} {f : Int → Option qz_R} (hi : ls[i]? = some (qz_i x)) (hn : i < Y.2.2.1) (k : ∀ y, qz_J Y G is (pc + 3) (qz_st i (qz_i y) ls) st h cs sl (f y)) : qz_J Y G ((.iinc i n, 3) :: is) pc ls st h cs sl (qz_bn (qz_w (x + n)) f) := by
  obtain ⟨p, l, e, s, m, args, below, meth, c, D, dA, B0, hc, h0⟩ := G
  intro r hr hx lsC stC H locs hca hl hs hW hS
  obtain ⟨h1, h2, h3, h4, h5, h6, h7, h8, h9⟩ := id hx
  obtain ⟨lv, g1, g2⟩ := id hl
  have g5 : (i, Value.int (Int32.ofInt x)) ∈ lv := by
    rcases g2 i _ hi with z | z
    · cases z
    · exact z.2
  obtain ⟨kk, hkk⟩ := List.getElem?_of_mem g5
  refine lv_iinc h1 h2 hca.1 g1 hkk (v := Int32.ofInt (qz_w (x + n))) (by simp only [qz_w, Int32.ofInt_toInt, Int32.ofInt_add]) hn rfl fun ls' g3 => ?_
  exact k (qz_w (x + n)) r hr hx ls' _ H locs hca.2 (qz_lr_st1 (v := qz_i (qz_w (x + n))) (a := lsC) g2 (qz_r32 _) rfl g3) hs hW hS
def qz_and (x y : Int) : Int := (Int32.ofInt x &&& Int32.ofInt y).toInt
def qz_or (x y : Int) : Int := (Int32.ofInt x ||| Int32.ofInt y).toInt
def qz_shr (x y : Int) : Int := (Int32.ofInt x >>> (Int32.ofInt y &&& 31)).toInt
def qz_andJ (x y : Int) : Int := (Int64.ofInt x &&& Int64.ofInt y).toInt
def qz_orJ (x y : Int) : Int := (Int64.ofInt x ||| Int64.ofInt y).toInt
def qz_shlJ (x y : Int) : Int := (Int64.ofInt x <<< ((Int32.ofInt y).toInt64 &&& 63)).toInt
def qz_shrJ (x y : Int) : Int := (Int64.ofInt x >>> ((Int32.ofInt y).toInt64 &&& 63)).toInt
def qz_ushJ (x y : Int) : Int := ((Int64.ofInt x).toUInt64 >>> ((Int32.ofInt y).toInt64.toUInt64 &&& Int64.toUInt64 63)).toInt64.toInt
def qz_divJ (x y : Int) : Int := (Int64.ofInt x / Int64.ofInt y).toInt
def qz_remJ (x y : Int) : Int := (Int64.ofInt x - Int64.ofInt x / Int64.ofInt y * Int64.ofInt y).toInt
def qz_cmp (x y : Int) : Int := if y < x then 1 else if x = y then 0 else -1
def qz_i2c (x : Int) : Int := ((Int32.ofInt x).toUInt32 % 65536).toInt32.toInt
def qz_i2b (x : Int) : Int := (Int32.ofInt x).toInt8.toInt32.toInt

theorem qz_iadd {x y : Int} (k : qz_J Y G is (pc + 1) ls (qz_i (qz_w (x + y)) :: st) h cs sl t) : qz_J Y G ((.iadd, 1) :: is) pc ls (qz_i y :: qz_i x :: st) h cs sl t := by
  obtain ⟨p, l, e, s, m, args, below, meth, c, D, dA, B0, hc, h0⟩ := G
  intro r hr hx lsC stC H locs hca hl hs hW hS
  obtain ⟨h1, h2, h3, h4, h5, h6, h7, h8, h9⟩ := id hx
  obtain ⟨r1, rfl, hy, r2, rfl, hx', hs⟩ := hs
  refine lv_iadd h1 h2 hca.1 ?_
  exact k r hr hx lsC _ H locs hca.2 hl ⟨r2, by simp only [qz_cv, qz_i, qz_j, qz_w, Int32.ofInt_toInt, Int64.ofInt_toInt, Int32.ofInt_add, Int32.ofInt_sub, Int32.ofInt_mul, Int64.ofInt_add, Int64.ofInt_sub, Int64.ofInt_mul, Int64.ofInt_neg], qz_r32 _, hs⟩ hW hS
theorem qz_isub {x y : Int} (k : qz_J Y G is (pc + 1) ls (qz_i (qz_w (x - y)) :: st) h cs sl t) : qz_J Y G ((.isub, 1) :: is) pc ls (qz_i y :: qz_i x :: st) h cs sl t := by
  obtain ⟨p, l, e, s, m, args, below, meth, c, D, dA, B0, hc, h0⟩ := G
  intro r hr hx lsC stC H locs hca hl hs hW hS
  obtain ⟨h1, h2, h3, h4, h5, h6, h7, h8, h9⟩ := id hx
  obtain ⟨r1, rfl, hy, r2, rfl, hx', hs⟩ := hs
  refine lv_isub h1 h2 hca.1 ?_
  exact k r hr hx lsC _ H locs hca.2 hl ⟨r2, by simp only [qz_cv, qz_i, qz_j, qz_w, Int32.ofInt_toInt, Int64.ofInt_toInt, Int32.ofInt_add, Int32.ofInt_sub, Int32.ofInt_mul, Int64.ofInt_add, Int64.ofInt_sub, Int64.ofInt_mul, Int64.ofInt_neg], qz_r32 _, hs⟩ hW hS
theorem qz_imul {x y : Int} (k : qz_J Y G is (pc + 1) ls (qz_i (qz_w (x * y)) :: st) h cs sl t) : qz_J Y G ((.imul, 1) :: is) pc ls (qz_i y :: qz_i x :: st) h cs sl t := by
  obtain ⟨p, l, e, s, m, args, below, meth, c, D, dA, B0, hc, h0⟩ := G
  intro r hr hx lsC stC H locs hca hl hs hW hS
  obtain ⟨h1, h2, h3, h4, h5, h6, h7, h8, h9⟩ := id hx
  obtain ⟨r1, rfl, hy, r2, rfl, hx', hs⟩ := hs
  refine lv_imul h1 h2 hca.1 ?_
  exact k r hr hx lsC _ H locs hca.2 hl ⟨r2, by simp only [qz_cv, qz_i, qz_j, qz_w, Int32.ofInt_toInt, Int64.ofInt_toInt, Int32.ofInt_add, Int32.ofInt_sub, Int32.ofInt_mul, Int64.ofInt_add, Int64.ofInt_sub, Int64.ofInt_mul, Int64.ofInt_neg], qz_r32 _, hs⟩ hW hS
theorem qz_iand {x y : Int} (k : qz_J Y G is (pc + 1) ls (qz_i (qz_and x y) :: st) h cs sl t) : qz_J Y G ((.iand, 1) :: is) pc ls (qz_i y :: qz_i x :: st) h cs sl t := by
  obtain ⟨p, l, e, s, m, args, below, meth, c, D, dA, B0, hc, h0⟩ := G
  intro r hr hx lsC stC H locs hca hl hs hW hS
  obtain ⟨h1, h2, h3, h4, h5, h6, h7, h8, h9⟩ := id hx
  obtain ⟨r1, rfl, hy, r2, rfl, hx', hs⟩ := hs
  refine lv_iand h1 h2 hca.1 ?_
  exact k r hr hx lsC _ H locs hca.2 hl ⟨r2, by simp only [qz_cv, qz_i, qz_j, qz_and, Int32.ofInt_toInt, Int64.ofInt_toInt, Int32.ofInt_add, Int32.ofInt_sub, Int32.ofInt_mul, Int64.ofInt_add, Int64.ofInt_sub, Int64.ofInt_mul, Int64.ofInt_neg], qz_r32 _, hs⟩ hW hS
theorem qz_ior {x y : Int} (k : qz_J Y G is (pc + 1) ls (qz_i (qz_or x y) :: st) h cs sl t) : qz_J Y G ((.ior, 1) :: is) pc ls (qz_i y :: qz_i x :: st) h cs sl t := by
  obtain ⟨p, l, e, s, m, args, below, meth, c, D, dA, B0, hc, h0⟩ := G
  intro r hr hx lsC stC H locs hca hl hs hW hS
  obtain ⟨h1, h2, h3, h4, h5, h6, h7, h8, h9⟩ := id hx
  obtain ⟨r1, rfl, hy, r2, rfl, hx', hs⟩ := hs
  refine lv_ior h1 h2 hca.1 ?_
  exact k r hr hx lsC _ H locs hca.2 hl ⟨r2, by simp only [qz_cv, qz_i, qz_j, qz_or, Int32.ofInt_toInt, Int64.ofInt_toInt, Int32.ofInt_add, Int32.ofInt_sub, Int32.ofInt_mul, Int64.ofInt_add, Int64.ofInt_sub, Int64.ofInt_mul, Int64.ofInt_neg], qz_r32 _, hs⟩ hW hS
theorem qz_ishr {x y : Int} (k : qz_J Y G is (pc + 1) ls (qz_i (qz_shr x y) :: st) h cs sl t) : qz_J Y G ((.ishr, 1) :: is) pc ls (qz_i y :: qz_i x :: st) h cs sl t := by
  obtain ⟨p, l, e, s, m, args, below, meth, c, D, dA, B0, hc, h0⟩ := G
  intro r hr hx lsC stC H locs hca hl hs hW hS
  obtain ⟨h1, h2, h3, h4, h5, h6, h7, h8, h9⟩ := id hx
  obtain ⟨r1, rfl, hy, r2, rfl, hx', hs⟩ := hs
  refine lv_ishr h1 h2 hca.1 ?_
  exact k r hr hx lsC _ H locs hca.2 hl ⟨r2, by simp only [qz_cv, qz_i, qz_j, qz_shr, Int32.ofInt_toInt, Int64.ofInt_toInt, Int32.ofInt_add, Int32.ofInt_sub, Int32.ofInt_mul, Int64.ofInt_add, Int64.ofInt_sub, Int64.ofInt_mul, Int64.ofInt_neg], qz_r32 _, hs⟩ hW hS
theorem qz_ladd {x y : Int} (k : qz_J Y G is (pc + 1) ls (qz_j (qz_x (x + y)) :: st) h cs sl t) : qz_J Y G ((.ladd, 1) :: is) pc ls (qz_j y :: qz_j x :: st) h cs sl t := by
  obtain ⟨p, l, e, s, m, args, below, meth, c, D, dA, B0, hc, h0⟩ := G
  intro r hr hx lsC stC H locs hca hl hs hW hS
  obtain ⟨h1, h2, h3, h4, h5, h6, h7, h8, h9⟩ := id hx
  obtain ⟨r1, rfl, hy, r2, rfl, hx', hs⟩ := hs
  refine lv_ladd h1 h2 hca.1 ?_
  exact k r hr hx lsC _ H locs hca.2 hl ⟨r2, by simp only [qz_cv, qz_i, qz_j, qz_x, Int32.ofInt_toInt, Int64.ofInt_toInt, Int32.ofInt_add, Int32.ofInt_sub, Int32.ofInt_mul, Int64.ofInt_add, Int64.ofInt_sub, Int64.ofInt_mul, Int64.ofInt_neg], qz_r64 _, hs⟩ hW hS
theorem qz_lsub {x y : Int} (k : qz_J Y G is (pc + 1) ls (qz_j (qz_x (x - y)) :: st) h cs sl t) : qz_J Y G ((.lsub, 1) :: is) pc ls (qz_j y :: qz_j x :: st) h cs sl t := by
  obtain ⟨p, l, e, s, m, args, below, meth, c, D, dA, B0, hc, h0⟩ := G
  intro r hr hx lsC stC H locs hca hl hs hW hS
  obtain ⟨h1, h2, h3, h4, h5, h6, h7, h8, h9⟩ := id hx
  obtain ⟨r1, rfl, hy, r2, rfl, hx', hs⟩ := hs
  refine lv_lsub h1 h2 hca.1 ?_
  exact k r hr hx lsC _ H locs hca.2 hl ⟨r2, by simp only [qz_cv, qz_i, qz_j, qz_x, Int32.ofInt_toInt, Int64.ofInt_toInt, Int32.ofInt_add, Int32.ofInt_sub, Int32.ofInt_mul, Int64.ofInt_add, Int64.ofInt_sub, Int64.ofInt_mul, Int64.ofInt_neg], qz_r64 _, hs⟩ hW hS
theorem qz_lmul {x y : Int} (k : qz_J Y G is (pc + 1) ls (qz_j (qz_x (x * y)) :: st) h cs sl t) : qz_J Y G ((.lmul, 1) :: is) pc ls (qz_j y :: qz_j x :: st) h cs sl t := by
  obtain ⟨p, l, e, s, m, args, below, meth, c, D, dA, B0, hc, h0⟩ := G
  intro r hr hx lsC stC H locs hca hl hs hW hS
  obtain ⟨h1, h2, h3, h4, h5, h6, h7, h8, h9⟩ := id hx
  obtain ⟨r1, rfl, hy, r2, rfl, hx', hs⟩ := hs
  refine lv_lmul h1 h2 hca.1 ?_
  exact k r hr hx lsC _ H locs hca.2 hl ⟨r2, by simp only [qz_cv, qz_i, qz_j, qz_x, Int32.ofInt_toInt, Int64.ofInt_toInt, Int32.ofInt_add, Int32.ofInt_sub, Int32.ofInt_mul, Int64.ofInt_add, Int64.ofInt_sub, Int64.ofInt_mul, Int64.ofInt_neg], qz_r64 _, hs⟩ hW hS
theorem qz_land {x y : Int} (k : qz_J Y G is (pc + 1) ls (qz_j (qz_andJ x y) :: st) h cs sl t) : qz_J Y G ((.land, 1) :: is) pc ls (qz_j y :: qz_j x :: st) h cs sl t := by
  obtain ⟨p, l, e, s, m, args, below, meth, c, D, dA, B0, hc, h0⟩ := G
  intro r hr hx lsC stC H locs hca hl hs hW hS
  obtain ⟨h1, h2, h3, h4, h5, h6, h7, h8, h9⟩ := id hx
  obtain ⟨r1, rfl, hy, r2, rfl, hx', hs⟩ := hs
  refine lv_land h1 h2 hca.1 ?_
  exact k r hr hx lsC _ H locs hca.2 hl ⟨r2, by simp only [qz_cv, qz_i, qz_j, qz_andJ, Int32.ofInt_toInt, Int64.ofInt_toInt, Int32.ofInt_add, Int32.ofInt_sub, Int32.ofInt_mul, Int64.ofInt_add, Int64.ofInt_sub, Int64.ofInt_mul, Int64.ofInt_neg], qz_r64 _, hs⟩ hW hS
theorem qz_lor {x y : Int} (k : qz_J Y G is (pc + 1) ls (qz_j (qz_orJ x y) :: st) h cs sl t) : qz_J Y G ((.lor, 1) :: is) pc ls (qz_j y :: qz_j x :: st) h cs sl t := by
  obtain ⟨p, l, e, s, m, args, below, meth, c, D, dA, B0, hc, h0⟩ := G
  intro r hr hx lsC stC H locs hca hl hs hW hS
  obtain ⟨h1, h2, h3, h4, h5, h6, h7, h8, h9⟩ := id hx
  obtain ⟨r1, rfl, hy, r2, rfl, hx', hs⟩ := hs
  refine lv_lor h1 h2 hca.1 ?_
  exact k r hr hx lsC _ H locs hca.2 hl ⟨r2, by simp only [qz_cv, qz_i, qz_j, qz_orJ, Int32.ofInt_toInt, Int64.ofInt_toInt, Int32.ofInt_add, Int32.ofInt_sub, Int32.ofInt_mul, Int64.ofInt_add, Int64.ofInt_sub, Int64.ofInt_mul, Int64.ofInt_neg], qz_r64 _, hs⟩ hW hS
theorem qz_ldiv {x y : Int} (k : qz_J Y G is (pc + 1) ls (qz_j (qz_divJ x y) :: st) h cs sl t) : qz_J Y G ((.ldiv, 1) :: is) pc ls (qz_j y :: qz_j x :: st) h cs sl (qz_ck (y ≠ 0) t) := by
  obtain ⟨p, l, e, s, m, args, below, meth, c, D, dA, B0, hc, h0⟩ := G
  intro r hr hx lsC stC H locs hca hl hs hW hS
  obtain ⟨h1, h2, h3, h4, h5, h6, h7, h8, h9⟩ := id hx
  obtain ⟨r1, rfl, hy, r2, rfl, hx', hs⟩ := hs
  obtain ⟨g1, g2⟩ := qz_ck_some hr
  refine lv_ldiv h1 h2 hca.1 (fun q => g1 (by have q2 := congrArg Int64.toInt q; rw [qz_t64 hy] at q2; exact q2)) ?_
  exact k r g2 hx lsC _ H locs hca.2 hl ⟨r2, by simp only [qz_cv, qz_j, qz_divJ, Int32.ofInt_toInt, Int64.ofInt_toInt, Int32.ofInt_add, Int32.ofInt_sub, Int32.ofInt_mul, Int64.ofInt_add, Int64.ofInt_sub, Int64.ofInt_mul, Int64.ofInt_neg], qz_r64 _, hs⟩ hW hS
theorem qz_lrem {x y : Int} (k : qz_J Y G is (pc + 1) ls (qz_j (qz_remJ x y) :: st) h cs sl t) : qz_J Y G ((.lrem, 1) :: is) pc ls (qz_j y :: qz_j x :: st) h cs sl (qz_ck (y ≠ 0) t) := by
  obtain ⟨p, l, e, s, m, args, below, meth, c, D, dA, B0, hc, h0⟩ := G
  intro r hr hx lsC stC H locs hca hl hs hW hS
  obtain ⟨h1, h2, h3, h4, h5, h6, h7, h8, h9⟩ := id hx
  obtain ⟨r1, rfl, hy, r2, rfl, hx', hs⟩ := hs
  obtain ⟨g1, g2⟩ := qz_ck_some hr
  refine lv_lrem h1 h2 hca.1 (fun q => g1 (by have q2 := congrArg Int64.toInt q; rw [qz_t64 hy] at q2; exact q2)) ?_
  exact k r g2 hx lsC _ H locs hca.2 hl ⟨r2, by simp only [qz_cv, qz_j, qz_remJ, Int32.ofInt_toInt, Int64.ofInt_toInt, Int32.ofInt_add, Int32.ofInt_sub, Int32.ofInt_mul, Int64.ofInt_add, Int64.ofInt_sub, Int64.ofInt_mul, Int64.ofInt_neg], qz_r64 _, hs⟩ hW hS
theorem qz_lshl {x y : Int} (k : qz_J Y G is (pc + 1) ls (qz_j (qz_shlJ x y) :: st) h cs sl t) : qz_J Y G ((.lshl, 1) :: is) pc ls (qz_i y :: qz_j x :: st) h cs sl t := by
  obtain ⟨p, l, e, s, m, args, below, meth, c, D, dA, B0, hc, h0⟩ := G
  intro r hr hx lsC stC H locs hca hl hs hW hS
  obtain ⟨h1, h2, h3, h4, h5, h6, h7, h8, h9⟩ := id hx
  obtain ⟨r1, rfl, hy, r2, rfl, hx', hs⟩ := hs
  refine lv_lshl h1 h2 hca.1 rfl ?_
  exact k r hr hx lsC _ H locs hca.2 hl ⟨r2, by simp only [qz_cv, qz_j, qz_shlJ, Int32.ofInt_toInt, Int64.ofInt_toInt, Int32.ofInt_add, Int32.ofInt_sub, Int32.ofInt_mul, Int64.ofInt_add, Int64.ofInt_sub, Int64.ofInt_mul, Int64.ofInt_neg], qz_r64 _, hs⟩ hW hS
theorem qz_lshr {x y : Int} (k : qz_J Y G is (pc + 1) ls (qz_j (qz_shrJ x y) :: st) h cs sl t) : qz_J Y G ((.lshr, 1) :: is) pc ls (qz_i y :: qz_j x :: st) h cs sl t := by
  obtain ⟨p, l, e, s, m, args, below, meth, c, D, dA, B0, hc, h0⟩ := G
  intro r hr hx lsC stC H locs hca hl hs hW hS
  obtain ⟨h1, h2, h3, h4, h5, h6, h7, h8, h9⟩ := id hx
  obtain ⟨r1, rfl, hy, r2, rfl, hx', hs⟩ := hs
  refine lv_lshr h1 h2 hca.1 rfl ?_
  exact k r hr hx lsC _ H locs hca.2 hl ⟨r2, by simp only [qz_cv, qz_j, qz_shrJ, Int32.ofInt_toInt, Int64.ofInt_toInt, Int32.ofInt_add, Int32.ofInt_sub, Int32.ofInt_mul, Int64.ofInt_add, Int64.ofInt_sub, Int64.ofInt_mul, Int64.ofInt_neg], qz_r64 _, hs⟩ hW hS
theorem qz_lushr {x y : Int} (k : qz_J Y G is (pc + 1) ls (qz_j (qz_ushJ x y) :: st) h cs sl t) : qz_J Y G ((.lushr, 1) :: is) pc ls (qz_i y :: qz_j x :: st) h cs sl t := by
  obtain ⟨p, l, e, s, m, args, below, meth, c, D, dA, B0, hc, h0⟩ := G
  intro r hr hx lsC stC H locs hca hl hs hW hS
  obtain ⟨h1, h2, h3, h4, h5, h6, h7, h8, h9⟩ := id hx
  obtain ⟨r1, rfl, hy, r2, rfl, hx', hs⟩ := hs
  refine lv_lushr h1 h2 hca.1 rfl ?_
  exact k r hr hx lsC _ H locs hca.2 hl ⟨r2, by simp only [qz_cv, qz_j, qz_ushJ, Int32.ofInt_toInt, Int64.ofInt_toInt, Int32.ofInt_add, Int32.ofInt_sub, Int32.ofInt_mul, Int64.ofInt_add, Int64.ofInt_sub, Int64.ofInt_mul, Int64.ofInt_neg], qz_r64 _, hs⟩ hW hS
theorem qz_lneg {x : Int} (k : qz_J Y G is (pc + 1) ls (qz_j (qz_x (-x)) :: st) h cs sl t) : qz_J Y G ((.lneg, 1) :: is) pc ls (qz_j x :: st) h cs sl t := by
  obtain ⟨p, l, e, s, m, args, below, meth, c, D, dA, B0, hc, h0⟩ := G
  intro r hr hx lsC stC H locs hca hl hs hW hS
  obtain ⟨h1, h2, h3, h4, h5, h6, h7, h8, h9⟩ := id hx
  obtain ⟨r2, rfl, hx', hs⟩ := hs
  refine lv_lneg h1 h2 hca.1 ?_
  exact k r hr hx lsC _ H locs hca.2 hl ⟨r2, by simp only [qz_cv, qz_j, qz_x, Int32.ofInt_toInt, Int64.ofInt_toInt, Int32.ofInt_add, Int32.ofInt_sub, Int32.ofInt_mul, Int64.ofInt_add, Int64.ofInt_sub, Int64.ofInt_mul, Int64.ofInt_neg], qz_r64 _, hs⟩ hW hS
theorem qz_i2l {x : Int} (k : qz_J Y G is (pc + 1) ls (qz_j x :: st) h cs sl t) : qz_J Y G ((.i2l, 1) :: is) pc ls (qz_i x :: st) h cs sl t := by
  obtain ⟨p, l, e, s, m, args, below, meth, c, D, dA, B0, hc, h0⟩ := G
  intro r hr hx lsC stC H locs hca hl hs hW hS
  obtain ⟨h1, h2, h3, h4, h5, h6, h7, h8, h9⟩ := id hx
  obtain ⟨r2, rfl, hx', hs⟩ := hs
  have hx2 : qz_32 x := hx'
  have h64 : qz_64 x := ⟨by have := hx2.1; omega, by have := hx2.2; omega⟩
  refine lv_i2l h1 h2 hca.1 (v := Int64.ofInt x) (Int64.toInt_inj.mp (by rw [Int32.toInt_toInt64, qz_t32 hx2, qz_t64 h64])) ?_
  exact k r hr hx lsC _ H locs hca.2 hl ⟨r2, rfl, h64, hs⟩ hW hS
theorem qz_l2i {x : Int} (k : qz_J Y G is (pc + 1) ls (qz_i (qz_w x) :: st) h cs sl t) : qz_J Y G ((.l2i, 1) :: is) pc ls (qz_j x :: st) h cs sl t := by
  obtain ⟨p, l, e, s, m, args, below, meth, c, D, dA, B0, hc, h0⟩ := G
  intro r hr hx lsC stC H locs hca hl hs hW hS
  obtain ⟨h1, h2, h3, h4, h5, h6, h7, h8, h9⟩ := id hx
  obtain ⟨r2, rfl, hx', hs⟩ := hs
  refine lv_l2i h1 h2 hca.1 (v := Int32.ofInt x) (Int32.toInt_inj.mp (by rw [Int64.toInt_toInt32, qz_t64 hx', Int32.toInt_ofInt])) ?_
  exact k r hr hx lsC _ H locs hca.2 hl ⟨r2, by simp only [qz_cv, qz_i, qz_w, Int32.ofInt_toInt, Int64.ofInt_toInt, Int32.ofInt_add, Int32.ofInt_sub, Int32.ofInt_mul, Int64.ofInt_add, Int64.ofInt_sub, Int64.ofInt_mul, Int64.ofInt_neg], qz_r32 _, hs⟩ hW hS
theorem qz_ins_i2c {x : Int} (k : qz_J Y G is (pc + 1) ls (qz_i (qz_i2c x) :: st) h cs sl t) : qz_J Y G ((.i2c, 1) :: is) pc ls (qz_i x :: st) h cs sl t := by
  obtain ⟨p, l, e, s, m, args, below, meth, c, D, dA, B0, hc, h0⟩ := G
  intro r hr hx lsC stC H locs hca hl hs hW hS
  obtain ⟨h1, h2, h3, h4, h5, h6, h7, h8, h9⟩ := id hx
  obtain ⟨r2, rfl, hx', hs⟩ := hs
  refine lv_i2c h1 h2 hca.1 rfl ?_
  exact k r hr hx lsC _ H locs hca.2 hl ⟨r2, by simp only [qz_cv, qz_i, qz_i2c, Int32.ofInt_toInt, Int64.ofInt_toInt, Int32.ofInt_add, Int32.ofInt_sub, Int32.ofInt_mul, Int64.ofInt_add, Int64.ofInt_sub, Int64.ofInt_mul, Int64.ofInt_neg], qz_r32 _, hs⟩ hW hS
theorem qz_ins_i2b {x : Int} (k : qz_J Y G is (pc + 1) ls (qz_i (qz_i2b x) :: st) h cs sl t) : qz_J Y G ((.i2b, 1) :: is) pc ls (qz_i x :: st) h cs sl t := by
  obtain ⟨p, l, e, s, m, args, below, meth, c, D, dA, B0, hc, h0⟩ := G
  intro r hr hx lsC stC H locs hca hl hs hW hS
  obtain ⟨h1, h2, h3, h4, h5, h6, h7, h8, h9⟩ := id hx
  obtain ⟨r2, rfl, hx', hs⟩ := hs
  refine lv_i2b h1 h2 hca.1 rfl ?_
  exact k r hr hx lsC _ H locs hca.2 hl ⟨r2, by simp only [qz_cv, qz_i, qz_i2b, Int32.ofInt_toInt, Int64.ofInt_toInt, Int32.ofInt_add, Int32.ofInt_sub, Int32.ofInt_mul, Int64.ofInt_add, Int64.ofInt_sub, Int64.ofInt_mul, Int64.ofInt_neg], qz_r32 _, hs⟩ hW hS
theorem qz_lcmp {x y : Int} (k : qz_J Y G is (pc + 1) ls (qz_i (qz_cmp x y) :: st) h cs sl t) : qz_J Y G ((.lcmp, 1) :: is) pc ls (qz_j y :: qz_j x :: st) h cs sl t := by
  obtain ⟨p, l, e, s, m, args, below, meth, c, D, dA, B0, hc, h0⟩ := G
  intro r hr hx lsC stC H locs hca hl hs hW hS
  obtain ⟨h1, h2, h3, h4, h5, h6, h7, h8, h9⟩ := id hx
  obtain ⟨r1, rfl, hy, r2, rfl, hx', hs⟩ := hs
  refine W.lcmp h1 h2 hca.1 ?_
  have hx2 : qz_64 x := hx'
  have hy2 : qz_64 y := hy
  refine k r hr hx lsC _ H locs hca.2 hl ⟨r2, ?_, ?_, hs⟩ hW hS
  · show Value.int (lg_cmp (Int64.ofInt x) (Int64.ofInt y)) :: r2 = Value.int (Int32.ofInt (qz_cmp x y)) :: r2
    have e1 : (Int64.ofInt x > Int64.ofInt y) ↔ y < x := by show Int64.ofInt y < Int64.ofInt x ↔ _; rw [Int64.lt_iff_toInt_lt, qz_t64 hx2, qz_t64 hy2]
    have e2 : (Int64.ofInt x = Int64.ofInt y) ↔ x = y := ⟨fun q => by rw [← qz_t64 hx2, ← qz_t64 hy2, q], fun q => by rw [q]⟩
    unfold lg_cmp qz_cmp
    by_cases c1 : y < x
    · rw [if_pos c1, if_pos (e1.mpr c1)]; rfl
    · rw [if_neg c1, if_neg (fun q => c1 (e1.mp q))]
      by_cases c2 : x = y
      · rw [if_pos c2, if_pos (e2.mpr c2)]; rfl
      · rw [if_neg c2, if_neg (fun q => c2 (e2.mp q))]; rfl
  · show qz_32 (qz_cmp x y)
    unfold qz_cmp
    split
    · exact ⟨by decide, by decide⟩
    · split <;> exact ⟨by decide, by decide⟩
theorem qz_dup {v : qz_V} (hc1 : qz_c1 v = true) (k : qz_J Y G is (pc + 1) ls (v :: v :: st) h cs sl t) : qz_J Y G ((.dup, 1) :: is) pc ls (v :: st) h cs sl t := by
  obtain ⟨p, l, e, s, m, args, below, meth, c, D, dA, B0, hc, h0⟩ := G
  intro r hr hx lsC stC H locs hca hl hs hW hS
  obtain ⟨h1, h2, h3, h4, h5, h6, h7, h8, h9⟩ := id hx
  obtain ⟨r2, rfl, hv, hs⟩ := hs
  refine lv_dup h1 h2 hca.1 (qz_cat h hc1) ?_
  exact k r hr hx lsC _ H locs hca.2 hl ⟨_, rfl, hv, _, rfl, hv, hs⟩ hW hS
theorem qz_pop {v : qz_V} (hc1 : qz_c1 v = true) (k : qz_J Y G is (pc + 1) ls st h cs sl t) : qz_J Y G ((.pop, 1) :: is) pc ls (v :: st) h cs sl t := by
  obtain ⟨p, l, e, s, m, args, below, meth, c, D, dA, B0, hc, h0⟩ := G
  intro r hr hx lsC stC H locs hca hl hs hW hS
  obtain ⟨h1, h2, h3, h4, h5, h6, h7, h8, h9⟩ := id hx
  obtain ⟨r2, rfl, hv, hs⟩ := hs
  refine lv_pop h1 h2 hca.1 (qz_cat h hc1) ?_
  exact k r hr hx lsC _ H locs hca.2 hl hs hW hS
theorem qz_dup2 {v w : qz_V} (hc1 : qz_c1 v = true) (hc2 : qz_c1 w = true) (k : qz_J Y G is (pc + 1) ls (v :: w :: v :: w :: st) h cs sl t) : qz_J Y G ((.dup2, 1) :: is) pc ls (v :: w :: st) h cs sl t := by
  obtain ⟨p, l, e, s, m, args, below, meth, c, D, dA, B0, hc, h0⟩ := G
  intro r hr hx lsC stC H locs hca hl hs hW hS
  obtain ⟨h1, h2, h3, h4, h5, h6, h7, h8, h9⟩ := id hx
  obtain ⟨r1, rfl, hv, r2, rfl, hw, hs⟩ := hs
  refine lv_dup2_11 h1 h2 hca.1 (qz_cat h hc1) (qz_cat h hc2) ?_
  exact k r hr hx lsC _ H locs hca.2 hl ⟨_, rfl, hv, _, rfl, hw, _, rfl, hv, _, rfl, hw, hs⟩ hW hS
theorem qz_if_eq {x : Int} {off : Int} (ht : (pc : Int) + off = (T : Int)) (hT : qz_ca Y.2.1 T isT) (kt : qz_J Y G isT T ls st h cs sl t1) (kf : qz_J Y G is (pc + 3) ls st h cs sl t2) : qz_J Y G ((.ifCond .eq off, 3) :: is) pc ls (qz_i x :: st) h cs sl (if x = 0 then t1 else t2) := by
  obtain ⟨p, l, e, s, m, args, below, meth, c, D, dA, B0, hc, h0⟩ := G
  intro r hr hx lsC stC H locs hca hl hs hW hS
  obtain ⟨h1, h2, h3, h4, h5, h6, h7, h8, h9⟩ := id hx
  obtain ⟨r2, rfl, hx2, hs⟩ := hs
  have e : _ ↔ x = 0 := qz_e0 hx2
  refine lv_if_eq h1 h2 hca.1 ht (fun q => ?_) (fun q => ?_)
  · rw [if_pos (e.mp q)] at hr
    exact kt r hr hx lsC _ H locs hT hl hs hW hS
  · rw [if_neg (fun z => q (e.mpr z))] at hr
    exact kf r hr hx lsC _ H locs hca.2 hl hs hW hS
theorem qz_icmp_eq {x y : Int} {off : Int} (ht : (pc : Int) + off = (T : Int)) (hT : qz_ca Y.2.1 T isT) (kt : qz_J Y G isT T ls st h cs sl t1) (kf : qz_J Y G is (pc + 3) ls st h cs sl t2) : qz_J Y G ((.if_icmp .eq off, 3) :: is) pc ls (qz_i y :: qz_i x :: st) h cs sl (if x = y then t1 else t2) := by
  obtain ⟨p, l, e, s, m, args, below, meth, c, D, dA, B0, hc, h0⟩ := G
  intro r hr hx lsC stC H locs hca hl hs hW hS
  obtain ⟨h1, h2, h3, h4, h5, h6, h7, h8, h9⟩ := id hx
  obtain ⟨r1, rfl, hy2, r2, rfl, hx2, hs⟩ := hs
  have e : _ ↔ x = y := qz_e32 hx2 hy2
  refine lv_icmp_eq h1 h2 hca.1 ht (fun q => ?_) (fun q => ?_)
  · rw [if_pos (e.mp q)] at hr
    exact kt r hr hx lsC _ H locs hT hl hs hW hS
  · rw [if_neg (fun z => q (e.mpr z))] at hr
    exact kf r hr hx lsC _ H locs hca.2 hl hs hW hS
theorem qz_if_ne {x : Int} {off : Int} (ht : (pc : Int) + off = (T : Int)) (hT : qz_ca Y.2.1 T isT) (kt : qz_J Y G isT T ls st h cs sl t1) (kf : qz_J Y G is (pc + 3) ls st h cs sl t2) : qz_J Y G ((.ifCond .ne off, 3) :: is) pc ls (qz_i x :: st) h cs sl (if ¬ x = 0 then t1 else t2) := by
  obtain ⟨p, l, e, s, m, args, below, meth, c, D, dA, B0, hc, h0⟩ := G
  intro r hr hx lsC stC H locs hca hl hs hW hS
  obtain ⟨h1, h2, h3, h4, h5, h6, h7, h8, h9⟩ := id hx
  obtain ⟨r2, rfl, hx2, hs⟩ := hs
  have e : _ ↔ x = 0 := qz_e0 hx2
  refine lv_if_ne h1 h2 hca.1 ht (fun q => ?_) (fun q => ?_)
  · rw [if_pos (fun z => q (e.mpr z))] at hr
    exact kt r hr hx lsC _ H locs hT hl hs hW hS
  · rw [if_neg (fun z => z (e.mp q))] at hr
    exact kf r hr hx lsC _ H locs hca.2 hl hs hW hS
theorem qz_icmp_ne {x y : Int} {off : Int} (ht : (pc : Int) + off = (T : Int)) (hT : qz_ca Y.2.1 T isT) (kt : qz_J Y G isT T ls st h cs sl t1) (kf : qz_J Y G is (pc + 3) ls st h cs sl t2) : qz_J Y G ((.if_icmp .ne off, 3) :: is) pc ls (qz_i y :: qz_i x :: st) h cs sl (if ¬ x = y then t1 else t2) := by
  obtain ⟨p, l, e, s, m, args, below, meth, c, D, dA, B0, hc, h0⟩ := G
  intro r hr hx lsC stC H locs hca hl hs hW hS
  obtain ⟨h1, h2, h3, h4, h5, h6, h7, h8, h9⟩ := id hx
  obtain ⟨r1, rfl, hy2, r2, rfl, hx2, hs⟩ := hs
  have e : _ ↔ x = y := qz_e32 hx2 hy2
  refine lv_icmp_ne h1 h2 hca.1 ht (fun q => ?_) (fun q => ?_)
  · rw [if_pos (fun z => q (e.mpr z))] at hr
    exact kt r hr hx lsC _ H locs hT hl hs hW hS
  · rw [if_neg (fun z => z (e.mp q))] at hr
    exact kf r hr hx lsC _ H locs hca.2 hl hs hW hS
theorem qz_if_lt {x : Int} {off : Int} (ht : (pc : Int) + off = (T : Int)) (hT : qz_ca Y.2.1 T isT) (kt : qz_J Y G isT T ls st h cs sl t1) (kf : qz_J Y G is (pc + 3) ls st h cs sl t2) : qz_J Y G ((.ifCond .lt off, 3) :: is) pc ls (qz_i x :: st) h cs sl (if x < 0 then t1 else t2) := by
  obtain ⟨p, l, e, s, m, args, below, meth, c, D, dA, B0, hc, h0⟩ := G
  intro r hr hx lsC stC H locs hca hl hs hW hS
  obtain ⟨h1, h2, h3, h4, h5, h6, h7, h8, h9⟩ := id hx
  obtain ⟨r2, rfl, hx2, hs⟩ := hs
  have e : _ ↔ x < 0 := qz_l0 hx2
  refine lv_if_lt h1 h2 hca.1 ht (fun q => ?_) (fun q => ?_)
  · rw [if_pos (e.mp q)] at hr
    exact kt r hr hx lsC _ H locs hT hl hs hW hS
  · rw [if_neg (fun z => q (e.mpr z))] at hr
    exact kf r hr hx lsC _ H locs hca.2 hl hs hW hS
theorem qz_icmp_lt {x y : Int} {off : Int} (ht : (pc : Int) + off = (T : Int)) (hT : qz_ca Y.2.1 T isT) (kt : qz_J Y G isT T ls st h cs sl t1) (kf : qz_J Y G is (pc + 3) ls st h cs sl t2) : qz_J Y G ((.if_icmp .lt off, 3) :: is) pc ls (qz_i y :: qz_i x :: st) h cs sl (if x < y then t1 else t2) := by
  obtain ⟨p, l, e, s, m, args, below, meth, c, D, dA, B0, hc, h0⟩ := G
  intro r hr hx lsC stC H locs hca hl hs hW hS
  obtain ⟨h1, h2, h3, h4, h5, h6, h7, h8, h9⟩ := id hx
  obtain ⟨r1, rfl, hy2, r2, rfl, hx2, hs⟩ := hs
  have e : _ ↔ x < y := qz_l32 hx2 hy2
  refine lv_icmp_lt h1 h2 hca.1 ht (fun q => ?_) (fun q => ?_)
  · rw [if_pos (e.mp q)] at hr
    exact kt r hr hx lsC _ H locs hT hl hs hW hS
  · rw [if_neg (fun z => q (e.mpr z))] at hr
    exact kf r hr hx lsC _ H locs hca.2 hl hs hW hS
theorem qz_if_ge {x : Int} {off : Int} (ht : (pc : Int) + off = (T : Int)) (hT : qz_ca Y.2.1 T isT) (kt : qz_J Y G isT T ls st h cs sl t1) (kf : qz_J Y G is (pc + 3) ls st h cs sl t2) : qz_J Y G ((.ifCond .ge off, 3) :: is) pc ls (qz_i x :: st) h cs sl (if 0 ≤ x then t1 else t2) := by
  obtain ⟨p, l, e, s, m, args, below, meth, c, D, dA, B0, hc, h0⟩ := G
  intro r hr hx lsC stC H locs hca hl hs hW hS
  obtain ⟨h1, h2, h3, h4, h5, h6, h7, h8, h9⟩ := id hx
  obtain ⟨r2, rfl, hx2, hs⟩ := hs
  have e : _ ↔ 0 ≤ x := qz_ge0 hx2
  refine lv_if_ge h1 h2 hca.1 ht (fun q => ?_) (fun q => ?_)
  · rw [if_pos (e.mp q)] at hr
    exact kt r hr hx lsC _ H locs hT hl hs hW hS
  · rw [if_neg (fun z => q (e.mpr z))] at hr
    exact kf r hr hx lsC _ H locs hca.2 hl hs hW hS
theorem qz_icmp_ge {x y : Int} {off : Int} (ht : (pc : Int) + off = (T : Int)) (hT : qz_ca Y.2.1 T isT) (kt : qz_J Y G isT T ls st h cs sl t1) (kf : qz_J Y G is (pc + 3) ls st h cs sl t2) : qz_J Y G ((.if_icmp .ge off, 3) :: is) pc ls (qz_i y :: qz_i x :: st) h cs sl (if y ≤ x then t1 else t2) := by
  obtain ⟨p, l, e, s, m, args, below, meth, c, D, dA, B0, hc, h0⟩ := G
  intro r hr hx lsC stC H locs hca hl hs hW hS
  obtain ⟨h1, h2, h3, h4, h5, h6, h7, h8, h9⟩ := id hx
  obtain ⟨r1, rfl, hy2, r2, rfl, hx2, hs⟩ := hs
  have e : _ ↔ y ≤ x := qz_m32 hy2 hx2
  refine lv_icmp_ge h1 h2 hca.1 ht (fun q => ?_) (fun q => ?_)
  · rw [if_pos (e.mp q)] at hr
    exact kt r hr hx lsC _ H locs hT hl hs hW hS
  · rw [if_neg (fun z => q (e.mpr z))] at hr
    exact kf r hr hx lsC _ H locs hca.2 hl hs hW hS
theorem qz_if_gt {x : Int} {off : Int} (ht : (pc : Int) + off = (T : Int)) (hT : qz_ca Y.2.1 T isT) (kt : qz_J Y G isT T ls st h cs sl t1) (kf : qz_J Y G is (pc + 3) ls st h cs sl t2) : qz_J Y G ((.ifCond .gt off, 3) :: is) pc ls (qz_i x :: st) h cs sl (if 0 < x then t1 else t2) := by
  obtain ⟨p, l, e, s, m, args, below, meth, c, D, dA, B0, hc, h0⟩ := G
  intro r hr hx lsC stC H locs hca hl hs hW hS
  obtain ⟨h1, h2, h3, h4, h5, h6, h7, h8, h9⟩ := id hx
  obtain ⟨r2, rfl, hx2, hs⟩ := hs
  have e : _ ↔ 0 < x := qz_g0 hx2
  refine lv_if_gt h1 h2 hca.1 ht (fun q => ?_) (fun q => ?_)
  · rw [if_pos (e.mp q)] at hr
    exact kt r hr hx lsC _ H locs hT hl hs hW hS
  · rw [if_neg (fun z => q (e.mpr z))] at hr
    exact kf r hr hx lsC _ H locs hca.2 hl hs hW hS
theorem qz_icmp_gt {x y : Int} {off : Int} (ht : (pc : Int) + off = (T : Int)) (hT : qz_ca Y.2.1 T isT) (kt : qz_J Y G isT T ls st h cs sl t1) (kf : qz_J Y G is (pc + 3) ls st h cs sl t2) : qz_J Y G ((.if_icmp .gt off, 3) :: is) pc ls (qz_i y :: qz_i x :: st) h cs sl (if y < x then t1 else t2) := by
  obtain ⟨p, l, e, s, m, args, below, meth, c, D, dA, B0, hc, h0⟩ := G
  intro r hr hx lsC stC H locs hca hl hs hW hS
  obtain ⟨h1, h2, h3, h4, h5, h6, h7, h8, h9⟩ := id hx
  obtain ⟨r1, rfl, hy2, r2, rfl, hx2, hs⟩ := hs
  have e : _ ↔ y < x := qz_l32 hy2 hx2
  refine lv_icmp_gt h1 h2 hca.1 ht (fun q => ?_) (fun q => ?_)
  · rw [if_pos (e.mp q)] at hr
    exact kt r hr hx lsC _ H locs hT hl hs hW hS
  · rw [if_neg (fun z => q (e.mpr z))] at hr
    exact kf r hr hx lsC _ H locs hca.2 hl hs hW hS
theorem qz_if_le {x : Int} {off : Int} (ht : (pc : Int) + off = (T : Int)) (hT : qz_ca Y.2.1 T isT) (kt : qz_J Y G isT T ls st h cs sl t1) (kf : qz_J Y G is (pc + 3) ls st h cs sl t2) : qz_J Y G ((.ifCond .le off, 3) :: is) pc ls (qz_i x :: st) h cs sl (if x ≤ 0 then t1 else t2) := by
  obtain ⟨p, l, e, s, m, args, below, meth, c, D, dA, B0, hc, h0⟩ := G
  intro r hr hx lsC stC H locs hca hl hs hW hS
  obtain ⟨h1, h2, h3, h4, h5, h6, h7, h8, h9⟩ := id hx
  obtain ⟨r2, rfl, hx2, hs⟩ := hs
  have e : _ ↔ x ≤ 0 := qz_le0 hx2
  refine lv_if_le h1 h2 hca.1 ht (fun q => ?_) (fun q => ?_)
  · rw [if_pos (e.mp q)] at hr
    exact kt r hr hx lsC _ H locs hT hl hs hW hS
  · rw [if_neg (fun z => q (e.mpr z))] at hr
    exact kf r hr hx lsC _ H locs hca.2 hl hs hW hS
theorem qz_icmp_le {x y : Int} {off : Int} (ht : (pc : Int) + off = (T : Int)) (hT : qz_ca Y.2.1 T isT) (kt : qz_J Y G isT T ls st h cs sl t1) (kf : qz_J Y G is (pc + 3) ls st h cs sl t2) : qz_J Y G ((.if_icmp .le off, 3) :: is) pc ls (qz_i y :: qz_i x :: st) h cs sl (if x ≤ y then t1 else t2) := by
  obtain ⟨p, l, e, s, m, args, below, meth, c, D, dA, B0, hc, h0⟩ := G
  intro r hr hx lsC stC H locs hca hl hs hW hS
  obtain ⟨h1, h2, h3, h4, h5, h6, h7, h8, h9⟩ := id hx
  obtain ⟨r1, rfl, hy2, r2, rfl, hx2, hs⟩ := hs
  have e : _ ↔ x ≤ y := qz_m32 hx2 hy2
  refine lv_icmp_le h1 h2 hca.1 ht (fun q => ?_) (fun q => ?_)
  · rw [if_pos (e.mp q)] at hr
    exact kt r hr hx lsC _ H locs hT hl hs hW hS
  · rw [if_neg (fun z => q (e.mpr z))] at hr
    exact kf r hr hx lsC _ H locs hca.2 hl hs hW hS
theorem qz_goto {off : Int} (ht : (pc : Int) + off = (T : Int)) (hT : qz_ca Y.2.1 T isT) (k : qz_J Y G isT T ls st h cs sl t) : qz_J Y G ((.goto off, 3) :: is) pc ls st h cs sl t := by
  obtain ⟨p, l, e, s, m, args, below, meth, c, D, dA, B0, hc, h0⟩ := G
  intro r hr hx lsC stC H locs hca hl hs hW hS
  obtain ⟨h1, h2, h3, h4, h5, h6, h7, h8, h9⟩ := id hx
  refine lv_goto h1 h2 hca.1 ht ?_
  exact k r hr hx lsC _ H locs hT hl hs hW hS
theorem qz_fall (ht : pc = T) (hT : qz_ca Y.2.1 T isT) (k : qz_J Y G isT T ls st h cs sl t) : qz_J Y G [] pc ls st h cs sl t := by
  obtain ⟨p, l, e, s, m, args, below, meth, c, D, dA, B0, hc, h0⟩ := G
  intro r hr hx lsC stC H locs hca hl hs hW hS
  obtain ⟨h1, h2, h3, h4, h5, h6, h7, h8, h9⟩ := id hx
  subst ht
  exact k r hr hx lsC _ H locs hT hl hs hW hS
end QZ
end
section
/-- h' is h but at places that are not kept for the machine -/
def qz_sm (h h' : qz_H) : Prop := h' 0 0 = h 0 0 ∧ h' 0 1 = h 0 1 ∧ ∀ y : Int, h' y (-1) = h y (-1) ∧ h' y (-2) = h y (-2) ∧ h' y (-3) = h y (-3)
theorem qz_sm.ok {h h' : qz_H} (e : qz_sm h h') (k : Nat) (x : Int) : qz_ok h' k x ↔ qz_ok h k x := by
  unfold qz_ok
  rw [e.1, (e.2.2 x).2.1]
theorem qz_sm.ad {h h' : qz_H} (e : qz_sm h h') (x : Int) : qz_ad h' x = qz_ad h x := by
  unfold qz_ad
  rw [(e.2.2 x).2.2]
theorem qz_sm.tv {h h' : qz_H} (e : qz_sm h h') (t : Nat) (x : Int) : qz_tv h' t x = qz_tv h t x := by
  unfold qz_tv qz_rf
  rw [e.ad]
theorem qz_sm.rg {h h' : qz_H} (e : qz_sm h h') (t : Nat) (x : Int) : qz_rg h' t x ↔ qz_rg h t x := by
  unfold qz_rg
  rw [e.ok]
theorem qz_sm.ex {h h' : qz_H} (e : qz_sm h h') : qz_ex h h' := fun k x hk => ⟨(e.ok k x).mpr hk, (e.2.2 x).2.2⟩
theorem qz_up_ne {h : qz_H} {o i v a b : Int} (hn : ¬ (a = o ∧ b = i)) : qz_up h o i v a b = h a b := by
  unfold qz_up
  rw [if_neg hn]
theorem qz_up_eq {h : qz_H} {o i v : Int} : qz_up h o i v o i = v := by
  unfold qz_up
  rw [if_pos ⟨rfl, rfl⟩]
theorem qz_up_sm {h : qz_H} {x j v : Int} (hx : 0 < x) (hj : 0 ≤ j) : qz_sm h (qz_up h x j v) :=
  ⟨qz_up_ne (by omega), qz_up_ne (by omega), fun y => ⟨qz_up_ne (by omega), qz_up_ne (by omega), qz_up_ne (by omega)⟩⟩
theorem qz_ok_ne {h : qz_H} {k : Nat} {x : Int} (hk : qz_ok h k x) : x ≠ 0 := by
  rcases hk.1 with q | q <;> omega
theorem qz_ok_pos {h : qz_H} {k : Nat} {x : Int} (hk : qz_ok h k x) (hx : 0 < x) : 1 ≤ x ∧ x ≤ h 0 0 := by
  rcases hk.1 with q | q
  · exact q
  · omega
theorem qz_ok_kind {h : qz_H} {k k' : Nat} {x : Int} (hk : qz_ok h k x) (hk' : qz_ok h k' x) : k = k' := by
  have := hk.2.symm.trans hk'.2
  omega
section QW
variable {D : va_G} {dA : Nat → ClassId} {B0 : Nat} {hc h0 h h' : qz_H} {U : State} {H H' : Heap} {x j v : Int} {k : Nat}
theorem qz_W_ne (hW : qz_W D dA B0 hc h0 U h H) (hk : qz_ok h k x) (hx : 0 < x) {y : Int} {k' : Nat} (hy : qz_ok h k' y) (hne : y ≠ x) : qz_ad h y ≠ qz_ad h x := by
  obtain ⟨-, -, w3, w4, w5, -⟩ := hW
  have hx1 := qz_ok_pos hk hx
  rcases hy.1 with q | q
  · exact fun z => hne (w4 y x q.1 q.2 hx1.1 hx1.2 z)
  · have a1 := w5 y q.1 q.2
    have a2 := (w3 x hx1.1 hx1.2).1
    omega
theorem qz_W_set (hW : qz_W D dA B0 hc h0 U h H) (hk : qz_ok h k x) (hx : 0 < x) (hj : 0 ≤ j) (hz : H'.size = H.size) (hq : ∀ q, q ≠ qz_ad h x → H'[q]? = H[q]?)
    (hn : (k < 40 → qz_ob2 D (qz_up h x j v) H' x k) ∧ (40 ≤ k → qz_ay2 dA U (qz_up h x j v) H' x k)) : qz_W D dA B0 hc h0 U (qz_up h x j v) H' := by
  have e := qz_up_sm (h := h) (v := v) hx hj
  have hW' := hW
  obtain ⟨⟨w0, w1⟩, w2, w3, w4, w5, w6, w7⟩ := hW
  refine ⟨⟨by rw [e.1]; exact w0, by rw [e.2.1, hz]; exact w1⟩, fun y k' hy => ?_, fun y h1 h2 => ?_, fun y z h1 h2 h3 h4 h5 => ?_, fun y h1 h2 => ?_, fun y h1 i => ?_, fun a b g => ⟨(e.ex a b (w7 a b g).1).1, (e.ex a b (w7 a b g).1).2.trans (w7 a b g).2⟩⟩
  · have hy0 := (e.ok k' y).mp hy
    by_cases hyx : y = x
    · subst hyx
      have := qz_ok_kind hk hy0
      subst this
      exact hn
    · have hne := qz_W_ne hW' hk hx hy0 hyx
      have hcell := hq _ hne
      have hval : ∀ i : Int, qz_up h x j v y i = h y i := fun i => qz_up_ne (fun z => hyx z.1)
      obtain ⟨a1, a2⟩ := w2 y k' hy0
      refine ⟨fun hlt => ?_, fun hge => ?_⟩
      · obtain ⟨⟨cell, b1, b2, b3, b4, b5, b6⟩, b7⟩ := a1 hlt
        refine ⟨⟨cell, by rw [e.ad, hcell]; exact b1, b2, b3, b4, b5, fun i hi => ?_⟩, fun i hi => ?_⟩
        · rw [e.tv, hval]; exact b6 i hi
        · rw [e.rg, hval]; exact b7 i hi
      · obtain ⟨⟨cell, b1, b2, b3, b4, b5, b6, b7⟩, b8, b9, b10⟩ := a2 hge
        refine ⟨⟨cell, by rw [e.ad, hcell]; exact b1, b2, b3, b4, by rw [hval]; exact b5, by rw [hval]; exact b6, fun i hi => ?_⟩, by rw [hval]; exact b8, by rw [hval]; exact b9, fun i hi => ?_⟩
        · rw [hval] at hi ⊢
          rw [e.tv]; exact b7 i hi
        · rw [hval] at hi ⊢
          rw [e.rg]; exact b10 i hi
  · rw [e.1] at h2
    rw [e.ad, (e.2.2 y).2.1]
    exact w3 y h1 h2
  · rw [e.1] at h2 h4
    rw [e.ad, e.ad] at h5
    exact w4 y z h1 h2 h3 h4 h5
  · rw [e.ad]
    exact w5 y h1 h2
  · rw [qz_up_ne (fun z => by omega)]
    exact w6 y h1 i
theorem qz_set_slot {cell : Cell} {i : Nat} {w : Value} (hi : i < cell.slots.size) : (cell.setSlot i w).slots[i]? = some w := by
  simp [Cell.setSlot, hi]
/-- a field is written -/
theorem qz_W_fld (hW : qz_W D dA B0 hc h0 U h H) (hk : qz_ok h k x) (hx : 0 < x) (hk40 : k < 40) {i : Nat} (hi : i < kz_N k) (hap : ∀ a b, a < kz_N k → b < kz_N k → a ≠ b → D.2 k a ≠ D.2 k b) {cell : Cell} (hcell : H[qz_ad h x]? = some cell) (hrg : qz_rg h (kz_ft k i) v)
    (he : H'[qz_ad h x]? = some (cell.setSlot (D.2 k i) (qz_tv h (kz_ft k i) v))) (hz : H'.size = H.size) (hq : ∀ q, q ≠ qz_ad h x → H'[q]? = H[q]?) : qz_W D dA B0 hc h0 U (qz_up h x i v) H' := by
  have e := qz_up_sm (h := h) (v := v) hx (Int.natCast_nonneg i)
  refine qz_W_set hW hk hx (Int.natCast_nonneg i) hz hq ⟨fun _ => ?_, fun q => absurd hk40 (by omega)⟩
  obtain ⟨⟨cell', b1, b2, b3, b4, b5, b6⟩, b7⟩ := (hW.2.1 x k hk).1 hk40
  cases hcell.symm.trans b1
  refine ⟨⟨cell.setSlot (D.2 k i) (qz_tv h (kz_ft k i) v), by rw [e.ad]; exact he, b2, b3, b4, b5, fun a ha => ?_⟩, fun a ha => ?_⟩
  · rw [e.tv]
    by_cases hai : a = i
    · subst hai
      rw [qz_up_eq]
      exact qz_set_slot (k2_hasslot (b6 a ha))
    · rw [qz_up_ne (fun z => hai (by have := z.2; omega)), slot_ne _ _ (hap i a hi ha (fun z => hai z.symm))]
      exact b6 a ha
  · rw [e.rg]
    by_cases hai : a = i
    · subst hai
      rw [qz_up_eq]
      exact hrg
    · rw [qz_up_ne (fun z => hai (by have := z.2; omega))]
      exact b7 a ha
/-- an element is written -/
theorem qz_W_elt (hW : qz_W D dA B0 hc h0 U h H) (hk : qz_ok h k x) (hx : 0 < x) (hk40 : 40 ≤ k) (hj : 0 ≤ j) (hjl : j < h x (-1)) {cell : Cell} (hcell : H[qz_ad h x]? = some cell) (hrg : qz_rg h (kz_ae k) v)
    (he : H'[qz_ad h x]? = some (cell.setSlot j.toNat (qz_tv h (kz_ae k) v))) (hz : H'.size = H.size) (hq : ∀ q, q ≠ qz_ad h x → H'[q]? = H[q]?) : qz_W D dA B0 hc h0 U (qz_up h x j v) H' := by
  have e := qz_up_sm (h := h) (v := v) hx hj
  refine qz_W_set hW hk hx hj hz hq ⟨fun q => absurd hk40 (by omega), fun _ => ?_⟩
  obtain ⟨⟨cell', b1, b2, b3, b4, b5, b6, b7⟩, b8, b9, b10⟩ := (hW.2.1 x k hk).2 hk40
  cases hcell.symm.trans b1
  have hlen : qz_up h x j v x (-1) = h x (-1) := (e.2.2 x).1
  refine ⟨⟨cell.setSlot j.toNat (qz_tv h (kz_ae k) v), by rw [e.ad]; exact he, b2, b3, b4, by rw [hlen, k2_slotsz]; exact b5, by rw [hlen, k2_slotsz]; exact b6, fun a ha => ?_⟩, by rw [hlen]; exact b8, by rw [hlen]; exact b9, fun a ha => ?_⟩
  · rw [hlen] at ha
    rw [e.tv]
    by_cases hai : (a : Int) = j
    · subst hai
      rw [qz_up_eq, Int.toNat_natCast]
      exact qz_set_slot (by omega)
    · rw [qz_up_ne (fun z => hai z.2), slot_ne _ _ (fun z => hai (by omega))]
      exact b7 a ha
  · rw [hlen] at ha
    rw [e.rg]
    by_cases hai : (a : Int) = j
    · rw [hai, qz_up_eq]
      exact hrg
    · rw [qz_up_ne (fun z => hai z.2)]
      exact b10 a ha
/-- a cell is new -/
theorem qz_nw_old {n : Int} {y : Int} (h1 : y ≠ 0) (h2 : y ≠ h 0 0 + 1) (b : Int) : qz_nw h x n y b = h y b := by
  unfold qz_nw
  rw [if_neg h1, if_neg h2]
theorem qz_nw_00 {n : Int} : qz_nw h x n 0 0 = h 0 0 + 1 := by simp [qz_nw]
theorem qz_nw_01 {n : Int} : qz_nw h x n 0 1 = h 0 1 + 1 := by simp [qz_nw]
theorem qz_nw_new {n : Int} (h0 : 0 ≤ h 0 0) (b : Int) : qz_nw h x n (h 0 0 + 1) b = if b = -1 then n else if b = -2 then x else if b = -3 then h 0 1 else 0 := by
  unfold qz_nw
  rw [if_neg (by omega), if_pos rfl]
theorem qz_nw_ex {n : Int} (h0 : 0 ≤ h 0 0) : qz_ex h (qz_nw h x n) := by
  intro k' y hy
  have hy0 := qz_ok_ne hy
  have hy1 : y ≠ h 0 0 + 1 := by rcases hy.1 with q | q <;> omega
  refine ⟨⟨?_, by rw [qz_nw_old hy0 hy1]; exact hy.2⟩, qz_nw_old hy0 hy1 _⟩
  rw [qz_nw_00]
  rcases hy.1 with q | q
  · exact Or.inl ⟨q.1, by omega⟩
  · exact Or.inr q
theorem qz_ex.ad {h h' : qz_H} (e : qz_ex h h') {k : Nat} {x : Int} (hk : qz_ok h k x) : qz_ad h' x = qz_ad h x := by
  unfold qz_ad
  rw [(e k x hk).2]
theorem qz_ex.rg {h h' : qz_H} (e : qz_ex h h') {t : Nat} {x : Int} (hr : qz_rg h t x) : qz_rg h' t x ∧ qz_tv h' t x = qz_tv h t x := by
  unfold qz_rg qz_tv at *
  by_cases a : t = 2
  · simp only [if_pos a] at *; exact ⟨hr, trivial⟩
  · simp only [if_neg a] at *
    by_cases b : t < 10
    · simp only [if_pos b] at *; exact ⟨hr, trivial⟩
    · have c3 : ¬ t = 3 := by omega
      have c4 : ¬ t = 4 := by omega
      have c5 : ¬ t = 5 := by omega
      simp only [if_neg b, if_neg c3, if_neg c4, if_neg c5] at *
      rcases hr with q | q
      · subst q
        exact ⟨Or.inl rfl, rfl⟩
      · refine ⟨Or.inr (e _ _ q).1, ?_⟩
        unfold qz_rf
        rw [e.ad q]
theorem qz_W_nw {n : Int} (hW : qz_W D dA B0 hc h0 U h H) (hk99 : k < 99) (hB : B0 ≤ H.size) (hz : H'.size = H.size + 1) (hq : ∀ q, q < H.size → H'[q]? = H[q]?)
    (hn : (k < 40 → qz_ob2 D (qz_nw h k n) H' (h 0 0 + 1) k) ∧ (40 ≤ k → qz_ay2 dA U (qz_nw h k n) H' (h 0 0 + 1) k)) : qz_W D dA B0 hc h0 U (qz_nw h k n) H' := by
  have hW' := hW
  obtain ⟨⟨w0, w1⟩, w2, w3, w4, w5, w6, w7⟩ := hW
  have e := qz_nw_ex (h := h) (x := (k : Int)) (n := n) w0
  have old : ∀ y : Int, 1 ≤ y → y ≤ h 0 0 → ∀ b, qz_nw h k n y b = h y b := fun y h1 h2 b => qz_nw_old (by omega) (by omega) b
  have adn : qz_ad (qz_nw h k n) (h 0 0 + 1) = H.size := by
    unfold qz_ad
    rw [qz_nw_new w0, if_neg (by decide), if_neg (by decide), if_pos rfl, w1]
    simp
  have lt : ∀ y k', qz_ok h k' y → qz_ad h y < H.size := by
    intro y k' hy
    obtain ⟨a1, a2⟩ := w2 y k' hy
    by_cases c : k' < 40
    · obtain ⟨⟨cell, b1, -⟩, -⟩ := a1 c
      exact (Array.getElem?_eq_some_iff.mp b1).1
    · obtain ⟨⟨cell, b1, -⟩, -⟩ := a2 (by omega)
      exact (Array.getElem?_eq_some_iff.mp b1).1
  have lt2 : ∀ y, 1 ≤ y → y ≤ h 0 0 → qz_ad h y < H.size := by
    intro y h1 h2
    obtain ⟨-, g1, g2⟩ := w3 y h1 h2
    exact lt y (h y (-2)).toNat ⟨Or.inl ⟨h1, h2⟩, by omega⟩
  refine ⟨⟨by rw [qz_nw_00]; omega, by rw [qz_nw_01, hz, w1]; omega⟩, fun y k' hy => ?_, fun y h1 h2 => ?_, fun y z h1 h2 h3 h4 h5 => ?_, fun y h1 h2 => ?_, fun y h1 i => ?_, fun a b g => ⟨(e a b (w7 a b g).1).1, (e a b (w7 a b g).1).2.trans (w7 a b g).2⟩⟩
  · by_cases hyn : y = h 0 0 + 1
    · subst hyn
      have h9 := hy.2
      rw [qz_nw_new w0, if_neg (by decide), if_pos rfl] at h9
      have : k = k' := by omega
      subst this
      exact hn
    · have hy0 : qz_ok h k' y := by
        have q0 := qz_ok_ne hy
        refine ⟨?_, by rw [← qz_nw_old (h := h) (x := (k : Int)) (n := n) q0 hyn]; exact hy.2⟩
        rcases hy.1 with q | q
        · rw [qz_nw_00] at q
          exact Or.inl ⟨q.1, by omega⟩
        · exact Or.inr q
      have hval : ∀ i : Int, qz_nw h k n y i = h y i := fun i => qz_nw_old (qz_ok_ne hy0) hyn i
      have hcell := hq _ (lt y k' hy0)
      obtain ⟨a1, a2⟩ := w2 y k' hy0
      refine ⟨fun hlt => ?_, fun hge => ?_⟩
      · obtain ⟨⟨cell, b1, b2, b3, b4, b5, b6⟩, b7⟩ := a1 hlt
        refine ⟨⟨cell, by rw [e.ad hy0, hcell]; exact b1, b2, b3, b4, b5, fun i hi => ?_⟩, fun i hi => ?_⟩
        · rw [hval, (e.rg (b7 i hi)).2]; exact b6 i hi
        · rw [hval]; exact (e.rg (b7 i hi)).1
      · obtain ⟨⟨cell, b1, b2, b3, b4, b5, b6, b7⟩, b8, b9, b10⟩ := a2 hge
        refine ⟨⟨cell, by rw [e.ad hy0, hcell]; exact b1, b2, b3, b4, by rw [hval]; exact b5, by rw [hval]; exact b6, fun i hi => ?_⟩, by rw [hval]; exact b8, by rw [hval]; exact b9, fun i hi => ?_⟩
        · rw [hval] at hi ⊢
          rw [(e.rg (b10 i (by omega))).2]; exact b7 i hi
        · rw [hval] at hi ⊢
          exact (e.rg (b10 i hi)).1
  · rw [qz_nw_00] at h2
    by_cases hyn : y = h 0 0 + 1
    · subst hyn
      refine ⟨by rw [adn]; exact hB, ?_⟩
      rw [qz_nw_new w0, if_neg (by decide), if_pos rfl]
      omega
    · have h2' : y ≤ h 0 0 := by omega
      have g := w3 y h1 h2'
      unfold qz_ad at g ⊢
      rw [old y h1 h2', old y h1 h2']
      exact g
  · rw [qz_nw_00] at h2 h4
    have adold : ∀ y, 1 ≤ y → y ≤ h 0 0 → qz_ad (qz_nw h k n) y = qz_ad h y := fun y a b => by unfold qz_ad; rw [old y a b]
    by_cases hyn : y = h 0 0 + 1
    · by_cases hzn : z = h 0 0 + 1
      · rw [hyn, hzn]
      · rw [hyn, adn, adold z h3 (by omega)] at h5
        have := lt2 z h3 (by omega)
        omega
    · by_cases hzn : z = h 0 0 + 1
      · rw [hzn, adn, adold y h1 (by omega)] at h5
        have := lt2 y h1 (by omega)
        omega
      · rw [adold y h1 (by omega), adold z h3 (by omega)] at h5
        exact w4 y z h1 (by omega) h3 (by omega) h5
  · have g := w5 y h1 h2
    unfold qz_ad at g ⊢
    rw [qz_nw_old (by omega) (by omega)]
    exact g
  · rw [qz_nw_old (by omega) (by omega)]
    exact w6 y h1 i
end QW
def qz_tc (ty : FieldType) (t : Nat) : Bool := match ty with
  | .int => t == 1
  | .long => t == 2
  | .boolean => t == 3
  | .byte => t == 5
  | .object _ => decide (10 ≤ t)
  | .array _ => decide (10 ≤ t)
  | _ => false
/-- what a class's rows say: its fields are laid, of the types that my tables name -/
def qz_cw (k : Nat) : Prop := ∃ q : vw_C, kz_cl[k]? = some q ∧ q.2.2 = kz_N k ∧ k < 40 ∧ (∀ w ∈ u_ws q.1 q.2.1 q.2.2, w ∈ kz_TT) ∧ (∀ j, j < q.2.2 → parseFieldDescriptor (q.2.1 j).2.2.1 = some (kz_fT k j)) ∧ (∀ a, a < q.2.2 → ∀ b, b < q.2.2 → a ≠ b → (q.2.1 a).2.1 ≠ (q.2.1 b).2.1) ∧ ∀ j, j < q.2.2 → qz_tc (kz_fT k j) (kz_ft k j) = true
def qz_fl (own : String) (idx k j : Nat) : Prop := ∃ q : vw_C, kz_cl[k]? = some q ∧ j < q.2.2 ∧ (Cond.fieldLink own idx (q.2.1 j).1 (q.2.1 j).2.1 (q.2.1 j).2.2.1 ∈ kz_TT ∨ ∃ host, Cond.fieldLinkNest own idx (q.2.1 j).1 (q.2.1 j).2.1 (q.2.1 j).2.2.1 host ∈ kz_NT)
def qz_fp (Y : qz_Y) (idx k j : Nat) : Prop := ∃ q : vw_C, kz_cl[k]? = some q ∧ j < q.2.2 ∧ (((q.2.1 j).2.2.2 = false ∧ (Cond.fieldLink Y.1.cls idx (q.2.1 j).1 (q.2.1 j).2.1 (q.2.1 j).2.2.1 ∈ kz_TT ∨ ∃ host, Cond.fieldLinkNest Y.1.cls idx (q.2.1 j).1 (q.2.1 j).2.1 (q.2.1 j).2.2.1 host ∈ kz_NT)) ∨ ((q.2.1 j).2.2.2 = true ∧ Y.1.name = "<init>" ∧ (q.2.1 j).1 = Y.1.cls ∧ Cond.fieldLink Y.1.cls idx (q.2.1 j).1 (q.2.1 j).2.1 (q.2.1 j).2.2.1 ∈ kz_TT))
theorem qz_nf {h : qz_H} {ty : FieldType} {t : Nat} {v : Int} (hc : qz_tc ty t = true) (hr : qz_rg h t v) : narrow ty (qz_tv h t v) = qz_tv h t v ∧ fits ty (qz_tv h t v) = true := by
  cases ty with
  | int =>
    have : t = 1 := by simpa [qz_tc] using hc
    subst this
    exact ⟨rfl, rfl⟩
  | long =>
    have : t = 2 := by simpa [qz_tc] using hc
    subst this
    exact ⟨rfl, rfl⟩
  | boolean =>
    have : t = 3 := by simpa [qz_tc] using hc
    subst this
    have hr : v = 0 ∨ v = 1 := hr
    rcases hr with rfl | rfl
    · exact ⟨rfl, rfl⟩
    · exact ⟨rfl, rfl⟩
  | byte =>
    have : t = 5 := by simpa [qz_tc] using hc
    subst this
    have hr : -128 ≤ v ∧ v ≤ 127 := hr
    have h8 := qz_8 (n := v) (by simp only [Bool.and_eq_true, decide_eq_true_eq]; exact hr)
    refine ⟨?_, ?_⟩
    · show Value.int (Int32.ofInt v).toInt8.toInt32 = Value.int (Int32.ofInt v)
      rw [Int32.toInt8_ofInt, h8.1]
    · show (decide ((-128 : Int32) ≤ Int32.ofInt v) && decide (Int32.ofInt v ≤ (127 : Int32))) = true
      have e1 : (-128 : Int32).toInt = -128 := by decide
      have e2 : (127 : Int32).toInt = 127 := by decide
      rw [Bool.and_eq_true, decide_eq_true_eq, decide_eq_true_eq, Int32.le_iff_toInt_le, Int32.le_iff_toInt_le, e1, e2, qz_t32 h8.2]
      exact hr
  | object n =>
    have ht : 10 ≤ t := by simpa [qz_tc] using hc
    have e : qz_tv h t v = va_rf (qz_rf h v) := by unfold qz_tv; rw [if_neg (by omega), if_neg (by omega)]
    rw [e]
    cases qz_rf h v <;> exact ⟨rfl, rfl⟩
  | array n =>
    have ht : 10 ≤ t := by simpa [qz_tc] using hc
    have e : qz_tv h t v = va_rf (qz_rf h v) := by unfold qz_tv; rw [if_neg (by omega), if_neg (by omega)]
    rw [e]
    cases qz_rf h v <;> exact ⟨rfl, rfl⟩
  | _ => cases hc
theorem qz_cvr {h : qz_H} {b : Bool} {k : Nat} {x : Int} (hx : x ≠ 0) : qz_cv h (qz_r b k x) = .ref (qz_ad h x) := by
  show va_rf (qz_rf h x) = _
  unfold qz_rf
  rw [if_neg hx]
  rfl
theorem qz_vot {h : qz_H} {k : Nat} {x : Int} (hv : qz_vo h (qz_r true k x)) : qz_ok h k x := by
  rcases hv with ⟨q, -⟩ | q
  · cases q
  · exact q
theorem qz_rgI {h : qz_H} {t : Nat} {x : Int} (h1 : t < 10) (h2 : ¬ t = 2) (hr : qz_rg h t x) : qz_32 x := by
  unfold qz_rg at hr
  rw [if_neg h2] at hr
  split at hr
  · exact ⟨by omega, by omega⟩
  · split at hr
    · exact ⟨by omega, by omega⟩
    · split at hr
      · exact ⟨by omega, by omega⟩
      · first | exact hr | (rw [if_pos h1] at hr; exact hr)
theorem qz_rgR {h : qz_H} {k : Nat} {x : Int} (hr : qz_rg h (10 + k) x) : qz_vo h (qz_r false k x) := by
  unfold qz_rg at hr
  rw [if_neg (by omega), if_neg (by omega), if_neg (by omega), if_neg (by omega), if_neg (by omega), Nat.add_sub_cancel_left] at hr
  rcases hr with q | q
  · exact Or.inl ⟨rfl, q⟩
  · exact Or.inr q
theorem qz_rgR' {h : qz_H} {k : Nat} {b : Bool} {x : Int} (hr : qz_vo h (qz_r b k x)) : qz_rg h (10 + k) x := by
  unfold qz_rg
  rw [if_neg (by omega), if_neg (by omega), if_neg (by omega), if_neg (by omega), if_neg (by omega), Nat.add_sub_cancel_left]
  rcases hr with q | q
  · exact Or.inl q.2
  · exact Or.inr q
section QR
variable {Y : qz_Y} {G : qz_G} {is isT : List (Instr × Nat)} {pc T : Nat} {ls st : List qz_V} {h : qz_H} {cs sl : Nat} {t t1 t2 : Option qz_R}
theorem qz_learn {h : qz_H} {b : Bool} {k0 : Nat} {x : Int} (hx : x ≠ 0) (hv : qz_vo h (qz_r b k0 x)) : qz_vo h (qz_r true k0 x) := by
  rcases hv with ⟨-, q⟩ | q
  · exact absurd q hx
  · exact Or.inr q
theorem qz_nn {b : Bool} {k0 : Nat} {x : Int} (k : qz_J Y G is pc ls (qz_r true k0 x :: st) h cs sl t) : qz_J Y G is pc ls (qz_r b k0 x :: st) h cs sl (qz_ck (x ≠ 0) t) := by
  obtain ⟨p, l, e, s, m, args, below, meth, c, D, dA, B0, hc, h0⟩ := G
  intro r hr hx lsC stC H locs hca hl hs hW hS
  obtain ⟨h1, h2, h3, h4, h5, h6, h7, h8, h9⟩ := id hx
  obtain ⟨r1, q1, v1, hs⟩ := hs
  obtain ⟨g1, g2⟩ := qz_ck_some hr
  exact k r g2 hx lsC stC H locs hca hl ⟨r1, q1, qz_learn g1 v1, hs⟩ hW hS
theorem qz_nn1 {b : Bool} {k0 : Nat} {x : Int} {v : qz_V} (k : qz_J Y G is pc ls (v :: qz_r true k0 x :: st) h cs sl t) : qz_J Y G is pc ls (v :: qz_r b k0 x :: st) h cs sl (qz_ck (x ≠ 0) t) := by
  obtain ⟨p, l, e, s, m, args, below, meth, c, D, dA, B0, hc, h0⟩ := G
  intro r hr hx lsC stC H locs hca hl hs hW hS
  obtain ⟨h1, h2, h3, h4, h5, h6, h7, h8, h9⟩ := id hx
  obtain ⟨r1, q1, v1, r2, q2, v2, hs⟩ := hs
  obtain ⟨g1, g2⟩ := qz_ck_some hr
  exact k r g2 hx lsC stC H locs hca hl ⟨r1, q1, v1, r2, q2, qz_learn g1 v2, hs⟩ hW hS
theorem qz_nn2 {b : Bool} {k0 : Nat} {x : Int} {v w : qz_V} (k : qz_J Y G is pc ls (v :: w :: qz_r true k0 x :: st) h cs sl t) : qz_J Y G is pc ls (v :: w :: qz_r b k0 x :: st) h cs sl (qz_ck (x ≠ 0) t) := by
  obtain ⟨p, l, e, s, m, args, below, meth, c, D, dA, B0, hc, h0⟩ := G
  intro r hr hx lsC stC H locs hca hl hs hW hS
  obtain ⟨h1, h2, h3, h4, h5, h6, h7, h8, h9⟩ := id hx
  obtain ⟨r1, q1, v1, r2, q2, v2, r3, q3, v3, hs⟩ := hs
  obtain ⟨g1, g2⟩ := qz_ck_some hr
  exact k r g2 hx lsC stC H locs hca hl ⟨r1, q1, v1, r2, q2, v2, r3, q3, qz_learn g1 v3, hs⟩ hW hS
theorem qz_getI {idx k0 j : Nat} {x jI : Int} (hw : qz_cw k0) (hf : qz_fl Y.1.cls idx k0 j) (hj : (j : Int) = jI) (ht : (decide (kz_ft k0 j < 10) && !(kz_ft k0 j == 2)) = true) (k : qz_J Y G is (pc + 3) ls (qz_i (h x jI) :: st) h cs sl t) : qz_J Y G ((.getfield idx, 3) :: is) pc ls (qz_r true k0 x :: st) h cs sl t := by
  obtain ⟨p, l, e, s, m, args, below, meth, c, D, dA, B0, hc, h0⟩ := G
  intro r hr hx lsC stC H locs hca hl hs hW hS
  obtain ⟨h1, h2, h3, h4, h5, h6, h7, h8, h9⟩ := id hx
  obtain ⟨r1, q1, v1, hs⟩ := hs
  have hok := qz_vot v1
  rw [qz_cvr (qz_ok_ne hok)] at q1
  subst q1
  subst hj
  obtain ⟨q, c1, c2, c3, c4, c5, c6, c7⟩ := hw
  obtain ⟨q', f1, f2, f3⟩ := hf
  cases c1.symm.trans f1
  obtain ⟨⟨cell, b1, b2, b3, b4, b5, b6⟩, b7⟩ := (hW.2.1 x k0 hok).1 c3
  obtain ⟨hSl, hfc, kC, hkC, hkind⟩ := h9.2.1.1 k0 q c1
  obtain ⟨cf, kf, fi, f, hi, hsl⟩ := hSl j f2
  have hts : ∀ w ∈ kz_TT, w.before args s = true := fun w hw => h8 w (List.mem_cons_of_mem _ hw)
  have hst := (u_facts hfc hkC (u_lays hts c4 f2) hi).1
  have hj2 : j < kz_N k0 := by rw [← c2]; exact f2
  have hslot : cell.slots[f.slot]? = some (qz_tv h (kz_ft k0 j) (h x j)) := by rw [hsl]; exact b6 j hj2
  have hrg := b7 j hj2
  have e1 : qz_tv h (kz_ft k0 j) (h x j) = qz_cv h (qz_i (h x j)) := by
    simp only [Bool.and_eq_true, decide_eq_true_eq, Bool.not_eq_true', beq_eq_false_iff_ne, ne_eq] at ht
    unfold qz_tv; rw [if_neg ht.2, if_pos ht.1]; rfl
  have e2 : qz_vo h (qz_i (h x j)) := by
    simp only [Bool.and_eq_true, decide_eq_true_eq, Bool.not_eq_true', beq_eq_false_iff_ne, ne_eq] at ht
    exact qz_rgI ht.1 ht.2 hrg
  rcases f3 with f3 | ⟨host, f3⟩
  · refine W.getf h1 h2 h7 (hts _ f3) hi hst b1 b3 hslot rfl rfl hca.1 ?_
    exact k r hr hx lsC _ H locs hca.2 hl ⟨r1, by rw [e1], e2, hs⟩ hW hS
  · refine va_Wgetf h1 h2 h7 (va_Nw.use rfl (h9.2.2.1 _ f3)) hi hst b1 b3 hslot rfl rfl hca.1 ?_
    exact k r hr hx lsC _ H locs hca.2 hl ⟨r1, by rw [e1], e2, hs⟩ hW hS
theorem qz_getJ {idx k0 j : Nat} {x jI : Int} (hw : qz_cw k0) (hf : qz_fl Y.1.cls idx k0 j) (hj : (j : Int) = jI) (ht : (kz_ft k0 j == 2) = true) (k : qz_J Y G is (pc + 3) ls (qz_j (h x jI) :: st) h cs sl t) : qz_J Y G ((.getfield idx, 3) :: is) pc ls (qz_r true k0 x :: st) h cs sl t := by
  obtain ⟨p, l, e, s, m, args, below, meth, c, D, dA, B0, hc, h0⟩ := G
  intro r hr hx lsC stC H locs hca hl hs hW hS
  obtain ⟨h1, h2, h3, h4, h5, h6, h7, h8, h9⟩ := id hx
  obtain ⟨r1, q1, v1, hs⟩ := hs
  have hok := qz_vot v1
  rw [qz_cvr (qz_ok_ne hok)] at q1
  subst q1
  subst hj
  obtain ⟨q, c1, c2, c3, c4, c5, c6, c7⟩ := hw
  obtain ⟨q', f1, f2, f3⟩ := hf
  cases c1.symm.trans f1
  obtain ⟨⟨cell, b1, b2, b3, b4, b5, b6⟩, b7⟩ := (hW.2.1 x k0 hok).1 c3
  obtain ⟨hSl, hfc, kC, hkC, hkind⟩ := h9.2.1.1 k0 q c1
  obtain ⟨cf, kf, fi, f, hi, hsl⟩ := hSl j f2
  have hts : ∀ w ∈ kz_TT, w.before args s = true := fun w hw => h8 w (List.mem_cons_of_mem _ hw)
  have hst := (u_facts hfc hkC (u_lays hts c4 f2) hi).1
  have hj2 : j < kz_N k0 := by rw [← c2]; exact f2
  have hslot : cell.slots[f.slot]? = some (qz_tv h (kz_ft k0 j) (h x j)) := by rw [hsl]; exact b6 j hj2
  have hrg := b7 j hj2
  have ht : kz_ft k0 j = 2 := by simpa using ht
  have e1 : qz_tv h (kz_ft k0 j) (h x j) = qz_cv h (qz_j (h x j)) := by rw [ht]; rfl
  have e2 : qz_vo h (qz_j (h x j)) := by rw [ht] at hrg; exact hrg
  rcases f3 with f3 | ⟨host, f3⟩
  · refine W.getf h1 h2 h7 (hts _ f3) hi hst b1 b3 hslot rfl rfl hca.1 ?_
    exact k r hr hx lsC _ H locs hca.2 hl ⟨r1, by rw [e1], e2, hs⟩ hW hS
  · refine va_Wgetf h1 h2 h7 (va_Nw.use rfl (h9.2.2.1 _ f3)) hi hst b1 b3 hslot rfl rfl hca.1 ?_
    exact k r hr hx lsC _ H locs hca.2 hl ⟨r1, by rw [e1], e2, hs⟩ hW hS
theorem qz_getR {idx k0 j k1 : Nat} {x jI : Int} (hw : qz_cw k0) (hf : qz_fl Y.1.cls idx k0 j) (hj : (j : Int) = jI) (ht : (kz_ft k0 j == 10 + k1) = true) (k : qz_J Y G is (pc + 3) ls (qz_r false k1 (h x jI) :: st) h cs sl t) : qz_J Y G ((.getfield idx, 3) :: is) pc ls (qz_r true k0 x :: st) h cs sl t := by
  obtain ⟨p, l, e, s, m, args, below, meth, c, D, dA, B0, hc, h0⟩ := G
  intro r hr hx lsC stC H locs hca hl hs hW hS
  obtain ⟨h1, h2, h3, h4, h5, h6, h7, h8, h9⟩ := id hx
  obtain ⟨r1, q1, v1, hs⟩ := hs
  have hok := qz_vot v1
  rw [qz_cvr (qz_ok_ne hok)] at q1
  subst q1
  subst hj
  obtain ⟨q, c1, c2, c3, c4, c5, c6, c7⟩ := hw
  obtain ⟨q', f1, f2, f3⟩ := hf
  cases c1.symm.trans f1
  obtain ⟨⟨cell, b1, b2, b3, b4, b5, b6⟩, b7⟩ := (hW.2.1 x k0 hok).1 c3
  obtain ⟨hSl, hfc, kC, hkC, hkind⟩ := h9.2.1.1 k0 q c1
  obtain ⟨cf, kf, fi, f, hi, hsl⟩ := hSl j f2
  have hts : ∀ w ∈ kz_TT, w.before args s = true := fun w hw => h8 w (List.mem_cons_of_mem _ hw)
  have hst := (u_facts hfc hkC (u_lays hts c4 f2) hi).1
  have hj2 : j < kz_N k0 := by rw [← c2]; exact f2
  have hslot : cell.slots[f.slot]? = some (qz_tv h (kz_ft k0 j) (h x j)) := by rw [hsl]; exact b6 j hj2
  have hrg := b7 j hj2
  have ht : kz_ft k0 j = 10 + k1 := by simpa using ht
  have e1 : qz_tv h (kz_ft k0 j) (h x j) = qz_cv h (qz_r false k1 (h x j)) := by
    rw [ht]; unfold qz_tv; rw [if_neg (by omega), if_neg (by omega)]; rfl
  have e2 : qz_vo h (qz_r false k1 (h x j)) := by rw [ht] at hrg; exact qz_rgR hrg
  rcases f3 with f3 | ⟨host, f3⟩
  · refine W.getf h1 h2 h7 (hts _ f3) hi hst b1 b3 hslot rfl rfl hca.1 ?_
    exact k r hr hx lsC _ H locs hca.2 hl ⟨r1, by rw [e1], e2, hs⟩ hW hS
  · refine va_Wgetf h1 h2 h7 (va_Nw.use rfl (h9.2.2.1 _ f3)) hi hst b1 b3 hslot rfl rfl hca.1 ?_
    exact k r hr hx lsC _ H locs hca.2 hl ⟨r1, by rw [e1], e2, hs⟩ hW hS
theorem qz_put0 {idx k0 j : Nat} {x v jI : Int} {V : qz_V} {f : qz_H → Option qz_R} (hw : qz_cw k0) (hf : qz_fp Y idx k0 j) (hj : (j : Int) = jI) (hV : qz_vo h V → qz_rg h (kz_ft k0 j) v ∧ qz_cv h V = qz_tv h (kz_ft k0 j) v) (k : ∀ h', qz_J Y G is (pc + 3) ls st h' cs sl (f h')) : qz_J Y G ((.putfield idx, 3) :: is) pc ls (V :: qz_r true k0 x :: st) h cs sl (qz_ck (0 < x) (qz_bn (qz_up h x jI v) f)) := by
  obtain ⟨p, l, e, s, m, args, below, meth, c, D, dA, B0, hc, h0⟩ := G
  intro r hr hx lsC stC H locs hca hl hs hW hS
  obtain ⟨h1, h2, h3, h4, h5, h6, h7, h8, h9⟩ := id hx
  obtain ⟨r0, q0, v0, r1, q1, v1, hs⟩ := hs
  obtain ⟨hpos, hr⟩ := qz_ck_some hr
  have hok := qz_vot v1
  rw [qz_cvr (qz_ok_ne hok)] at q1
  obtain ⟨hrg, hcv⟩ := hV v0
  rw [hcv] at q0
  subst q1
  subst q0
  subst hj
  obtain ⟨q, c1, c2, c3, c4, c5, c6, c7⟩ := hw
  obtain ⟨q', f1, f2, f3⟩ := hf
  cases c1.symm.trans f1
  obtain ⟨⟨cell, b1, b2, b3, b4, b5, b6⟩, b7⟩ := (hW.2.1 x k0 hok).1 c3
  have hK := h9.2.1
  obtain ⟨hSl, hfc, kC, hkC, hkind⟩ := hK.1 k0 q c1
  obtain ⟨cf, kf, fi, f', hi, hsl⟩ := hSl j f2
  have hts : ∀ w ∈ kz_TT, w.before args s = true := fun w hw => h8 w (List.mem_cons_of_mem _ hw)
  have hst := (u_facts hfc hkC (u_lays hts c4 f2) hi).1
  have hj2 : j < kz_N k0 := by rw [← c2]; exact f2
  have hap := va_apart (D := D) (cl := kz_cl) (tys := qz_tys dA) (own := Y.1.cls) (C := q.1) (T := q.2.1) (N := q.2.2) hts c4 (kz_fT k0) c5 c6 hK c1
  rw [c2] at hap
  have hslt : f'.slot < cell.slots.size := by rw [hsl]; exact k2_hasslot (b6 j hj2)
  obtain ⟨n1, n2⟩ := qz_nf (c7 j f2) hrg
  have fin : ∀ H' : Heap, H'[qz_ad h x]? = some (cell.setSlot f'.slot (qz_tv h (kz_ft k0 j) v)) → H'.size = H.size → (∀ q, q ≠ qz_ad h x → H'[q]? = H[q]?) → W p l e Y.2.2.2.2.2 s m args below meth c H' (locs ++ [⟨qz_ad h x, f'.slot⟩]) cs sl (MQ below (qz_Q Y D dA B0 hc h0 r) args s Y.2.2.2.2.2.cells Y.2.2.2.2.2.slots (qz_A B0)) (F0 m (pc + 3) lsC r1) := by
    intro H' e1 e2 e3
    have ex := (qz_up_sm (h := h) (v := v) hpos (Int.natCast_nonneg j)).ex
    refine k (qz_up h x j v) r hr hx lsC _ H' _ hca.2 (ex.lr hl) (ex.sr _ _ hs) ?_ (hS.put e2 e3 (hW.2.2.1 x (qz_ok_pos hok hpos).1 (qz_ok_pos hok hpos).2).1)
    rw [hsl] at e1
    exact qz_W_fld hW hok hpos c3 hj2 hap b1 hrg e1 e2 e3
  rcases f3 with ⟨g1, g2⟩ | ⟨g1, g2, g3, g4⟩
  · have hlay := hts _ (c4 _ (u_in_lay f2))
    unfold u_lay at hlay
    rw [if_neg (by rw [g1]; decide)] at hlay
    have h6' := u_store hfc hkC hkind hlay hi (c5 j f2) n1 n2
    rcases g2 with g2 | ⟨host, g2⟩
    · exact W.putK h1 h2 (f := f') ⟨h7, hts _ g2, ⟨_, _, _, hi⟩, hst⟩ (by rw [b2]; exact h6') b1 (b5 hpos) hslt rfl rfl hca.1 fin
    · exact va_WputK h1 h2 (f := f') h7 (va_Nw.use rfl (h9.2.2.1 _ g2)) hi hst (by rw [b2]; exact h6') b1 (b5 hpos) hslt rfl rfl hca.1 fin
  · have hlay := hts _ (c4 _ (u_in_lay f2))
    unfold u_lay at hlay
    rw [if_pos g1] at hlay
    have hcf : m.cls = cf := by
      obtain ⟨_, _, c', _, _, _, -, -, hf', -, -, -, hown2, -⟩ := Cond.laysFinal_spec hlay
      have e1 : c' = cf := by have := hi.symm.trans hf'; simp at this; exact this.1.symm
      rw [g3] at hown2
      rw [← e1]; exact Option.some.inj (h7.symm.trans hown2)
    have h6' := u_fits hfc hkC hkind (Or.inr hlay) hi (c5 j f2) n1 n2
    exact W.putFinK h1 h2 h7 (hts _ g4) hi hst hcf (h6.trans g2) (by rw [b2]; exact h6') b1 (b5 hpos) hslt rfl rfl hca.1 fin
theorem qz_putI {idx k0 j : Nat} {x v jI : Int} {f : qz_H → Option qz_R} (hw : qz_cw k0) (hf : qz_fp Y idx k0 j) (hj : (j : Int) = jI) (ht : (kz_ft k0 j == 1) = true) (k : ∀ h', qz_J Y G is (pc + 3) ls st h' cs sl (f h')) : qz_J Y G ((.putfield idx, 3) :: is) pc ls (qz_i v :: qz_r true k0 x :: st) h cs sl (qz_ck (0 < x) (qz_bn (qz_up h x jI v) f)) :=
  qz_put0 hw hf hj (fun hv => by have ht : kz_ft k0 j = 1 := by simpa using ht
                                 rw [ht]; exact ⟨hv, rfl⟩) k
theorem qz_putJ {idx k0 j : Nat} {x v jI : Int} {f : qz_H → Option qz_R} (hw : qz_cw k0) (hf : qz_fp Y idx k0 j) (hj : (j : Int) = jI) (ht : (kz_ft k0 j == 2) = true) (k : ∀ h', qz_J Y G is (pc + 3) ls st h' cs sl (f h')) : qz_J Y G ((.putfield idx, 3) :: is) pc ls (qz_j v :: qz_r true k0 x :: st) h cs sl (qz_ck (0 < x) (qz_bn (qz_up h x jI v) f)) :=
  qz_put0 hw hf hj (fun hv => by have ht : kz_ft k0 j = 2 := by simpa using ht
                                 rw [ht]; exact ⟨hv, rfl⟩) k
theorem qz_putR {k1 : Nat} {b : Bool} {idx k0 j : Nat} {x v jI : Int} {f : qz_H → Option qz_R} (hw : qz_cw k0) (hf : qz_fp Y idx k0 j) (hj : (j : Int) = jI) (ht : (kz_ft k0 j == 10 + k1) = true) (k : ∀ h', qz_J Y G is (pc + 3) ls st h' cs sl (f h')) : qz_J Y G ((.putfield idx, 3) :: is) pc ls (qz_r b k1 v :: qz_r true k0 x :: st) h cs sl (qz_ck (0 < x) (qz_bn (qz_up h x jI v) f)) :=
  qz_put0 hw hf hj (fun hv => by have ht : kz_ft k0 j = 10 + k1 := by simpa using ht
                                 rw [ht]
                                 refine ⟨qz_rgR' hv, ?_⟩
                                 unfold qz_tv; rw [if_neg (by omega), if_neg (by omega)]; rfl) k
theorem qz_putZ {idx k0 j : Nat} {x v jI : Int} {f : qz_H → Option qz_R} (hw : qz_cw k0) (hf : qz_fp Y idx k0 j) (hj : (j : Int) = jI) (ht : (kz_ft k0 j == 3) = true) (k : ∀ h', qz_J Y G is (pc + 3) ls st h' cs sl (f h')) : qz_J Y G ((.putfield idx, 3) :: is) pc ls (qz_i v :: qz_r true k0 x :: st) h cs sl (qz_ck (v = 0 ∨ v = 1) (qz_ck (0 < x) (qz_bn (qz_up h x jI v) f))) := by
  have hz : ∀ (hb : v = 0 ∨ v = 1), qz_J Y G ((.putfield idx, 3) :: is) pc ls (qz_i v :: qz_r true k0 x :: st) h cs sl (qz_ck (0 < x) (qz_bn (qz_up h x jI v) f)) := fun hb => qz_put0 hw hf hj (fun hv => by
    have ht : kz_ft k0 j = 3 := by simpa using ht
    rw [ht]; exact ⟨hb, rfl⟩) k
  obtain ⟨p, l, e, s, m, args, below, meth, c, D, dA, B0, hc, h0⟩ := G
  intro r hr hx lsC stC H locs hca hl hs hW hS
  obtain ⟨h1, h2, h3, h4, h5, h6, h7, h8, h9⟩ := id hx
  obtain ⟨hb, hr⟩ := qz_ck_some hr
  exact hz hb r hr hx lsC stC H locs hca hl hs hW hS
def qz_in (h : qz_H) (a i : Int) : Prop := 0 ≤ i ∧ i < h a (-1)
theorem qz_idx {i n : Int} {z : Nat} (h1 : 0 ≤ i) (h2 : i < n) (h3 : n ≤ 2147483647) (hz : n.toNat ≤ z) : ¬ (Int32.ofInt i < 0 ∨ z ≤ (Int32.ofInt i).toNatClampNeg) ∧ (Int32.ofInt i).toNatClampNeg = i.toNat := by
  have h32 : qz_32 i := ⟨by omega, by omega⟩
  have e : (Int32.ofInt i).toNatClampNeg = i.toNat := by
    show (Int32.ofInt i).toInt.toNat = _
    rw [qz_t32 h32]
  refine ⟨?_, e⟩
  rw [e, qz_l0 h32]
  omega
theorem qz_iald {k0 : Nat} {a i : Int} (h40 : decide (40 ≤ k0) = true) (hT : kz_aT k0 = .int) (he : (kz_ae k0 == 1) = true) (k : qz_J Y G is (pc + 1) ls (qz_i (h a i) :: st) h cs sl t) : qz_J Y G ((.iaload, 1) :: is) pc ls (qz_i i :: qz_r true k0 a :: st) h cs sl (qz_ck (0 ≤ i ∧ i < h a (-1)) t) := by
  obtain ⟨p, l, e, s, m, args, below, meth, c, D, dA, B0, hc, h0⟩ := G
  intro r hr hx lsC stC H locs hca hl hs hW hS
  obtain ⟨h1, h2, h3, h4, h5, h6, h7, h8, h9⟩ := id hx
  obtain ⟨r0, q0, v0, r1, q1, v1, hs⟩ := hs
  obtain ⟨⟨g1, g2⟩, hr⟩ := qz_ck_some hr
  have hok := qz_vot v1
  rw [qz_cvr (qz_ok_ne hok)] at q1
  subst q1
  subst q0
  have h40 : 40 ≤ k0 := by simpa using h40
  have he : kz_ae k0 = 1 := by simpa using he
  obtain ⟨⟨cell, b1, b2, b3, b4, b5, b6, b7⟩, b8, b9, b10⟩ := (hW.2.1 a k0 hok).2 h40
  obtain ⟨x1, x2⟩ := qz_idx g1 g2 b9 b5
  have hv := b7 i.toNat (by omega)
  have hg := b10 i.toNat (by omega)
  rw [he, Int.toNat_of_nonneg g1] at hv hg
  rw [hT] at b2
  refine W.iald h1 h2 b1 b2 b3 x1 (by rw [x2]; exact hv) rfl rfl hca.1 ?_
  exact k r hr hx lsC _ H locs hca.2 hl ⟨r1, rfl, qz_rgI (t := 1) (by decide) (by decide) hg, hs⟩ hW hS
theorem qz_lald {k0 : Nat} {a i : Int} (h40 : decide (40 ≤ k0) = true) (hT : kz_aT k0 = .long) (he : (kz_ae k0 == 2) = true) (k : qz_J Y G is (pc + 1) ls (qz_j (h a i) :: st) h cs sl t) : qz_J Y G ((.laload, 1) :: is) pc ls (qz_i i :: qz_r true k0 a :: st) h cs sl (qz_ck (0 ≤ i ∧ i < h a (-1)) t) := by
  obtain ⟨p, l, e, s, m, args, below, meth, c, D, dA, B0, hc, h0⟩ := G
  intro r hr hx lsC stC H locs hca hl hs hW hS
  obtain ⟨h1, h2, h3, h4, h5, h6, h7, h8, h9⟩ := id hx
  obtain ⟨r0, q0, v0, r1, q1, v1, hs⟩ := hs
  obtain ⟨⟨g1, g2⟩, hr⟩ := qz_ck_some hr
  have hok := qz_vot v1
  rw [qz_cvr (qz_ok_ne hok)] at q1
  subst q1
  subst q0
  have h40 : 40 ≤ k0 := by simpa using h40
  have he : kz_ae k0 = 2 := by simpa using he
  obtain ⟨⟨cell, b1, b2, b3, b4, b5, b6, b7⟩, b8, b9, b10⟩ := (hW.2.1 a k0 hok).2 h40
  obtain ⟨x1, x2⟩ := qz_idx g1 g2 b9 b5
  have hv := b7 i.toNat (by omega)
  have hg := b10 i.toNat (by omega)
  rw [he, Int.toNat_of_nonneg g1] at hv hg
  rw [hT] at b2
  refine W.lald h1 h2 b1 b2 b3 x1 (by rw [x2]; exact hv) rfl rfl hca.1 ?_
  exact k r hr hx lsC _ H locs hca.2 hl ⟨r1, rfl, hg, hs⟩ hW hS
theorem qz_cald {k0 : Nat} {a i : Int} (h40 : decide (40 ≤ k0) = true) (hT : kz_aT k0 = .char) (he : (kz_ae k0 == 4) = true) (k : qz_J Y G is (pc + 1) ls (qz_i (h a i) :: st) h cs sl t) : qz_J Y G ((.caload, 1) :: is) pc ls (qz_i i :: qz_r true k0 a :: st) h cs sl (qz_ck (0 ≤ i ∧ i < h a (-1)) t) := by
  obtain ⟨p, l, e, s, m, args, below, meth, c, D, dA, B0, hc, h0⟩ := G
  intro r hr hx lsC stC H locs hca hl hs hW hS
  obtain ⟨h1, h2, h3, h4, h5, h6, h7, h8, h9⟩ := id hx
  obtain ⟨r0, q0, v0, r1, q1, v1, hs⟩ := hs
  obtain ⟨⟨g1, g2⟩, hr⟩ := qz_ck_some hr
  have hok := qz_vot v1
  rw [qz_cvr (qz_ok_ne hok)] at q1
  subst q1
  subst q0
  have h40 : 40 ≤ k0 := by simpa using h40
  have he : kz_ae k0 = 4 := by simpa using he
  obtain ⟨⟨cell, b1, b2, b3, b4, b5, b6, b7⟩, b8, b9, b10⟩ := (hW.2.1 a k0 hok).2 h40
  obtain ⟨x1, x2⟩ := qz_idx g1 g2 b9 b5
  have hv := b7 i.toNat (by omega)
  have hg := b10 i.toNat (by omega)
  rw [he, Int.toNat_of_nonneg g1] at hv hg
  rw [hT] at b2
  refine W.cald h1 h2 b1 b2 b3 x1 (by rw [x2]; exact hv) rfl rfl hca.1 ?_
  exact k r hr hx lsC _ H locs hca.2 hl ⟨r1, rfl, qz_rgI (t := 4) (by decide) (by decide) hg, hs⟩ hW hS
theorem qz_bald {k0 : Nat} {a i : Int} (h40 : decide (40 ≤ k0) = true) (hT : kz_aT k0 = .byte) (he : (kz_ae k0 == 5) = true) (k : qz_J Y G is (pc + 1) ls (qz_i (h a i) :: st) h cs sl t) : qz_J Y G ((.baload, 1) :: is) pc ls (qz_i i :: qz_r true k0 a :: st) h cs sl (qz_ck (0 ≤ i ∧ i < h a (-1)) t) := by
  obtain ⟨p, l, e, s, m, args, below, meth, c, D, dA, B0, hc, h0⟩ := G
  intro r hr hx lsC stC H locs hca hl hs hW hS
  obtain ⟨h1, h2, h3, h4, h5, h6, h7, h8, h9⟩ := id hx
  obtain ⟨r0, q0, v0, r1, q1, v1, hs⟩ := hs
  obtain ⟨⟨g1, g2⟩, hr⟩ := qz_ck_some hr
  have hok := qz_vot v1
  rw [qz_cvr (qz_ok_ne hok)] at q1
  subst q1
  subst q0
  have h40 : 40 ≤ k0 := by simpa using h40
  have he : kz_ae k0 = 5 := by simpa using he
  obtain ⟨⟨cell, b1, b2, b3, b4, b5, b6, b7⟩, b8, b9, b10⟩ := (hW.2.1 a k0 hok).2 h40
  obtain ⟨x1, x2⟩ := qz_idx g1 g2 b9 b5
  have hv := b7 i.toNat (by omega)
  have hg := b10 i.toNat (by omega)
  rw [he, Int.toNat_of_nonneg g1] at hv hg
  rw [hT] at b2
  refine W.bald h1 h2 b1 b2 b3 x1 (by rw [x2]; exact hv) rfl rfl hca.1 ?_
  exact k r hr hx lsC _ H locs hca.2 hl ⟨r1, rfl, qz_rgI (t := 5) (by decide) (by decide) hg, hs⟩ hW hS
theorem qz_zald {k0 : Nat} {a i : Int} (h40 : decide (40 ≤ k0) = true) (hT : kz_aT k0 = .boolean) (he : (kz_ae k0 == 3) = true) (k : qz_J Y G is (pc + 1) ls (qz_i (h a i) :: st) h cs sl t) : qz_J Y G ((.baload, 1) :: is) pc ls (qz_i i :: qz_r true k0 a :: st) h cs sl (qz_ck (0 ≤ i ∧ i < h a (-1)) t) := by
  obtain ⟨p, l, e, s, m, args, below, meth, c, D, dA, B0, hc, h0⟩ := G
  intro r hr hx lsC stC H locs hca hl hs hW hS
  obtain ⟨h1, h2, h3, h4, h5, h6, h7, h8, h9⟩ := id hx
  obtain ⟨r0, q0, v0, r1, q1, v1, hs⟩ := hs
  obtain ⟨⟨g1, g2⟩, hr⟩ := qz_ck_some hr
  have hok := qz_vot v1
  rw [qz_cvr (qz_ok_ne hok)] at q1
  subst q1
  subst q0
  have h40 : 40 ≤ k0 := by simpa using h40
  have he : kz_ae k0 = 3 := by simpa using he
  obtain ⟨⟨cell, b1, b2, b3, b4, b5, b6, b7⟩, b8, b9, b10⟩ := (hW.2.1 a k0 hok).2 h40
  obtain ⟨x1, x2⟩ := qz_idx g1 g2 b9 b5
  have hv := b7 i.toNat (by omega)
  have hg := b10 i.toNat (by omega)
  rw [he, Int.toNat_of_nonneg g1] at hv hg
  rw [hT] at b2
  refine W.zald h1 h2 b1 b2 b3 x1 (by rw [x2]; exact hv) rfl rfl hca.1 ?_
  exact k r hr hx lsC _ H locs hca.2 hl ⟨r1, rfl, qz_rgI (t := 3) (by decide) (by decide) hg, hs⟩ hW hS
theorem qz_aald {k0 k1 : Nat} {C : String} {a i : Int} (h40 : decide (40 ≤ k0) = true) (hT : kz_aT k0 = .object C) (he : (kz_ae k0 == 10 + k1) = true) (k : qz_J Y G is (pc + 1) ls (qz_r false k1 (h a i) :: st) h cs sl t) : qz_J Y G ((.aaload, 1) :: is) pc ls (qz_i i :: qz_r true k0 a :: st) h cs sl (qz_ck (0 ≤ i ∧ i < h a (-1)) t) := by
  obtain ⟨p, l, e, s, m, args, below, meth, c, D, dA, B0, hc, h0⟩ := G
  intro r hr hx lsC stC H locs hca hl hs hW hS
  obtain ⟨h1, h2, h3, h4, h5, h6, h7, h8, h9⟩ := id hx
  obtain ⟨r0, q0, v0, r1, q1, v1, hs⟩ := hs
  obtain ⟨⟨g1, g2⟩, hr⟩ := qz_ck_some hr
  have hok := qz_vot v1
  rw [qz_cvr (qz_ok_ne hok)] at q1
  subst q1
  subst q0
  have h40 : 40 ≤ k0 := by simpa using h40
  have he : kz_ae k0 = 10 + k1 := by simpa using he
  obtain ⟨⟨cell, b1, b2, b3, b4, b5, b6, b7⟩, b8, b9, b10⟩ := (hW.2.1 a k0 hok).2 h40
  obtain ⟨x1, x2⟩ := qz_idx g1 g2 b9 b5
  have hv := b7 i.toNat (by omega)
  have hg := b10 i.toNat (by omega)
  rw [he, Int.toNat_of_nonneg g1] at hv hg
  have e1 : qz_tv h (10 + k1) (h a i) = qz_cv h (qz_r false k1 (h a i)) := by
    unfold qz_tv; rw [if_neg (by omega), if_neg (by omega)]; rfl
  rw [hT] at b2
  refine W.aald h1 h2 b1 b2 rfl b3 x1 (by rw [x2]; exact hv) rfl rfl hca.1 ?_
  exact k r hr hx lsC _ H locs hca.2 hl ⟨r1, by rw [e1], qz_rgR hg, hs⟩ hW hS
def qz_nc (v : Int) : Int := (Int32.ofInt v).toUInt32.toUInt16.toUInt32.toInt32.toInt
def qz_nb (v : Int) : Int := (Int32.ofInt v).toInt8.toInt32.toInt
def qz_nz (v : Int) : Int := (Int32.ofInt v &&& 1).toInt
theorem qz_nb_rg (v : Int) : -128 ≤ qz_nb v ∧ qz_nb v ≤ 127 := by
  unfold qz_nb
  rw [Int8.toInt_toInt32]
  have h1 := (Int32.ofInt v).toInt8.le_toInt
  have h2 := (Int32.ofInt v).toInt8.toInt_lt
  omega
theorem qz_nc_eq (v : Int) : qz_nc v = v % 65536 := by
  unfold qz_nc
  have h1 : (Int32.ofInt v).toUInt32.toUInt16.toUInt32.toInt32.toBitVec.toNat = (v % 4294967296).toNat % 65536 := by
    rw [UInt32.toBitVec_toInt32, UInt16.toBitVec_toUInt32, UInt32.toBitVec_toUInt16, Int32.toBitVec_toUInt32, Int32.toBitVec_ofInt, BitVec.toNat_setWidth, BitVec.toNat_setWidth, BitVec.toNat_ofInt]
    have e : ∀ n : Nat, n % 2 ^ 16 % 2 ^ 32 = n % 65536 := fun n => by omega
    exact e _
  rw [← Int32.toInt_toBitVec, BitVec.toInt_eq_toNat_of_lt (by rw [h1]; omega), h1]
  omega
theorem qz_nc_rg (v : Int) : 0 ≤ qz_nc v ∧ qz_nc v ≤ 65535 := by
  rw [qz_nc_eq]
  omega
theorem qz_nz_rg (v : Int) : qz_nz v = 0 ∨ qz_nz v = 1 := by
  unfold qz_nz
  generalize Int32.ofInt v = a
  have h2 : (a &&& 1).toBitVec.toNat = a.toBitVec.toNat % 2 := by
    rw [Int32.toBitVec_and, BitVec.toNat_and]
    exact Nat.and_one_is_mod _
  have h3 : (a &&& 1).toInt = ((a &&& 1).toBitVec.toNat : Int) := by
    rw [← Int32.toInt_toBitVec]
    exact BitVec.toInt_eq_toNat_of_lt (by rw [h2]; omega)
  rw [h3, h2]
  omega
theorem qz_iast {k0 : Nat} {a i v : Int} {f : qz_H → Option qz_R} (h40 : decide (40 ≤ k0) = true) (hT : kz_aT k0 = .int) (he : (kz_ae k0 == 1) = true) (k : ∀ h', qz_J Y G is (pc + 1) ls st h' cs sl (f h')) : qz_J Y G ((.iastore, 1) :: is) pc ls (qz_i v :: qz_i i :: qz_r true k0 a :: st) h cs sl (qz_ck (0 < a ∧ 0 ≤ i ∧ i < h a (-1)) (qz_bn (qz_up h a i v) f)) := by
  obtain ⟨p, l, e, s, m, args, below, meth, c, D, dA, B0, hc, h0⟩ := G
  intro r hr hx lsC stC H locs hca hl hs hW hS
  obtain ⟨h1, h2, h3, h4, h5, h6, h7, h8, h9⟩ := id hx
  obtain ⟨rv, qv, v0, r0, q0, vi, r1, q1, v1, hs⟩ := hs
  obtain ⟨⟨hpos, g1, g2⟩, hr⟩ := qz_ck_some hr
  have hok := qz_vot v1
  rw [qz_cvr (qz_ok_ne hok)] at q1
  subst q1
  subst q0
  subst qv
  have h40 : 40 ≤ k0 := by simpa using h40
  have he : kz_ae k0 = 1 := by simpa using he
  obtain ⟨⟨cell, b1, b2, b3, b4, b5, b6, b7⟩, b8, b9, b10⟩ := (hW.2.1 a k0 hok).2 h40
  obtain ⟨x1, x2⟩ := qz_idx g1 g2 b9 b5
  rw [hT] at b2
  refine W.iast h1 h2 b1 b2 b3 x1 rfl rfl hca.1 fun H' e1 e2 e3 => ?_
  have ex := (qz_up_sm (h := h) (v := v) hpos g1).ex
  rw [x2] at e1 ⊢
  refine k _ r hr hx lsC _ H' _ hca.2 (ex.lr hl) (ex.sr _ _ hs) ?_ (hS.put e2 e3 (hW.2.2.1 a (qz_ok_pos hok hpos).1 (qz_ok_pos hok hpos).2).1)
  refine qz_W_elt hW hok hpos h40 g1 g2 b1 (by rw [he]; exact v0) ?_ e2 e3
  rw [he, e1]
  show some (cell.setSlot i.toNat _) = some (cell.setSlot i.toNat _)
  rw [show qz_tv h 1 (v) = Value.int (Int32.ofInt v) from ?_]
  rfl
theorem qz_last {k0 : Nat} {a i v : Int} {f : qz_H → Option qz_R} (h40 : decide (40 ≤ k0) = true) (hT : kz_aT k0 = .long) (he : (kz_ae k0 == 2) = true) (k : ∀ h', qz_J Y G is (pc + 1) ls st h' cs sl (f h')) : qz_J Y G ((.lastore, 1) :: is) pc ls (qz_j v :: qz_i i :: qz_r true k0 a :: st) h cs sl (qz_ck (0 < a ∧ 0 ≤ i ∧ i < h a (-1)) (qz_bn (qz_up h a i v) f)) := by
  obtain ⟨p, l, e, s, m, args, below, meth, c, D, dA, B0, hc, h0⟩ := G
  intro r hr hx lsC stC H locs hca hl hs hW hS
  obtain ⟨h1, h2, h3, h4, h5, h6, h7, h8, h9⟩ := id hx
  obtain ⟨rv, qv, v0, r0, q0, vi, r1, q1, v1, hs⟩ := hs
  obtain ⟨⟨hpos, g1, g2⟩, hr⟩ := qz_ck_some hr
  have hok := qz_vot v1
  rw [qz_cvr (qz_ok_ne hok)] at q1
  subst q1
  subst q0
  subst qv
  have h40 : 40 ≤ k0 := by simpa using h40
  have he : kz_ae k0 = 2 := by simpa using he
  obtain ⟨⟨cell, b1, b2, b3, b4, b5, b6, b7⟩, b8, b9, b10⟩ := (hW.2.1 a k0 hok).2 h40
  obtain ⟨x1, x2⟩ := qz_idx g1 g2 b9 b5
  rw [hT] at b2
  refine W.last h1 h2 b1 b2 b3 x1 rfl rfl hca.1 fun H' e1 e2 e3 => ?_
  have ex := (qz_up_sm (h := h) (v := v) hpos g1).ex
  rw [x2] at e1 ⊢
  refine k _ r hr hx lsC _ H' _ hca.2 (ex.lr hl) (ex.sr _ _ hs) ?_ (hS.put e2 e3 (hW.2.2.1 a (qz_ok_pos hok hpos).1 (qz_ok_pos hok hpos).2).1)
  refine qz_W_elt hW hok hpos h40 g1 g2 b1 (by rw [he]; exact v0) ?_ e2 e3
  rw [he, e1]
  show some (cell.setSlot i.toNat _) = some (cell.setSlot i.toNat _)
  rw [show qz_tv h 2 (v) = Value.long (Int64.ofInt v) from ?_]
  rfl
theorem qz_cast {k0 : Nat} {a i v : Int} {f : qz_H → Option qz_R} (h40 : decide (40 ≤ k0) = true) (hT : kz_aT k0 = .char) (he : (kz_ae k0 == 4) = true) (k : ∀ h', qz_J Y G is (pc + 1) ls st h' cs sl (f h')) : qz_J Y G ((.castore, 1) :: is) pc ls (qz_i v :: qz_i i :: qz_r true k0 a :: st) h cs sl (qz_ck (0 < a ∧ 0 ≤ i ∧ i < h a (-1)) (qz_bn (qz_up h a i (qz_nc v)) f)) := by
  obtain ⟨p, l, e, s, m, args, below, meth, c, D, dA, B0, hc, h0⟩ := G
  intro r hr hx lsC stC H locs hca hl hs hW hS
  obtain ⟨h1, h2, h3, h4, h5, h6, h7, h8, h9⟩ := id hx
  obtain ⟨rv, qv, v0, r0, q0, vi, r1, q1, v1, hs⟩ := hs
  obtain ⟨⟨hpos, g1, g2⟩, hr⟩ := qz_ck_some hr
  have hok := qz_vot v1
  rw [qz_cvr (qz_ok_ne hok)] at q1
  subst q1
  subst q0
  subst qv
  have h40 : 40 ≤ k0 := by simpa using h40
  have he : kz_ae k0 = 4 := by simpa using he
  obtain ⟨⟨cell, b1, b2, b3, b4, b5, b6, b7⟩, b8, b9, b10⟩ := (hW.2.1 a k0 hok).2 h40
  obtain ⟨x1, x2⟩ := qz_idx g1 g2 b9 b5
  rw [hT] at b2
  refine W.cast h1 h2 b1 b2 b3 x1 rfl rfl hca.1 fun H' e1 e2 e3 => ?_
  have ex := (qz_up_sm (h := h) (v := qz_nc v) hpos g1).ex
  rw [x2] at e1 ⊢
  refine k _ r hr hx lsC _ H' _ hca.2 (ex.lr hl) (ex.sr _ _ hs) ?_ (hS.put e2 e3 (hW.2.2.1 a (qz_ok_pos hok hpos).1 (qz_ok_pos hok hpos).2).1)
  refine qz_W_elt hW hok hpos h40 g1 g2 b1 (by rw [he]; exact qz_nc_rg v) ?_ e2 e3
  rw [he, e1]
  show some (cell.setSlot i.toNat _) = some (cell.setSlot i.toNat _)
  rw [show qz_tv h 4 (qz_nc v) = narrow .char (.int (Int32.ofInt v)) from ?_]
  show Value.int (Int32.ofInt (qz_nc v)) = _
  unfold qz_nc
  rw [Int32.ofInt_toInt]
  rfl
theorem qz_bast {k0 : Nat} {a i v : Int} {f : qz_H → Option qz_R} (h40 : decide (40 ≤ k0) = true) (hT : kz_aT k0 = .byte) (he : (kz_ae k0 == 5) = true) (k : ∀ h', qz_J Y G is (pc + 1) ls st h' cs sl (f h')) : qz_J Y G ((.bastore, 1) :: is) pc ls (qz_i v :: qz_i i :: qz_r true k0 a :: st) h cs sl (qz_ck (0 < a ∧ 0 ≤ i ∧ i < h a (-1)) (qz_bn (qz_up h a i (qz_nb v)) f)) := by
  obtain ⟨p, l, e, s, m, args, below, meth, c, D, dA, B0, hc, h0⟩ := G
  intro r hr hx lsC stC H locs hca hl hs hW hS
  obtain ⟨h1, h2, h3, h4, h5, h6, h7, h8, h9⟩ := id hx
  obtain ⟨rv, qv, v0, r0, q0, vi, r1, q1, v1, hs⟩ := hs
  obtain ⟨⟨hpos, g1, g2⟩, hr⟩ := qz_ck_some hr
  have hok := qz_vot v1
  rw [qz_cvr (qz_ok_ne hok)] at q1
  subst q1
  subst q0
  subst qv
  have h40 : 40 ≤ k0 := by simpa using h40
  have he : kz_ae k0 = 5 := by simpa using he
  obtain ⟨⟨cell, b1, b2, b3, b4, b5, b6, b7⟩, b8, b9, b10⟩ := (hW.2.1 a k0 hok).2 h40
  obtain ⟨x1, x2⟩ := qz_idx g1 g2 b9 b5
  rw [hT] at b2
  refine W.bast h1 h2 b1 b2 b3 x1 rfl rfl hca.1 fun H' e1 e2 e3 => ?_
  have ex := (qz_up_sm (h := h) (v := qz_nb v) hpos g1).ex
  rw [x2] at e1 ⊢
  refine k _ r hr hx lsC _ H' _ hca.2 (ex.lr hl) (ex.sr _ _ hs) ?_ (hS.put e2 e3 (hW.2.2.1 a (qz_ok_pos hok hpos).1 (qz_ok_pos hok hpos).2).1)
  refine qz_W_elt hW hok hpos h40 g1 g2 b1 (by rw [he]; exact qz_nb_rg v) ?_ e2 e3
  rw [he, e1]
  show some (cell.setSlot i.toNat _) = some (cell.setSlot i.toNat _)
  rw [show qz_tv h 5 (qz_nb v) = narrow .byte (.int (Int32.ofInt v)) from ?_]
  show Value.int (Int32.ofInt (qz_nb v)) = _
  unfold qz_nb
  rw [Int32.ofInt_toInt]
  rfl
theorem qz_zast {k0 : Nat} {a i v : Int} {f : qz_H → Option qz_R} (h40 : decide (40 ≤ k0) = true) (hT : kz_aT k0 = .boolean) (he : (kz_ae k0 == 3) = true) (k : ∀ h', qz_J Y G is (pc + 1) ls st h' cs sl (f h')) : qz_J Y G ((.bastore, 1) :: is) pc ls (qz_i v :: qz_i i :: qz_r true k0 a :: st) h cs sl (qz_ck (0 < a ∧ 0 ≤ i ∧ i < h a (-1)) (qz_bn (qz_up h a i (qz_nz v)) f)) := by
  obtain ⟨p, l, e, s, m, args, below, meth, c, D, dA, B0, hc, h0⟩ := G
  intro r hr hx lsC stC H locs hca hl hs hW hS
  obtain ⟨h1, h2, h3, h4, h5, h6, h7, h8, h9⟩ := id hx
  obtain ⟨rv, qv, v0, r0, q0, vi, r1, q1, v1, hs⟩ := hs
  obtain ⟨⟨hpos, g1, g2⟩, hr⟩ := qz_ck_some hr
  have hok := qz_vot v1
  rw [qz_cvr (qz_ok_ne hok)] at q1
  subst q1
  subst q0
  subst qv
  have h40 : 40 ≤ k0 := by simpa using h40
  have he : kz_ae k0 = 3 := by simpa using he
  obtain ⟨⟨cell, b1, b2, b3, b4, b5, b6, b7⟩, b8, b9, b10⟩ := (hW.2.1 a k0 hok).2 h40
  obtain ⟨x1, x2⟩ := qz_idx g1 g2 b9 b5
  rw [hT] at b2
  refine W.zast h1 h2 b1 b2 b3 x1 rfl rfl hca.1 fun H' e1 e2 e3 => ?_
  have ex := (qz_up_sm (h := h) (v := qz_nz v) hpos g1).ex
  rw [x2] at e1 ⊢
  refine k _ r hr hx lsC _ H' _ hca.2 (ex.lr hl) (ex.sr _ _ hs) ?_ (hS.put e2 e3 (hW.2.2.1 a (qz_ok_pos hok hpos).1 (qz_ok_pos hok hpos).2).1)
  refine qz_W_elt hW hok hpos h40 g1 g2 b1 (by rw [he]; exact qz_nz_rg v) ?_ e2 e3
  rw [he, e1]
  show some (cell.setSlot i.toNat _) = some (cell.setSlot i.toNat _)
  rw [show qz_tv h 3 (qz_nz v) = narrow .boolean (.int (Int32.ofInt v)) from ?_]
  show Value.int (Int32.ofInt (qz_nz v)) = _
  unfold qz_nz
  rw [Int32.ofInt_toInt]
  rfl
end QR
end
section
theorem qz_W.moved {D : va_G} {dA : Nat → ClassId} {B0 : Nat} {hc h0 h : qz_H} {u U : State} {H : Heap} (hvm : u.vm.Alike U.vm) (hW : qz_W D dA B0 hc h0 u h H) : qz_W D dA B0 hc h0 U h H := by
  obtain ⟨w1, w2, w3⟩ := hW
  refine ⟨w1, fun x k hk => ⟨(w2 x k hk).1, fun hk40 => ?_⟩, w3⟩
  obtain ⟨⟨cell, b1, b2, b3⟩, b4⟩ := (w2 x k hk).2 hk40
  exact ⟨⟨cell, b1, State.isArrayOf_alike hvm b2, b3⟩, b4⟩
theorem qz_ex.rf (h : qz_H) : qz_ex h h := fun _ _ hk => ⟨hk, rfl⟩
theorem qz_ex.tr {h h' h'' : qz_H} (a : qz_ex h h') (b : qz_ex h' h'') : qz_ex h h'' := fun k x hk => ⟨(b k x (a k x hk).1).1, (b k x (a k x hk).1).2.trans (a k x hk).2⟩
theorem qz_W.re {D : va_G} {dA : Nat → ClassId} {B0 : Nat} {hc h0 h1 h : qz_H} {U : State} {H : Heap} (hW : qz_W D dA B0 hc h0 U h H) (he : qz_ex h1 h) : qz_W D dA B0 hc h1 U h H := by
  obtain ⟨w1, w2, w3, w4, w5, w6, w7⟩ := hW
  exact ⟨w1, w2, w3, w4, w5, w6, he⟩
def qz_nst (w : Cond) : Bool := match w with
  | .fieldLinkNest .. => true
  | .methodLinkNest .. => true
  | _ => false
theorem qz_nst_warm {w : Cond} (hw : qz_nst w = true) {s U : State} (hW : s.WarmedH U.vm) (h : va_Nw w s) : va_Nw w U := by
  cases w with
  | fieldLinkNest => exact va_Nw.warmF hW h
  | methodLinkNest => exact va_Nw.warmM hW h
  | _ => cases hw
theorem kz_NTok : ∀ w ∈ kz_NT, qz_nst w = true := fun w hw => (List.mem_filter.mp hw).2
theorem qz_nst_tab {w : Cond} (hw : qz_nst w = true) : w.onTables = true := by
  cases w with
  | fieldLinkNest => rfl
  | methodLinkNest => rfl
  | _ => cases hw
theorem qz_E_at {D : va_G} {dA : Nat → ClassId} {B0 : Nat} {hc : qz_H} {s U : State} {H : Heap} {locs : List Loc} (h9 : qz_E D dA B0 hc s) (hS : va_S (qz_A B0) s.heap H locs) (hU : U.heap = H) (hW : s.WarmedH U.vm) : qz_E D dA B0 hc U := by
  obtain ⟨e1, e2, e3, e4, e5, e6⟩ := h9
  refine ⟨by rw [hU]; exact Nat.le_trans e1 hS.1, va_K.moved hW.alike e2, fun w hw => qz_nst_warm (kz_NTok w hw) hW (e3 w hw), fun q hq => ?_, fun q hq => vk_R.warm hW (e5 q hq), e6⟩
  rw [hU]
  exact (va_Z.moved hW.alike (e4 q hq)).kept fun a h1 h2 => hS.2.1 a h1 h2
theorem qz_sr_app {h : qz_H} : ∀ (a b : List qz_V) (s : List Value), qz_sr h (a ++ b) s → ∃ r, s = a.map (qz_cv h) ++ r ∧ (∀ v ∈ a, qz_vo h v) ∧ qz_sr h b r
  | [], _, s, hs => ⟨s, rfl, (fun _ q => by cases q), hs⟩
  | v :: a, b, s, hs => by
    obtain ⟨r, h1, h2, h3⟩ := hs
    obtain ⟨r2, g1, g2, g3⟩ := qz_sr_app a b r h3
    refine ⟨r2, by rw [h1, g1]; rfl, fun w hw => ?_, g3⟩
    rcases List.mem_cons.mp hw with q | q
    · rw [q]; exact h2
    · exact g2 w q
def qz_sz : List qz_V → Nat
  | [] => 0
  | v :: r => (if qz_lg v = true then 2 else 1) + qz_sz r
theorem qz_sz_ok {h : qz_H} : ∀ (st : List qz_V) (s : List Value), qz_sr h st s → (s.map fun v => v.category).sum ≤ qz_sz st
  | [], _, hs => by rw [show _ = [] from hs]; exact Nat.le_refl _
  | v :: st, _, ⟨r, h1, h2, h3⟩ => by
    have ih := qz_sz_ok st r h3
    rw [h1, List.map_cons, List.sum_cons]
    show (qz_cv h v).category + _ ≤ (if qz_lg v = true then 2 else 1) + qz_sz st
    by_cases hv : qz_lg v = true
    · rw [if_pos hv]
      rcases lv_cat (qz_cv h v) with q | q <;> omega
    · rw [if_neg hv]
      have := qz_catL h (v := v) (by simpa using hv)
      rcases lv_cat (qz_cv h v) with q | q <;> omega
/-- what a method's rows say; what a place of call says -/
def qz_mw (Y2 : qz_Y) (n : Nat) : Prop := Cond.code Y2.1 Y2.2.1 Y2.2.2.1 Y2.2.2.2.1 ∈ kz_TT ∧ Cond.initialized Y2.1.cls ∈ kz_TT ∧ (Y2.1.cls ≠ "java/lang/invoke/MethodHandle" ∧ Y2.1.cls ≠ "java/lang/invoke/VarHandle" ∧ (parseMethodDescriptor Y2.1.desc).map (fun d => d.parameters.length) = some n) ∧ plainName Y2.1.cls = true
def qz_vw (Y2 : qz_Y) : Prop := Cond.instanceMethod Y2.1 ∈ kz_TT ∧ Cond.selects Y2.1.cls Y2.1 Y2.1 ∈ kz_TT
def qz_ln (own : String) (idx : Nat) (Y2 : qz_Y) : Prop := Cond.methodLink own idx Y2.1 ∈ kz_TT ∨ ∃ host, Cond.methodLinkNest own idx Y2.1 host ∈ kz_NT
def qz_rm (Y Y2 : qz_Y) (cs sl : Nat) : Bool := decide (Y2.2.2.2.2.2.frames + 1 ≤ Y.2.2.2.2.2.frames) && decide (8 + (Y2.2.2.1 + 11) + Y2.2.2.2.2.2.locals ≤ Y.2.2.2.2.2.locals) && decide (cs + Y2.2.2.2.2.2.cells ≤ Y.2.2.2.2.2.cells) && decide (sl + Y2.2.2.2.2.2.slots ≤ Y.2.2.2.2.2.slots)
theorem qz_rm_ok {Y Y2 : qz_Y} {cs sl : Nat} (h : qz_rm Y Y2 cs sl = true) : (Y2.2.2.2.2.2.frames + 1 ≤ Y.2.2.2.2.2.frames ∧ 8 + (Y2.2.2.1 + 11) + Y2.2.2.2.2.2.locals ≤ Y.2.2.2.2.2.locals) ∧ cs + Y2.2.2.2.2.2.cells ≤ Y.2.2.2.2.2.cells ∧ sl + Y2.2.2.2.2.2.slots ≤ Y.2.2.2.2.2.slots := by
  simp only [qz_rm, Bool.and_eq_true, decide_eq_true_eq] at h
  exact ⟨⟨h.1.1.1, h.1.1.2⟩, h.1.2, h.2⟩
theorem qz_good {Y Y2 : qz_Y} (hc : Cond.code Y2.1 Y2.2.1 Y2.2.2.1 Y2.2.2.2.1 ∈ kz_TT) : GoodIn (qz_ws Y) (qz_ws Y2) := by
  intro w hw
  rcases List.mem_cons.mp hw with q | q
  · rw [q]; exact ⟨List.mem_cons_of_mem _ hc, kz_TTok _ hc⟩
  · exact ⟨List.mem_cons_of_mem _ q, kz_TTok _ q⟩
theorem qz_blind {D : va_G} {dA : Nat → ClassId} {B0 : Nat} {hc : qz_H} {vs : List qz_V} {h : qz_H} : FrameBlind (qz_P D dA B0 hc vs h) := by
  intro a U g mk ⟨q1, q2, q3, q4⟩
  refine ⟨q1, q2, qz_W.moved (u := U) (U := U.calling g mk a) (Vm.Alike.refl U.vm) q3, ?_⟩
  obtain ⟨e1, e2, e3, e4, e5, e6⟩ := q4
  exact ⟨e1, va_K.moved (u := U) (U := U.calling g mk a) (Vm.Alike.refl U.vm) e2, fun w hw => va_Nw.same (u := U) (U := U.calling g mk a) (qz_nst_tab (kz_NTok w hw)) rfl (e3 w hw), fun q hq => va_Z.moved (u := U) (U := U.calling g mk a) (Vm.Alike.refl U.vm) (e4 q hq), fun q hq => vk_R.same (u := U) (U := U.calling g mk a) rfl (e5 q hq), e6⟩
section QC
variable {p : Program} {l : Launch} {e : Env} {R : Room} {s : State} {m : MethodId} {args : Array Value} {below : List Frame} {meth : Method} {c : Code} {H : Heap} {locs : List Loc} {cs sl mc ms : Nat} {Q : State → Prop}
theorem qz_after {Y2 : qz_Y} {D : va_G} {dA : Nat → ClassId} {B0 : Nat} {hc h0 h : qz_H} {r2 : qz_R} {a : Array Value} {pc : Nat} {lsC : Array Slot} {stk rest : List Value} (hrun : va_Run p l e R s m args below meth c H locs cs sl mc ms (F0 m pc lsC stk) rest (qz_Q Y2 D dA B0 hc h r2 a) (qz_A B0)) (hW : qz_W D dA B0 hc h0 s h H) (hS : va_S (qz_A B0) s.heap H locs)
    (kk : ∀ (H1 : Heap) (locs1 : List Loc), qz_W D dA B0 hc h0 s r2.2 H1 → qz_ex h r2.2 → (Y2.2.2.2.2.1 ≠ 0 → qz_rg r2.2 Y2.2.2.2.2.1 r2.1) → va_S (qz_A B0) s.heap H1 locs1 → W p l e R s m args below meth c H1 locs1 (cs + mc) (sl + ms) Q (F0 m (pc + 3) lsC ((qz_rv Y2 r2).toList ++ rest))) : W p l e R s m args below meth c H locs cs sl Q (F0 m pc lsC stk) := by
  intro T hT X
  obtain ⟨v, st₀, t, T', L, g0, X', hL, e1, e2, ⟨⟨hv, hw, hg⟩, hz, hk⟩, stp⟩ := hrun T hT X
  cases hv
  rw [g0] at hz hk
  have hwx := hw.2.2.2.2.2.2
  have hal : s.vm.Alike t.vm := by rw [← e2]; exact X'.warmed.alike
  obtain ⟨t2, a1, b1⟩ := kk T'.heap (locs ++ L) (by rw [e1]; exact (hw.moved hal.symm).re (hW.2.2.2.2.2.2.tr hwx)) hwx hg
    ⟨Nat.le_trans hS.1 (by rw [e1]; exact hz), fun q h1 h2 => by rw [e1, hk q (Nat.lt_of_lt_of_le h1 hS.1) h2]; exact hS.2.1 q h1 h2, fun q hq => by
      rcases List.mem_append.mp hq with h | h
      · exact hS.2.2 q h
      · exact hL q h⟩ T' rfl X'
  exact ⟨t2, stp t2 a1, b1⟩
end QC
section QD
variable {Y Y2 : qz_Y} {G : qz_G} {is isT : List (Instr × Nat)} {pc T : Nat} {ls st : List qz_V} {h : qz_H} {cs sl : Nat} {t t1 t2 : Option qz_R}
theorem qz_bc_some {o : Option qz_R} {f : Int → qz_H → Option qz_R} {r : qz_R} (h : qz_bc o f = some r) : ∃ q, o = some q ∧ f q.1 q.2 = some r := by
  cases o with
  | none => cases h
  | some q => exact ⟨q, rfl, h⟩

theorem qz_invvV {idx n : Nat} {k0 : Nat} {x : Int} (as : List qz_V) {stk : List qz_V} {f : Int → qz_H → Option qz_R} (hst : stk = as.reverse ++ qz_r true k0 x :: st) (hm : qz_C Y2 (qz_r true k0 x :: as) h t) (hw : qz_mw Y2 n) (hv : qz_vw Y2) (hk0 : ∃ q : vw_C, kz_cl[k0]? = some q ∧ Y2.1.cls = q.1 ∧ k0 < 40) (hn : ((as.length == n) && (qz_sz st).ble 8) = true) (hrm : qz_rm Y Y2 cs sl = true) (hln : qz_ln Y.1.cls idx Y2) (hR : (Y2.2.2.2.2.1 == 0) = true) (k : ∀ r h', qz_J Y G is (pc + 3) ls st h' (cs + Y2.2.2.2.2.2.cells) (sl + Y2.2.2.2.2.2.slots) (f r h')) : qz_J Y G ((.invokevirtual idx, 3) :: is) pc ls stk h cs sl (qz_bc t f) := by
  obtain ⟨p, l, e, s, m, args, below, meth, c, D, dA, B0, hc, h0⟩ := G
  intro r hr hx lsC stC H locs hca hl hs hW hS
  obtain ⟨h1, h2, h3, h4, h5, h6, h7, h8, h9⟩ := id hx
  subst hst
  obtain ⟨r1, q1, v1, hs2⟩ := qz_sr_app _ _ _ hs
  clear hs
  obtain ⟨r2, q2, v2, hs⟩ := hs2
  have hok := qz_vot v2
  rw [qz_cvr (qz_ok_ne hok)] at q2
  subst q2
  subst q1
  obtain ⟨q, qe, q2⟩ := qz_bc_some hr
  obtain ⟨m1, m2, m3, m4⟩ := hw
  obtain ⟨⟨rm1, rm2⟩, rm3, rm4⟩ := qz_rm_ok hrm
  simp only [Bool.and_eq_true, beq_iff_eq] at hn
  have hroom : 2 * (F0 m pc lsC ([] : List Value)).monitorRoom + (r2.map fun v => v.category).sum ≤ 8 := lv_room (Nat.le_trans (qz_sz_ok _ _ hs) (Nat.le_of_ble_eq_true hn.2))
  have hsize : lsC.size = Y.2.2.1 := by obtain ⟨lv, g1, -⟩ := hl; exact g1.1
  have hvo : ∀ v ∈ as, qz_vo h v := fun v hv => v1 v (List.mem_reverse.mpr hv)
  have hPc : ∀ U : State, U.heap = H → s.WarmedH U.vm → qz_P D dA B0 hc (qz_r true k0 x :: as) h (.ref (qz_ad h x) :: as.map (qz_cv h)).toArray U := by
    intro U hU hWm
    refine ⟨by rw [List.map_cons, qz_cvr (qz_ok_ne hok)], ?_, ?_, qz_E_at h9 hS hU hWm⟩
    · intro v hv
      rcases List.mem_cons.mp hv with z | z
      · rw [z]; exact v2
      · exact hvo v z
    · rw [hU]
      exact (hW.moved hWm.alike).re (qz_ex.rf h)
  have hM := hm q qe l D dA B0 hc
  have hfix : CallFix p m c Y.2.1 Y.2.2.1 s args (qz_ws Y) Y.1.cls := ⟨h1, h2, h3, h7, h8⟩
  have htt : ∀ w ∈ kz_TT, w.before args s = true := fun w hw => h8 w (List.mem_cons_of_mem _ hw)
  have hlen : (as.map (qz_cv h)).length = n := by rw [List.length_map]; exact hn.1
  obtain ⟨qc, k1', k2', k3'⟩ := hk0
  obtain ⟨⟨cell, b1, b2, b3, b4, -⟩, -⟩ := (hW.2.1 x k0 hok).1 k3'
  have hcls := (h9.2.1.1 k0 qc k1').2.1
  have hpre : PreV s H Y2.1.cls (qz_ad h x) (qz_P D dA B0 hc (qz_r true k0 x :: as) h) (as.map (qz_cv h)) := ⟨qz_blind, ⟨cell, b1, b4, by rw [b2, k2']; exact hcls⟩, hPc⟩
  have hstk : as.reverse.map (qz_cv h) = (as.map (qz_cv h)).reverse := List.map_reverse
  rw [hstk]
  have fin : ∀ (H1 : Heap) (locs1 : List Loc), qz_W D dA B0 hc h0 s q.2 H1 → qz_ex h q.2 → (Y2.2.2.2.2.1 ≠ 0 → qz_rg q.2 Y2.2.2.2.2.1 q.1) → va_S (qz_A B0) s.heap H1 locs1 → W p l e Y.2.2.2.2.2 s m args below meth c H1 locs1 (cs + Y2.2.2.2.2.2.cells) (sl + Y2.2.2.2.2.2.slots) (MQ below (qz_Q Y D dA B0 hc h0 r) args s Y.2.2.2.2.2.cells Y.2.2.2.2.2.slots (qz_A B0)) (F0 m (pc + 3) lsC ((qz_rv Y2 q).toList ++ r2)) := by
    intro H1 locs1 w wx wr wS
    have e0 : Y2.2.2.2.2.1 = 0 := by simpa using hR
    have e1 : qz_rv Y2 q = none := by unfold qz_rv; rw [if_pos e0]
    rw [e1]
    exact k q.1 q.2 r q2 hx lsC _ H1 locs1 hca.2 (wx.lr hl) (wx.sr _ _ hs) w wS
  rcases hln with g | ⟨host, g⟩
  · exact qz_after (va_runV (bytes := Y2.2.1) (maxL := Y2.2.2.1) (ret := Y2.2.2.2.1) (C := Y2.1.cls) (b := qz_ad h x) (As := as.map (qz_cv h)) (rest := r2) hfix hM ⟨callB_of n h8 (qz_good m1) rfl rfl rfl (htt _ m2) (htt _ g) ⟨m3.1, m3.2.1, m3.2.2⟩ ⟨rm1, rm2⟩, htt _ hv.1, htt _ hv.2⟩ hpre rfl hlen hsize rfl hroom hca.1 ⟨rm3, rm4⟩) hW hS fin
  · exact qz_after (va_runVN (bytes := Y2.2.1) (maxL := Y2.2.2.1) (ret := Y2.2.2.2.1) (host := host) (C := Y2.1.cls) (b := qz_ad h x) (As := as.map (qz_cv h)) (rest := r2) hfix hM ⟨va_cnB n h8 (qz_good m1) rfl rfl rfl (h9.2.2.1 _ g) (htt _ m2) ⟨m3.1, m3.2.1, m3.2.2⟩ ⟨rm1, rm2⟩, htt _ hv.1, htt _ hv.2⟩ hpre rfl hlen hsize rfl hroom hca.1 ⟨rm3, rm4⟩) hW hS fin
theorem qz_invvI {idx n : Nat} {k0 : Nat} {x : Int} (as : List qz_V) {stk : List qz_V} {f : Int → qz_H → Option qz_R} (hst : stk = as.reverse ++ qz_r true k0 x :: st) (hm : qz_C Y2 (qz_r true k0 x :: as) h t) (hw : qz_mw Y2 n) (hv : qz_vw Y2) (hk0 : ∃ q : vw_C, kz_cl[k0]? = some q ∧ Y2.1.cls = q.1 ∧ k0 < 40) (hn : ((as.length == n) && (qz_sz st).ble 8) = true) (hrm : qz_rm Y Y2 cs sl = true) (hln : qz_ln Y.1.cls idx Y2) (hR : (decide (Y2.2.2.2.2.1 < 10) && !(Y2.2.2.2.2.1 == 2) && !(Y2.2.2.2.2.1 == 0)) = true) (k : ∀ r h', qz_J Y G is (pc + 3) ls (qz_i r :: st) h' (cs + Y2.2.2.2.2.2.cells) (sl + Y2.2.2.2.2.2.slots) (f r h')) : qz_J Y G ((.invokevirtual idx, 3) :: is) pc ls stk h cs sl (qz_bc t f) := by
  obtain ⟨p, l, e, s, m, args, below, meth, c, D, dA, B0, hc, h0⟩ := G
  intro r hr hx lsC stC H locs hca hl hs hW hS
  obtain ⟨h1, h2, h3, h4, h5, h6, h7, h8, h9⟩ := id hx
  subst hst
  obtain ⟨r1, q1, v1, hs2⟩ := qz_sr_app _ _ _ hs
  clear hs
  obtain ⟨r2, q2, v2, hs⟩ := hs2
  have hok := qz_vot v2
  rw [qz_cvr (qz_ok_ne hok)] at q2
  subst q2
  subst q1
  obtain ⟨q, qe, q2⟩ := qz_bc_some hr
  obtain ⟨m1, m2, m3, m4⟩ := hw
  obtain ⟨⟨rm1, rm2⟩, rm3, rm4⟩ := qz_rm_ok hrm
  simp only [Bool.and_eq_true, beq_iff_eq] at hn
  have hroom : 2 * (F0 m pc lsC ([] : List Value)).monitorRoom + (r2.map fun v => v.category).sum ≤ 8 := lv_room (Nat.le_trans (qz_sz_ok _ _ hs) (Nat.le_of_ble_eq_true hn.2))
  have hsize : lsC.size = Y.2.2.1 := by obtain ⟨lv, g1, -⟩ := hl; exact g1.1
  have hvo : ∀ v ∈ as, qz_vo h v := fun v hv => v1 v (List.mem_reverse.mpr hv)
  have hPc : ∀ U : State, U.heap = H → s.WarmedH U.vm → qz_P D dA B0 hc (qz_r true k0 x :: as) h (.ref (qz_ad h x) :: as.map (qz_cv h)).toArray U := by
    intro U hU hWm
    refine ⟨by rw [List.map_cons, qz_cvr (qz_ok_ne hok)], ?_, ?_, qz_E_at h9 hS hU hWm⟩
    · intro v hv
      rcases List.mem_cons.mp hv with z | z
      · rw [z]; exact v2
      · exact hvo v z
    · rw [hU]
      exact (hW.moved hWm.alike).re (qz_ex.rf h)
  have hM := hm q qe l D dA B0 hc
  have hfix : CallFix p m c Y.2.1 Y.2.2.1 s args (qz_ws Y) Y.1.cls := ⟨h1, h2, h3, h7, h8⟩
  have htt : ∀ w ∈ kz_TT, w.before args s = true := fun w hw => h8 w (List.mem_cons_of_mem _ hw)
  have hlen : (as.map (qz_cv h)).length = n := by rw [List.length_map]; exact hn.1
  obtain ⟨qc, k1', k2', k3'⟩ := hk0
  obtain ⟨⟨cell, b1, b2, b3, b4, -⟩, -⟩ := (hW.2.1 x k0 hok).1 k3'
  have hcls := (h9.2.1.1 k0 qc k1').2.1
  have hpre : PreV s H Y2.1.cls (qz_ad h x) (qz_P D dA B0 hc (qz_r true k0 x :: as) h) (as.map (qz_cv h)) := ⟨qz_blind, ⟨cell, b1, b4, by rw [b2, k2']; exact hcls⟩, hPc⟩
  have hstk : as.reverse.map (qz_cv h) = (as.map (qz_cv h)).reverse := List.map_reverse
  rw [hstk]
  have fin : ∀ (H1 : Heap) (locs1 : List Loc), qz_W D dA B0 hc h0 s q.2 H1 → qz_ex h q.2 → (Y2.2.2.2.2.1 ≠ 0 → qz_rg q.2 Y2.2.2.2.2.1 q.1) → va_S (qz_A B0) s.heap H1 locs1 → W p l e Y.2.2.2.2.2 s m args below meth c H1 locs1 (cs + Y2.2.2.2.2.2.cells) (sl + Y2.2.2.2.2.2.slots) (MQ below (qz_Q Y D dA B0 hc h0 r) args s Y.2.2.2.2.2.cells Y.2.2.2.2.2.slots (qz_A B0)) (F0 m (pc + 3) lsC ((qz_rv Y2 q).toList ++ r2)) := by
    intro H1 locs1 w wx wr wS
    simp only [Bool.and_eq_true, decide_eq_true_eq, Bool.not_eq_true', beq_eq_false_iff_ne, ne_eq] at hR
    have e1 : qz_rv Y2 q = some (qz_cv q.2 (qz_i q.1)) := by unfold qz_rv; rw [if_neg hR.2]; unfold qz_tv; rw [if_neg hR.1.2, if_pos hR.1.1]; rfl
    rw [e1]
    exact k q.1 q.2 r q2 hx lsC _ H1 locs1 hca.2 (wx.lr hl) ⟨_, rfl, qz_rgI hR.1.1 hR.1.2 (wr hR.2), wx.sr _ _ hs⟩ w wS
  rcases hln with g | ⟨host, g⟩
  · exact qz_after (va_runV (bytes := Y2.2.1) (maxL := Y2.2.2.1) (ret := Y2.2.2.2.1) (C := Y2.1.cls) (b := qz_ad h x) (As := as.map (qz_cv h)) (rest := r2) hfix hM ⟨callB_of n h8 (qz_good m1) rfl rfl rfl (htt _ m2) (htt _ g) ⟨m3.1, m3.2.1, m3.2.2⟩ ⟨rm1, rm2⟩, htt _ hv.1, htt _ hv.2⟩ hpre rfl hlen hsize rfl hroom hca.1 ⟨rm3, rm4⟩) hW hS fin
  · exact qz_after (va_runVN (bytes := Y2.2.1) (maxL := Y2.2.2.1) (ret := Y2.2.2.2.1) (host := host) (C := Y2.1.cls) (b := qz_ad h x) (As := as.map (qz_cv h)) (rest := r2) hfix hM ⟨va_cnB n h8 (qz_good m1) rfl rfl rfl (h9.2.2.1 _ g) (htt _ m2) ⟨m3.1, m3.2.1, m3.2.2⟩ ⟨rm1, rm2⟩, htt _ hv.1, htt _ hv.2⟩ hpre rfl hlen hsize rfl hroom hca.1 ⟨rm3, rm4⟩) hW hS fin
theorem qz_invvJ {idx n : Nat} {k0 : Nat} {x : Int} (as : List qz_V) {stk : List qz_V} {f : Int → qz_H → Option qz_R} (hst : stk = as.reverse ++ qz_r true k0 x :: st) (hm : qz_C Y2 (qz_r true k0 x :: as) h t) (hw : qz_mw Y2 n) (hv : qz_vw Y2) (hk0 : ∃ q : vw_C, kz_cl[k0]? = some q ∧ Y2.1.cls = q.1 ∧ k0 < 40) (hn : ((as.length == n) && (qz_sz st).ble 8) = true) (hrm : qz_rm Y Y2 cs sl = true) (hln : qz_ln Y.1.cls idx Y2) (hR : (Y2.2.2.2.2.1 == 2) = true) (k : ∀ r h', qz_J Y G is (pc + 3) ls (qz_j r :: st) h' (cs + Y2.2.2.2.2.2.cells) (sl + Y2.2.2.2.2.2.slots) (f r h')) : qz_J Y G ((.invokevirtual idx, 3) :: is) pc ls stk h cs sl (qz_bc t f) := by
  obtain ⟨p, l, e, s, m, args, below, meth, c, D, dA, B0, hc, h0⟩ := G
  intro r hr hx lsC stC H locs hca hl hs hW hS
  obtain ⟨h1, h2, h3, h4, h5, h6, h7, h8, h9⟩ := id hx
  subst hst
  obtain ⟨r1, q1, v1, hs2⟩ := qz_sr_app _ _ _ hs
  clear hs
  obtain ⟨r2, q2, v2, hs⟩ := hs2
  have hok := qz_vot v2
  rw [qz_cvr (qz_ok_ne hok)] at q2
  subst q2
  subst q1
  obtain ⟨q, qe, q2⟩ := qz_bc_some hr
  obtain ⟨m1, m2, m3, m4⟩ := hw
  obtain ⟨⟨rm1, rm2⟩, rm3, rm4⟩ := qz_rm_ok hrm
  simp only [Bool.and_eq_true, beq_iff_eq] at hn
  have hroom : 2 * (F0 m pc lsC ([] : List Value)).monitorRoom + (r2.map fun v => v.category).sum ≤ 8 := lv_room (Nat.le_trans (qz_sz_ok _ _ hs) (Nat.le_of_ble_eq_true hn.2))
  have hsize : lsC.size = Y.2.2.1 := by obtain ⟨lv, g1, -⟩ := hl; exact g1.1
  have hvo : ∀ v ∈ as, qz_vo h v := fun v hv => v1 v (List.mem_reverse.mpr hv)
  have hPc : ∀ U : State, U.heap = H → s.WarmedH U.vm → qz_P D dA B0 hc (qz_r true k0 x :: as) h (.ref (qz_ad h x) :: as.map (qz_cv h)).toArray U := by
    intro U hU hWm
    refine ⟨by rw [List.map_cons, qz_cvr (qz_ok_ne hok)], ?_, ?_, qz_E_at h9 hS hU hWm⟩
    · intro v hv
      rcases List.mem_cons.mp hv with z | z
      · rw [z]; exact v2
      · exact hvo v z
    · rw [hU]
      exact (hW.moved hWm.alike).re (qz_ex.rf h)
  have hM := hm q qe l D dA B0 hc
  have hfix : CallFix p m c Y.2.1 Y.2.2.1 s args (qz_ws Y) Y.1.cls := ⟨h1, h2, h3, h7, h8⟩
  have htt : ∀ w ∈ kz_TT, w.before args s = true := fun w hw => h8 w (List.mem_cons_of_mem _ hw)
  have hlen : (as.map (qz_cv h)).length = n := by rw [List.length_map]; exact hn.1
  obtain ⟨qc, k1', k2', k3'⟩ := hk0
  obtain ⟨⟨cell, b1, b2, b3, b4, -⟩, -⟩ := (hW.2.1 x k0 hok).1 k3'
  have hcls := (h9.2.1.1 k0 qc k1').2.1
  have hpre : PreV s H Y2.1.cls (qz_ad h x) (qz_P D dA B0 hc (qz_r true k0 x :: as) h) (as.map (qz_cv h)) := ⟨qz_blind, ⟨cell, b1, b4, by rw [b2, k2']; exact hcls⟩, hPc⟩
  have hstk : as.reverse.map (qz_cv h) = (as.map (qz_cv h)).reverse := List.map_reverse
  rw [hstk]
  have fin : ∀ (H1 : Heap) (locs1 : List Loc), qz_W D dA B0 hc h0 s q.2 H1 → qz_ex h q.2 → (Y2.2.2.2.2.1 ≠ 0 → qz_rg q.2 Y2.2.2.2.2.1 q.1) → va_S (qz_A B0) s.heap H1 locs1 → W p l e Y.2.2.2.2.2 s m args below meth c H1 locs1 (cs + Y2.2.2.2.2.2.cells) (sl + Y2.2.2.2.2.2.slots) (MQ below (qz_Q Y D dA B0 hc h0 r) args s Y.2.2.2.2.2.cells Y.2.2.2.2.2.slots (qz_A B0)) (F0 m (pc + 3) lsC ((qz_rv Y2 q).toList ++ r2)) := by
    intro H1 locs1 w wx wr wS
    have e0 : Y2.2.2.2.2.1 = 2 := by simpa using hR
    have e1 : qz_rv Y2 q = some (qz_cv q.2 (qz_j q.1)) := by unfold qz_rv; rw [e0]; rfl
    rw [e1]
    have wr2 := wr (by rw [e0]; decide)
    rw [e0] at wr2
    exact k q.1 q.2 r q2 hx lsC _ H1 locs1 hca.2 (wx.lr hl) ⟨_, rfl, wr2, wx.sr _ _ hs⟩ w wS
  rcases hln with g | ⟨host, g⟩
  · exact qz_after (va_runV (bytes := Y2.2.1) (maxL := Y2.2.2.1) (ret := Y2.2.2.2.1) (C := Y2.1.cls) (b := qz_ad h x) (As := as.map (qz_cv h)) (rest := r2) hfix hM ⟨callB_of n h8 (qz_good m1) rfl rfl rfl (htt _ m2) (htt _ g) ⟨m3.1, m3.2.1, m3.2.2⟩ ⟨rm1, rm2⟩, htt _ hv.1, htt _ hv.2⟩ hpre rfl hlen hsize rfl hroom hca.1 ⟨rm3, rm4⟩) hW hS fin
  · exact qz_after (va_runVN (bytes := Y2.2.1) (maxL := Y2.2.2.1) (ret := Y2.2.2.2.1) (host := host) (C := Y2.1.cls) (b := qz_ad h x) (As := as.map (qz_cv h)) (rest := r2) hfix hM ⟨va_cnB n h8 (qz_good m1) rfl rfl rfl (h9.2.2.1 _ g) (htt _ m2) ⟨m3.1, m3.2.1, m3.2.2⟩ ⟨rm1, rm2⟩, htt _ hv.1, htt _ hv.2⟩ hpre rfl hlen hsize rfl hroom hca.1 ⟨rm3, rm4⟩) hW hS fin
theorem qz_invvR {k1 : Nat} {idx n : Nat} {k0 : Nat} {x : Int} (as : List qz_V) {stk : List qz_V} {f : Int → qz_H → Option qz_R} (hst : stk = as.reverse ++ qz_r true k0 x :: st) (hm : qz_C Y2 (qz_r true k0 x :: as) h t) (hw : qz_mw Y2 n) (hv : qz_vw Y2) (hk0 : ∃ q : vw_C, kz_cl[k0]? = some q ∧ Y2.1.cls = q.1 ∧ k0 < 40) (hn : ((as.length == n) && (qz_sz st).ble 8) = true) (hrm : qz_rm Y Y2 cs sl = true) (hln : qz_ln Y.1.cls idx Y2) (hR : (Y2.2.2.2.2.1 == 10 + k1) = true) (k : ∀ r h', qz_J Y G is (pc + 3) ls (qz_r false k1 r :: st) h' (cs + Y2.2.2.2.2.2.cells) (sl + Y2.2.2.2.2.2.slots) (f r h')) : qz_J Y G ((.invokevirtual idx, 3) :: is) pc ls stk h cs sl (qz_bc t f) := by
  obtain ⟨p, l, e, s, m, args, below, meth, c, D, dA, B0, hc, h0⟩ := G
  intro r hr hx lsC stC H locs hca hl hs hW hS
  obtain ⟨h1, h2, h3, h4, h5, h6, h7, h8, h9⟩ := id hx
  subst hst
  obtain ⟨r1, q1, v1, hs2⟩ := qz_sr_app _ _ _ hs
  clear hs
  obtain ⟨r2, q2, v2, hs⟩ := hs2
  have hok := qz_vot v2
  rw [qz_cvr (qz_ok_ne hok)] at q2
  subst q2
  subst q1
  obtain ⟨q, qe, q2⟩ := qz_bc_some hr
  obtain ⟨m1, m2, m3, m4⟩ := hw
  obtain ⟨⟨rm1, rm2⟩, rm3, rm4⟩ := qz_rm_ok hrm
  simp only [Bool.and_eq_true, beq_iff_eq] at hn
  have hroom : 2 * (F0 m pc lsC ([] : List Value)).monitorRoom + (r2.map fun v => v.category).sum ≤ 8 := lv_room (Nat.le_trans (qz_sz_ok _ _ hs) (Nat.le_of_ble_eq_true hn.2))
  have hsize : lsC.size = Y.2.2.1 := by obtain ⟨lv, g1, -⟩ := hl; exact g1.1
  have hvo : ∀ v ∈ as, qz_vo h v := fun v hv => v1 v (List.mem_reverse.mpr hv)
  have hPc : ∀ U : State, U.heap = H → s.WarmedH U.vm → qz_P D dA B0 hc (qz_r true k0 x :: as) h (.ref (qz_ad h x) :: as.map (qz_cv h)).toArray U := by
    intro U hU hWm
    refine ⟨by rw [List.map_cons, qz_cvr (qz_ok_ne hok)], ?_, ?_, qz_E_at h9 hS hU hWm⟩
    · intro v hv
      rcases List.mem_cons.mp hv with z | z
      · rw [z]; exact v2
      · exact hvo v z
    · rw [hU]
      exact (hW.moved hWm.alike).re (qz_ex.rf h)
  have hM := hm q qe l D dA B0 hc
  have hfix : CallFix p m c Y.2.1 Y.2.2.1 s args (qz_ws Y) Y.1.cls := ⟨h1, h2, h3, h7, h8⟩
  have htt : ∀ w ∈ kz_TT, w.before args s = true := fun w hw => h8 w (List.mem_cons_of_mem _ hw)
  have hlen : (as.map (qz_cv h)).length = n := by rw [List.length_map]; exact hn.1
  obtain ⟨qc, k1', k2', k3'⟩ := hk0
  obtain ⟨⟨cell, b1, b2, b3, b4, -⟩, -⟩ := (hW.2.1 x k0 hok).1 k3'
  have hcls := (h9.2.1.1 k0 qc k1').2.1
  have hpre : PreV s H Y2.1.cls (qz_ad h x) (qz_P D dA B0 hc (qz_r true k0 x :: as) h) (as.map (qz_cv h)) := ⟨qz_blind, ⟨cell, b1, b4, by rw [b2, k2']; exact hcls⟩, hPc⟩
  have hstk : as.reverse.map (qz_cv h) = (as.map (qz_cv h)).reverse := List.map_reverse
  rw [hstk]
  have fin : ∀ (H1 : Heap) (locs1 : List Loc), qz_W D dA B0 hc h0 s q.2 H1 → qz_ex h q.2 → (Y2.2.2.2.2.1 ≠ 0 → qz_rg q.2 Y2.2.2.2.2.1 q.1) → va_S (qz_A B0) s.heap H1 locs1 → W p l e Y.2.2.2.2.2 s m args below meth c H1 locs1 (cs + Y2.2.2.2.2.2.cells) (sl + Y2.2.2.2.2.2.slots) (MQ below (qz_Q Y D dA B0 hc h0 r) args s Y.2.2.2.2.2.cells Y.2.2.2.2.2.slots (qz_A B0)) (F0 m (pc + 3) lsC ((qz_rv Y2 q).toList ++ r2)) := by
    intro H1 locs1 w wx wr wS
    have e0 : Y2.2.2.2.2.1 = 10 + k1 := by simpa using hR
    have e1 : qz_rv Y2 q = some (qz_cv q.2 (qz_r false k1 q.1)) := by unfold qz_rv; rw [if_neg (by omega), e0]; unfold qz_tv; rw [if_neg (by omega), if_neg (by omega)]; rfl
    rw [e1]
    have wr2 := wr (by omega)
    rw [e0] at wr2
    exact k q.1 q.2 r q2 hx lsC _ H1 locs1 hca.2 (wx.lr hl) ⟨_, rfl, qz_rgR wr2, wx.sr _ _ hs⟩ w wS
  rcases hln with g | ⟨host, g⟩
  · exact qz_after (va_runV (bytes := Y2.2.1) (maxL := Y2.2.2.1) (ret := Y2.2.2.2.1) (C := Y2.1.cls) (b := qz_ad h x) (As := as.map (qz_cv h)) (rest := r2) hfix hM ⟨callB_of n h8 (qz_good m1) rfl rfl rfl (htt _ m2) (htt _ g) ⟨m3.1, m3.2.1, m3.2.2⟩ ⟨rm1, rm2⟩, htt _ hv.1, htt _ hv.2⟩ hpre rfl hlen hsize rfl hroom hca.1 ⟨rm3, rm4⟩) hW hS fin
  · exact qz_after (va_runVN (bytes := Y2.2.1) (maxL := Y2.2.2.1) (ret := Y2.2.2.2.1) (host := host) (C := Y2.1.cls) (b := qz_ad h x) (As := as.map (qz_cv h)) (rest := r2) hfix hM ⟨va_cnB n h8 (qz_good m1) rfl rfl rfl (h9.2.2.1 _ g) (htt _ m2) ⟨m3.1, m3.2.1, m3.2.2⟩ ⟨rm1, rm2⟩, htt _ hv.1, htt _ hv.2⟩ hpre rfl hlen hsize rfl hroom hca.1 ⟨rm3, rm4⟩) hW hS fin
theorem qz_invsV {idx n : Nat} (as : List qz_V) {stk : List qz_V} {f : Int → qz_H → Option qz_R} (hst : stk = as.reverse ++ st) (hm : qz_C Y2 (as) h t) (hw : qz_mw Y2 n) (hv : Cond.static Y2.1 ∈ kz_TT) (hn : ((as.length == n) && (qz_sz st).ble 8) = true) (hrm : qz_rm Y Y2 cs sl = true) (hln : qz_ln Y.1.cls idx Y2) (hR : (Y2.2.2.2.2.1 == 0) = true) (k : ∀ r h', qz_J Y G is (pc + 3) ls st h' (cs + Y2.2.2.2.2.2.cells) (sl + Y2.2.2.2.2.2.slots) (f r h')) : qz_J Y G ((.invokestatic idx, 3) :: is) pc ls stk h cs sl (qz_bc t f) := by
  obtain ⟨p, l, e, s, m, args, below, meth, c, D, dA, B0, hc, h0⟩ := G
  intro r hr hx lsC stC H locs hca hl hs hW hS
  obtain ⟨h1, h2, h3, h4, h5, h6, h7, h8, h9⟩ := id hx
  subst hst
  obtain ⟨r1, q1, v1, hs2⟩ := qz_sr_app _ _ _ hs
  clear hs
  have hs := hs2
  subst q1
  obtain ⟨q, qe, q2⟩ := qz_bc_some hr
  obtain ⟨m1, m2, m3, m4⟩ := hw
  obtain ⟨⟨rm1, rm2⟩, rm3, rm4⟩ := qz_rm_ok hrm
  simp only [Bool.and_eq_true, beq_iff_eq] at hn
  have hroom : 2 * (F0 m pc lsC ([] : List Value)).monitorRoom + (r1.map fun v => v.category).sum ≤ 8 := lv_room (Nat.le_trans (qz_sz_ok _ _ hs) (Nat.le_of_ble_eq_true hn.2))
  have hsize : lsC.size = Y.2.2.1 := by obtain ⟨lv, g1, -⟩ := hl; exact g1.1
  have hvo : ∀ v ∈ as, qz_vo h v := fun v hv => v1 v (List.mem_reverse.mpr hv)
  have hPc : ∀ U : State, U.heap = H → s.WarmedH U.vm → qz_P D dA B0 hc (as) h (as.map (qz_cv h)).toArray U := by
    intro U hU hWm
    refine ⟨rfl, ?_, ?_, qz_E_at h9 hS hU hWm⟩
    · exact hvo
    · rw [hU]
      exact (hW.moved hWm.alike).re (qz_ex.rf h)
  have hM := hm q qe l D dA B0 hc
  have hfix : CallFix p m c Y.2.1 Y.2.2.1 s args (qz_ws Y) Y.1.cls := ⟨h1, h2, h3, h7, h8⟩
  have htt : ∀ w ∈ kz_TT, w.before args s = true := fun w hw => h8 w (List.mem_cons_of_mem _ hw)
  have hlen : (as.map (qz_cv h)).length = n := by rw [List.length_map]; exact hn.1
  have hpre : PreS s H (qz_P D dA B0 hc as h) (as.map (qz_cv h)) := ⟨qz_blind, hPc⟩
  have hstk : as.reverse.map (qz_cv h) = (as.map (qz_cv h)).reverse := List.map_reverse
  rw [hstk]
  have fin : ∀ (H1 : Heap) (locs1 : List Loc), qz_W D dA B0 hc h0 s q.2 H1 → qz_ex h q.2 → (Y2.2.2.2.2.1 ≠ 0 → qz_rg q.2 Y2.2.2.2.2.1 q.1) → va_S (qz_A B0) s.heap H1 locs1 → W p l e Y.2.2.2.2.2 s m args below meth c H1 locs1 (cs + Y2.2.2.2.2.2.cells) (sl + Y2.2.2.2.2.2.slots) (MQ below (qz_Q Y D dA B0 hc h0 r) args s Y.2.2.2.2.2.cells Y.2.2.2.2.2.slots (qz_A B0)) (F0 m (pc + 3) lsC ((qz_rv Y2 q).toList ++ r1)) := by
    intro H1 locs1 w wx wr wS
    have e0 : Y2.2.2.2.2.1 = 0 := by simpa using hR
    have e1 : qz_rv Y2 q = none := by unfold qz_rv; rw [if_pos e0]
    rw [e1]
    exact k q.1 q.2 r q2 hx lsC _ H1 locs1 hca.2 (wx.lr hl) (wx.sr _ _ hs) w wS
  rcases hln with g | ⟨host, g⟩
  · exact qz_after (va_runS (bytes := Y2.2.1) (maxL := Y2.2.2.1) (ret := Y2.2.2.2.1) (As := as.map (qz_cv h)) (rest := r1) hfix hM ⟨callB_of n h8 (qz_good m1) rfl rfl rfl (htt _ m2) (htt _ g) ⟨m3.1, m3.2.1, m3.2.2⟩ ⟨rm1, rm2⟩, htt _ hv⟩ hpre rfl hlen hsize rfl hroom hca.1 ⟨rm3, rm4⟩) hW hS fin
  · exact qz_after (va_runSN (bytes := Y2.2.1) (maxL := Y2.2.2.1) (ret := Y2.2.2.2.1) (host := host) (As := as.map (qz_cv h)) (rest := r1) hfix hM ⟨va_cnB n h8 (qz_good m1) rfl rfl rfl (h9.2.2.1 _ g) (htt _ m2) ⟨m3.1, m3.2.1, m3.2.2⟩ ⟨rm1, rm2⟩, htt _ hv, trivial⟩ hpre rfl hlen hsize rfl hroom hca.1 ⟨rm3, rm4⟩) hW hS fin
theorem qz_invsI {idx n : Nat} (as : List qz_V) {stk : List qz_V} {f : Int → qz_H → Option qz_R} (hst : stk = as.reverse ++ st) (hm : qz_C Y2 (as) h t) (hw : qz_mw Y2 n) (hv : Cond.static Y2.1 ∈ kz_TT) (hn : ((as.length == n) && (qz_sz st).ble 8) = true) (hrm : qz_rm Y Y2 cs sl = true) (hln : qz_ln Y.1.cls idx Y2) (hR : (decide (Y2.2.2.2.2.1 < 10) && !(Y2.2.2.2.2.1 == 2) && !(Y2.2.2.2.2.1 == 0)) = true) (k : ∀ r h', qz_J Y G is (pc + 3) ls (qz_i r :: st) h' (cs + Y2.2.2.2.2.2.cells) (sl + Y2.2.2.2.2.2.slots) (f r h')) : qz_J Y G ((.invokestatic idx, 3) :: is) pc ls stk h cs sl (qz_bc t f) := by
  obtain ⟨p, l, e, s, m, args, below, meth, c, D, dA, B0, hc, h0⟩ := G
  intro r hr hx lsC stC H locs hca hl hs hW hS
  obtain ⟨h1, h2, h3, h4, h5, h6, h7, h8, h9⟩ := id hx
  subst hst
  obtain ⟨r1, q1, v1, hs2⟩ := qz_sr_app _ _ _ hs
  clear hs
  have hs := hs2
  subst q1
  obtain ⟨q, qe, q2⟩ := qz_bc_some hr
  obtain ⟨m1, m2, m3, m4⟩ := hw
  obtain ⟨⟨rm1, rm2⟩, rm3, rm4⟩ := qz_rm_ok hrm
  simp only [Bool.and_eq_true, beq_iff_eq] at hn
  have hroom : 2 * (F0 m pc lsC ([] : List Value)).monitorRoom + (r1.map fun v => v.category).sum ≤ 8 := lv_room (Nat.le_trans (qz_sz_ok _ _ hs) (Nat.le_of_ble_eq_true hn.2))
  have hsize : lsC.size = Y.2.2.1 := by obtain ⟨lv, g1, -⟩ := hl; exact g1.1
  have hvo : ∀ v ∈ as, qz_vo h v := fun v hv => v1 v (List.mem_reverse.mpr hv)
  have hPc : ∀ U : State, U.heap = H → s.WarmedH U.vm → qz_P D dA B0 hc (as) h (as.map (qz_cv h)).toArray U := by
    intro U hU hWm
    refine ⟨rfl, ?_, ?_, qz_E_at h9 hS hU hWm⟩
    · exact hvo
    · rw [hU]
      exact (hW.moved hWm.alike).re (qz_ex.rf h)
  have hM := hm q qe l D dA B0 hc
  have hfix : CallFix p m c Y.2.1 Y.2.2.1 s args (qz_ws Y) Y.1.cls := ⟨h1, h2, h3, h7, h8⟩
  have htt : ∀ w ∈ kz_TT, w.before args s = true := fun w hw => h8 w (List.mem_cons_of_mem _ hw)
  have hlen : (as.map (qz_cv h)).length = n := by rw [List.length_map]; exact hn.1
  have hpre : PreS s H (qz_P D dA B0 hc as h) (as.map (qz_cv h)) := ⟨qz_blind, hPc⟩
  have hstk : as.reverse.map (qz_cv h) = (as.map (qz_cv h)).reverse := List.map_reverse
  rw [hstk]
  have fin : ∀ (H1 : Heap) (locs1 : List Loc), qz_W D dA B0 hc h0 s q.2 H1 → qz_ex h q.2 → (Y2.2.2.2.2.1 ≠ 0 → qz_rg q.2 Y2.2.2.2.2.1 q.1) → va_S (qz_A B0) s.heap H1 locs1 → W p l e Y.2.2.2.2.2 s m args below meth c H1 locs1 (cs + Y2.2.2.2.2.2.cells) (sl + Y2.2.2.2.2.2.slots) (MQ below (qz_Q Y D dA B0 hc h0 r) args s Y.2.2.2.2.2.cells Y.2.2.2.2.2.slots (qz_A B0)) (F0 m (pc + 3) lsC ((qz_rv Y2 q).toList ++ r1)) := by
    intro H1 locs1 w wx wr wS
    simp only [Bool.and_eq_true, decide_eq_true_eq, Bool.not_eq_true', beq_eq_false_iff_ne, ne_eq] at hR
    have e1 : qz_rv Y2 q = some (qz_cv q.2 (qz_i q.1)) := by unfold qz_rv; rw [if_neg hR.2]; unfold qz_tv; rw [if_neg hR.1.2, if_pos hR.1.1]; rfl
    rw [e1]
    exact k q.1 q.2 r q2 hx lsC _ H1 locs1 hca.2 (wx.lr hl) ⟨_, rfl, qz_rgI hR.1.1 hR.1.2 (wr hR.2), wx.sr _ _ hs⟩ w wS
  rcases hln with g | ⟨host, g⟩
  · exact qz_after (va_runS (bytes := Y2.2.1) (maxL := Y2.2.2.1) (ret := Y2.2.2.2.1) (As := as.map (qz_cv h)) (rest := r1) hfix hM ⟨callB_of n h8 (qz_good m1) rfl rfl rfl (htt _ m2) (htt _ g) ⟨m3.1, m3.2.1, m3.2.2⟩ ⟨rm1, rm2⟩, htt _ hv⟩ hpre rfl hlen hsize rfl hroom hca.1 ⟨rm3, rm4⟩) hW hS fin
  · exact qz_after (va_runSN (bytes := Y2.2.1) (maxL := Y2.2.2.1) (ret := Y2.2.2.2.1) (host := host) (As := as.map (qz_cv h)) (rest := r1) hfix hM ⟨va_cnB n h8 (qz_good m1) rfl rfl rfl (h9.2.2.1 _ g) (htt _ m2) ⟨m3.1, m3.2.1, m3.2.2⟩ ⟨rm1, rm2⟩, htt _ hv, trivial⟩ hpre rfl hlen hsize rfl hroom hca.1 ⟨rm3, rm4⟩) hW hS fin
theorem qz_invsJ {idx n : Nat} (as : List qz_V) {stk : List qz_V} {f : Int → qz_H → Option qz_R} (hst : stk = as.reverse ++ st) (hm : qz_C Y2 (as) h t) (hw : qz_mw Y2 n) (hv : Cond.static Y2.1 ∈ kz_TT) (hn : ((as.length == n) && (qz_sz st).ble 8) = true) (hrm : qz_rm Y Y2 cs sl = true) (hln : qz_ln Y.1.cls idx Y2) (hR : (Y2.2.2.2.2.1 == 2) = true) (k : ∀ r h', qz_J Y G is (pc + 3) ls (qz_j r :: st) h' (cs + Y2.2.2.2.2.2.cells) (sl + Y2.2.2.2.2.2.slots) (f r h')) : qz_J Y G ((.invokestatic idx, 3) :: is) pc ls stk h cs sl (qz_bc t f) := by
  obtain ⟨p, l, e, s, m, args, below, meth, c, D, dA, B0, hc, h0⟩ := G
  intro r hr hx lsC stC H locs hca hl hs hW hS
  obtain ⟨h1, h2, h3, h4, h5, h6, h7, h8, h9⟩ := id hx
  subst hst
  obtain ⟨r1, q1, v1, hs2⟩ := qz_sr_app _ _ _ hs
  clear hs
  have hs := hs2
  subst q1
  obtain ⟨q, qe, q2⟩ := qz_bc_some hr
  obtain ⟨m1, m2, m3, m4⟩ := hw
  obtain ⟨⟨rm1, rm2⟩, rm3, rm4⟩ := qz_rm_ok hrm
  simp only [Bool.and_eq_true, beq_iff_eq] at hn
  have hroom : 2 * (F0 m pc lsC ([] : List Value)).monitorRoom + (r1.map fun v => v.category).sum ≤ 8 := lv_room (Nat.le_trans (qz_sz_ok _ _ hs) (Nat.le_of_ble_eq_true hn.2))
  have hsize : lsC.size = Y.2.2.1 := by obtain ⟨lv, g1, -⟩ := hl; exact g1.1
  have hvo : ∀ v ∈ as, qz_vo h v := fun v hv => v1 v (List.mem_reverse.mpr hv)
  have hPc : ∀ U : State, U.heap = H → s.WarmedH U.vm → qz_P D dA B0 hc (as) h (as.map (qz_cv h)).toArray U := by
    intro U hU hWm
    refine ⟨rfl, ?_, ?_, qz_E_at h9 hS hU hWm⟩
    · exact hvo
    · rw [hU]
      exact (hW.moved hWm.alike).re (qz_ex.rf h)
  have hM := hm q qe l D dA B0 hc
  have hfix : CallFix p m c Y.2.1 Y.2.2.1 s args (qz_ws Y) Y.1.cls := ⟨h1, h2, h3, h7, h8⟩
  have htt : ∀ w ∈ kz_TT, w.before args s = true := fun w hw => h8 w (List.mem_cons_of_mem _ hw)
  have hlen : (as.map (qz_cv h)).length = n := by rw [List.length_map]; exact hn.1
  have hpre : PreS s H (qz_P D dA B0 hc as h) (as.map (qz_cv h)) := ⟨qz_blind, hPc⟩
  have hstk : as.reverse.map (qz_cv h) = (as.map (qz_cv h)).reverse := List.map_reverse
  rw [hstk]
  have fin : ∀ (H1 : Heap) (locs1 : List Loc), qz_W D dA B0 hc h0 s q.2 H1 → qz_ex h q.2 → (Y2.2.2.2.2.1 ≠ 0 → qz_rg q.2 Y2.2.2.2.2.1 q.1) → va_S (qz_A B0) s.heap H1 locs1 → W p l e Y.2.2.2.2.2 s m args below meth c H1 locs1 (cs + Y2.2.2.2.2.2.cells) (sl + Y2.2.2.2.2.2.slots) (MQ below (qz_Q Y D dA B0 hc h0 r) args s Y.2.2.2.2.2.cells Y.2.2.2.2.2.slots (qz_A B0)) (F0 m (pc + 3) lsC ((qz_rv Y2 q).toList ++ r1)) := by
    intro H1 locs1 w wx wr wS
    have e0 : Y2.2.2.2.2.1 = 2 := by simpa using hR
    have e1 : qz_rv Y2 q = some (qz_cv q.2 (qz_j q.1)) := by unfold qz_rv; rw [e0]; rfl
    rw [e1]
    have wr2 := wr (by rw [e0]; decide)
    rw [e0] at wr2
    exact k q.1 q.2 r q2 hx lsC _ H1 locs1 hca.2 (wx.lr hl) ⟨_, rfl, wr2, wx.sr _ _ hs⟩ w wS
  rcases hln with g | ⟨host, g⟩
  · exact qz_after (va_runS (bytes := Y2.2.1) (maxL := Y2.2.2.1) (ret := Y2.2.2.2.1) (As := as.map (qz_cv h)) (rest := r1) hfix hM ⟨callB_of n h8 (qz_good m1) rfl rfl rfl (htt _ m2) (htt _ g) ⟨m3.1, m3.2.1, m3.2.2⟩ ⟨rm1, rm2⟩, htt _ hv⟩ hpre rfl hlen hsize rfl hroom hca.1 ⟨rm3, rm4⟩) hW hS fin
  · exact qz_after (va_runSN (bytes := Y2.2.1) (maxL := Y2.2.2.1) (ret := Y2.2.2.2.1) (host := host) (As := as.map (qz_cv h)) (rest := r1) hfix hM ⟨va_cnB n h8 (qz_good m1) rfl rfl rfl (h9.2.2.1 _ g) (htt _ m2) ⟨m3.1, m3.2.1, m3.2.2⟩ ⟨rm1, rm2⟩, htt _ hv, trivial⟩ hpre rfl hlen hsize rfl hroom hca.1 ⟨rm3, rm4⟩) hW hS fin
theorem qz_invsR {k1 : Nat} {idx n : Nat} (as : List qz_V) {stk : List qz_V} {f : Int → qz_H → Option qz_R} (hst : stk = as.reverse ++ st) (hm : qz_C Y2 (as) h t) (hw : qz_mw Y2 n) (hv : Cond.static Y2.1 ∈ kz_TT) (hn : ((as.length == n) && (qz_sz st).ble 8) = true) (hrm : qz_rm Y Y2 cs sl = true) (hln : qz_ln Y.1.cls idx Y2) (hR : (Y2.2.2.2.2.1 == 10 + k1) = true) (k : ∀ r h', qz_J Y G is (pc + 3) ls (qz_r false k1 r :: st) h' (cs + Y2.2.2.2.2.2.cells) (sl + Y2.2.2.2.2.2.slots) (f r h')) : qz_J Y G ((.invokestatic idx, 3) :: is) pc ls stk h cs sl (qz_bc t f) := by
  obtain ⟨p, l, e, s, m, args, below, meth, c, D, dA, B0, hc, h0⟩ := G
  intro r hr hx lsC stC H locs hca hl hs hW hS
  obtain ⟨h1, h2, h3, h4, h5, h6, h7, h8, h9⟩ := id hx
  subst hst
  obtain ⟨r1, q1, v1, hs2⟩ := qz_sr_app _ _ _ hs
  clear hs
  have hs := hs2
  subst q1
  obtain ⟨q, qe, q2⟩ := qz_bc_some hr
  obtain ⟨m1, m2, m3, m4⟩ := hw
  obtain ⟨⟨rm1, rm2⟩, rm3, rm4⟩ := qz_rm_ok hrm
  simp only [Bool.and_eq_true, beq_iff_eq] at hn
  have hroom : 2 * (F0 m pc lsC ([] : List Value)).monitorRoom + (r1.map fun v => v.category).sum ≤ 8 := lv_room (Nat.le_trans (qz_sz_ok _ _ hs) (Nat.le_of_ble_eq_true hn.2))
  have hsize : lsC.size = Y.2.2.1 := by obtain ⟨lv, g1, -⟩ := hl; exact g1.1
  have hvo : ∀ v ∈ as, qz_vo h v := fun v hv => v1 v (List.mem_reverse.mpr hv)
  have hPc : ∀ U : State, U.heap = H → s.WarmedH U.vm → qz_P D dA B0 hc (as) h (as.map (qz_cv h)).toArray U := by
    intro U hU hWm
    refine ⟨rfl, ?_, ?_, qz_E_at h9 hS hU hWm⟩
    · exact hvo
    · rw [hU]
      exact (hW.moved hWm.alike).re (qz_ex.rf h)
  have hM := hm q qe l D dA B0 hc
  have hfix : CallFix p m c Y.2.1 Y.2.2.1 s args (qz_ws Y) Y.1.cls := ⟨h1, h2, h3, h7, h8⟩
  have htt : ∀ w ∈ kz_TT, w.before args s = true := fun w hw => h8 w (List.mem_cons_of_mem _ hw)
  have hlen : (as.map (qz_cv h)).length = n := by rw [List.length_map]; exact hn.1
  have hpre : PreS s H (qz_P D dA B0 hc as h) (as.map (qz_cv h)) := ⟨qz_blind, hPc⟩
  have hstk : as.reverse.map (qz_cv h) = (as.map (qz_cv h)).reverse := List.map_reverse
  rw [hstk]
  have fin : ∀ (H1 : Heap) (locs1 : List Loc), qz_W D dA B0 hc h0 s q.2 H1 → qz_ex h q.2 → (Y2.2.2.2.2.1 ≠ 0 → qz_rg q.2 Y2.2.2.2.2.1 q.1) → va_S (qz_A B0) s.heap H1 locs1 → W p l e Y.2.2.2.2.2 s m args below meth c H1 locs1 (cs + Y2.2.2.2.2.2.cells) (sl + Y2.2.2.2.2.2.slots) (MQ below (qz_Q Y D dA B0 hc h0 r) args s Y.2.2.2.2.2.cells Y.2.2.2.2.2.slots (qz_A B0)) (F0 m (pc + 3) lsC ((qz_rv Y2 q).toList ++ r1)) := by
    intro H1 locs1 w wx wr wS
    have e0 : Y2.2.2.2.2.1 = 10 + k1 := by simpa using hR
    have e1 : qz_rv Y2 q = some (qz_cv q.2 (qz_r false k1 q.1)) := by unfold qz_rv; rw [if_neg (by omega), e0]; unfold qz_tv; rw [if_neg (by omega), if_neg (by omega)]; rfl
    rw [e1]
    have wr2 := wr (by omega)
    rw [e0] at wr2
    exact k q.1 q.2 r q2 hx lsC _ H1 locs1 hca.2 (wx.lr hl) ⟨_, rfl, qz_rgR wr2, wx.sr _ _ hs⟩ w wS
  rcases hln with g | ⟨host, g⟩
  · exact qz_after (va_runS (bytes := Y2.2.1) (maxL := Y2.2.2.1) (ret := Y2.2.2.2.1) (As := as.map (qz_cv h)) (rest := r1) hfix hM ⟨callB_of n h8 (qz_good m1) rfl rfl rfl (htt _ m2) (htt _ g) ⟨m3.1, m3.2.1, m3.2.2⟩ ⟨rm1, rm2⟩, htt _ hv⟩ hpre rfl hlen hsize rfl hroom hca.1 ⟨rm3, rm4⟩) hW hS fin
  · exact qz_after (va_runSN (bytes := Y2.2.1) (maxL := Y2.2.2.1) (ret := Y2.2.2.2.1) (host := host) (As := as.map (qz_cv h)) (rest := r1) hfix hM ⟨va_cnB n h8 (qz_good m1) rfl rfl rfl (h9.2.2.1 _ g) (htt _ m2) ⟨m3.1, m3.2.1, m3.2.2⟩ ⟨rm1, rm2⟩, htt _ hv, trivial⟩ hpre rfl hlen hsize rfl hroom hca.1 ⟨rm3, rm4⟩) hW hS fin
theorem qz_inviV {idx n : Nat} {k0 : Nat} {x : Int} (as : List qz_V) {stk : List qz_V} {f : Int → qz_H → Option qz_R} (hst : stk = as.reverse ++ qz_r true k0 x :: st) (hm : qz_C Y2 (qz_r true k0 x :: as) h t) (hw : qz_mw Y2 n) (hv : Cond.instanceMethod Y2.1 ∈ kz_TT ∧ Y2.1.name = "<init>" ∧ Y2.2.2.2.1 = none) (hn : ((as.length == n) && (qz_sz st).ble 8) = true) (hrm : qz_rm Y Y2 cs sl = true) (hln : qz_ln Y.1.cls idx Y2) (hR : (Y2.2.2.2.2.1 == 0) = true) (k : ∀ r h', qz_J Y G is (pc + 3) ls st h' (cs + Y2.2.2.2.2.2.cells) (sl + Y2.2.2.2.2.2.slots) (f r h')) : qz_J Y G ((.invokespecial idx, 3) :: is) pc ls stk h cs sl (qz_bc t f) := by
  obtain ⟨p, l, e, s, m, args, below, meth, c, D, dA, B0, hc, h0⟩ := G
  intro r hr hx lsC stC H locs hca hl hs hW hS
  obtain ⟨h1, h2, h3, h4, h5, h6, h7, h8, h9⟩ := id hx
  subst hst
  obtain ⟨r1, q1, v1, hs2⟩ := qz_sr_app _ _ _ hs
  clear hs
  obtain ⟨r2, q2, v2, hs⟩ := hs2
  have hok := qz_vot v2
  rw [qz_cvr (qz_ok_ne hok)] at q2
  subst q2
  subst q1
  obtain ⟨q, qe, q2⟩ := qz_bc_some hr
  obtain ⟨m1, m2, m3, m4⟩ := hw
  obtain ⟨⟨rm1, rm2⟩, rm3, rm4⟩ := qz_rm_ok hrm
  simp only [Bool.and_eq_true, beq_iff_eq] at hn
  have hroom : 2 * (F0 m pc lsC ([] : List Value)).monitorRoom + (r2.map fun v => v.category).sum ≤ 8 := lv_room (Nat.le_trans (qz_sz_ok _ _ hs) (Nat.le_of_ble_eq_true hn.2))
  have hsize : lsC.size = Y.2.2.1 := by obtain ⟨lv, g1, -⟩ := hl; exact g1.1
  have hvo : ∀ v ∈ as, qz_vo h v := fun v hv => v1 v (List.mem_reverse.mpr hv)
  have hPc : ∀ U : State, U.heap = H → s.WarmedH U.vm → qz_P D dA B0 hc (qz_r true k0 x :: as) h (.ref (qz_ad h x) :: as.map (qz_cv h)).toArray U := by
    intro U hU hWm
    refine ⟨by rw [List.map_cons, qz_cvr (qz_ok_ne hok)], ?_, ?_, qz_E_at h9 hS hU hWm⟩
    · intro v hv
      rcases List.mem_cons.mp hv with z | z
      · rw [z]; exact v2
      · exact hvo v z
    · rw [hU]
      exact (hW.moved hWm.alike).re (qz_ex.rf h)
  have hM := hm q qe l D dA B0 hc
  have hnone := hv.2.2
  have hfix : CallFix p m c Y.2.1 Y.2.2.1 s args (qz_ws Y) Y.1.cls := ⟨h1, h2, h3, h7, h8⟩
  have htt : ∀ w ∈ kz_TT, w.before args s = true := fun w hw => h8 w (List.mem_cons_of_mem _ hw)
  have hlen : (as.map (qz_cv h)).length = n := by rw [List.length_map]; exact hn.1
  have hpre : PreS s H (qz_P D dA B0 hc (qz_r true k0 x :: as) h) (.ref (qz_ad h x) :: as.map (qz_cv h)) := ⟨qz_blind, hPc⟩
  have hstk : as.reverse.map (qz_cv h) = (as.map (qz_cv h)).reverse := List.map_reverse
  rw [hstk]
  have fin : ∀ (H1 : Heap) (locs1 : List Loc), qz_W D dA B0 hc h0 s q.2 H1 → qz_ex h q.2 → (Y2.2.2.2.2.1 ≠ 0 → qz_rg q.2 Y2.2.2.2.2.1 q.1) → va_S (qz_A B0) s.heap H1 locs1 → W p l e Y.2.2.2.2.2 s m args below meth c H1 locs1 (cs + Y2.2.2.2.2.2.cells) (sl + Y2.2.2.2.2.2.slots) (MQ below (qz_Q Y D dA B0 hc h0 r) args s Y.2.2.2.2.2.cells Y.2.2.2.2.2.slots (qz_A B0)) (F0 m (pc + 3) lsC ((qz_rv Y2 q).toList ++ r2)) := by
    intro H1 locs1 w wx wr wS
    have e0 : Y2.2.2.2.2.1 = 0 := by simpa using hR
    have e1 : qz_rv Y2 q = none := by unfold qz_rv; rw [if_pos e0]
    rw [e1]
    exact k q.1 q.2 r q2 hx lsC _ H1 locs1 hca.2 (wx.lr hl) (wx.sr _ _ hs) w wS
  rcases hln with g | ⟨host, g⟩
  · refine qz_after (va_runI (bytes := Y2.2.1) (maxL := Y2.2.2.1) (b := qz_ad h x) (As := as.map (qz_cv h)) (rest := r2) hfix hM ?_ hpre rfl hlen hsize rfl hroom hca.1 ⟨rm3, rm4⟩) hW hS fin
    rw [← hnone]
    exact ⟨callB_of n h8 (qz_good m1) rfl rfl rfl (htt _ m2) (htt _ g) ⟨m3.1, m3.2.1, m3.2.2⟩ ⟨rm1, rm2⟩, hv.2.1, htt _ hv.1⟩
  · refine qz_after (va_runIN (bytes := Y2.2.1) (maxL := Y2.2.2.1) (host := host) (b := qz_ad h x) (As := as.map (qz_cv h)) (rest := r2) hfix hM ?_ hpre rfl hlen hsize rfl hroom hca.1 ⟨rm3, rm4⟩) hW hS fin
    rw [← hnone]
    exact ⟨va_cnB n h8 (qz_good m1) rfl rfl rfl (h9.2.2.1 _ g) (htt _ m2) ⟨m3.1, m3.2.1, m3.2.2⟩ ⟨rm1, rm2⟩, hv.2.1, htt _ hv.1⟩
theorem qz_invuI {xm : MethodName} {idx n : Nat} {k0 : Nat} {x : Int} (as : List qz_V) {stk : List qz_V} {f : Int → qz_H → Option qz_R} (hst : stk = as.reverse ++ qz_r true k0 x :: st) (hm : qz_C Y2 (qz_r true k0 x :: as) h t) (hw : qz_mw Y2 n) (hv : Cond.methodLink Y.1.cls idx xm ∈ kz_TT ∧ Cond.sameMethod xm.cls Y2.1.cls xm.name xm.desc ∈ kz_TT ∧ Cond.selects xm.cls xm Y2.1 ∈ kz_TT ∧ Cond.instanceMethod Y2.1 ∈ kz_TT) (hxm : (⟨Y2.1.cls, xm.name, xm.desc⟩ : MethodName) = Y2.1) (hk0 : ∃ q : vw_C, kz_cl[k0]? = some q ∧ xm.cls = q.1 ∧ k0 < 40) (hn : ((as.length == n) && (qz_sz st).ble 8) = true) (hrm : qz_rm Y Y2 cs sl = true) (hR : (decide (Y2.2.2.2.2.1 < 10) && !(Y2.2.2.2.2.1 == 2) && !(Y2.2.2.2.2.1 == 0)) = true) (k : ∀ r h', qz_J Y G is (pc + 3) ls (qz_i r :: st) h' (cs + Y2.2.2.2.2.2.cells) (sl + Y2.2.2.2.2.2.slots) (f r h')) : qz_J Y G ((.invokevirtual idx, 3) :: is) pc ls stk h cs sl (qz_bc t f) := by
  obtain ⟨p, l, e, s, m, args, below, meth, c, D, dA, B0, hc, h0⟩ := G
  intro r hr hx lsC stC H locs hca hl hs hW hS
  obtain ⟨h1, h2, h3, h4, h5, h6, h7, h8, h9⟩ := id hx
  subst hst
  obtain ⟨r1, q1, v1, hs2⟩ := qz_sr_app _ _ _ hs
  clear hs
  obtain ⟨r2, q2, v2, hs⟩ := hs2
  have hok := qz_vot v2
  rw [qz_cvr (qz_ok_ne hok)] at q2
  subst q2
  subst q1
  obtain ⟨q, qe, q2⟩ := qz_bc_some hr
  obtain ⟨m1, m2, m3, m4⟩ := hw
  obtain ⟨⟨rm1, rm2⟩, rm3, rm4⟩ := qz_rm_ok hrm
  simp only [Bool.and_eq_true, beq_iff_eq] at hn
  have hroom : 2 * (F0 m pc lsC ([] : List Value)).monitorRoom + (r2.map fun v => v.category).sum ≤ 8 := lv_room (Nat.le_trans (qz_sz_ok _ _ hs) (Nat.le_of_ble_eq_true hn.2))
  have hsize : lsC.size = Y.2.2.1 := by obtain ⟨lv, g1, -⟩ := hl; exact g1.1
  have hvo : ∀ v ∈ as, qz_vo h v := fun v hv => v1 v (List.mem_reverse.mpr hv)
  have hPc : ∀ U : State, U.heap = H → s.WarmedH U.vm → qz_P D dA B0 hc (qz_r true k0 x :: as) h (.ref (qz_ad h x) :: as.map (qz_cv h)).toArray U := by
    intro U hU hWm
    refine ⟨by rw [List.map_cons, qz_cvr (qz_ok_ne hok)], ?_, ?_, qz_E_at h9 hS hU hWm⟩
    · intro v hv
      rcases List.mem_cons.mp hv with z | z
      · rw [z]; exact v2
      · exact hvo v z
    · rw [hU]
      exact (hW.moved hWm.alike).re (qz_ex.rf h)
  have hM := hm q qe l D dA B0 hc
  have hfix : CallFix p m c Y.2.1 Y.2.2.1 s args (qz_ws Y) Y.1.cls := ⟨h1, h2, h3, h7, h8⟩
  have htt : ∀ w ∈ kz_TT, w.before args s = true := fun w hw => h8 w (List.mem_cons_of_mem _ hw)
  have hlen : (as.map (qz_cv h)).length = n := by rw [List.length_map]; exact hn.1
  obtain ⟨qc, k1', k2', k3'⟩ := hk0
  obtain ⟨⟨cell, b1, b2, b3, b4, -⟩, -⟩ := (hW.2.1 x k0 hok).1 k3'
  have hcls := (h9.2.1.1 k0 qc k1').2.1
  have hpre : PreV s H xm.cls (qz_ad h x) (qz_P D dA B0 hc (qz_r true k0 x :: as) h) (as.map (qz_cv h)) := ⟨qz_blind, ⟨cell, b1, b4, by rw [b2, k2']; exact hcls⟩, hPc⟩
  have hstk : as.reverse.map (qz_cv h) = (as.map (qz_cv h)).reverse := List.map_reverse
  rw [hstk]
  have fin : ∀ (H1 : Heap) (locs1 : List Loc), qz_W D dA B0 hc h0 s q.2 H1 → qz_ex h q.2 → (Y2.2.2.2.2.1 ≠ 0 → qz_rg q.2 Y2.2.2.2.2.1 q.1) → va_S (qz_A B0) s.heap H1 locs1 → W p l e Y.2.2.2.2.2 s m args below meth c H1 locs1 (cs + Y2.2.2.2.2.2.cells) (sl + Y2.2.2.2.2.2.slots) (MQ below (qz_Q Y D dA B0 hc h0 r) args s Y.2.2.2.2.2.cells Y.2.2.2.2.2.slots (qz_A B0)) (F0 m (pc + 3) lsC ((qz_rv Y2 q).toList ++ r2)) := by
    intro H1 locs1 w wx wr wS
    simp only [Bool.and_eq_true, decide_eq_true_eq, Bool.not_eq_true', beq_eq_false_iff_ne, ne_eq] at hR
    have e1 : qz_rv Y2 q = some (qz_cv q.2 (qz_i q.1)) := by unfold qz_rv; rw [if_neg hR.2]; unfold qz_tv; rw [if_neg hR.1.2, if_pos hR.1.1]; rfl
    rw [e1]
    exact k q.1 q.2 r q2 hx lsC _ H1 locs1 hca.2 (wx.lr hl) ⟨_, rfl, qz_rgI hR.1.1 hR.1.2 (wr hR.2), wx.sr _ _ hs⟩ w wS
  have hT : GoodIn (qz_ws Y) (va_wsU Y.1.cls idx xm.cls Y2.1.cls xm Y2.1 (qz_ws Y2)) := by
    intro w hw
    have gd : ∀ w, w ∈ kz_TT → w ∈ qz_ws Y ∧ ((w.onTables && w.keeps) = true ∨ ∃ ty, w = .arrayClass ty) := fun w hw => ⟨List.mem_cons_of_mem _ hw, kz_TTok _ hw⟩
    rcases List.mem_append.mp hw with z | z
    · simp only [List.mem_cons, List.not_mem_nil, or_false] at z
      rcases z with z | z | z | z | z
      · rw [z]; exact gd _ hv.1
      · rw [z]; exact gd _ hv.2.1
      · rw [z]; exact gd _ hv.2.2.1
      · rw [z]; exact gd _ hv.2.2.2
      · rw [z]; exact gd _ m2
    · exact qz_good m1 w z

  have hds : (parseMethodDescriptor xm.desc).map (fun d => d.parameters.length) = some n := by
    have := congrArg MethodName.desc hxm
    rw [show xm.desc = Y2.1.desc from this]; exact m3.2.2
  exact qz_after (va_runU (x := xm) (C := xm.cls) (owner := Y2.1.cls) (bytes := Y2.2.1) (maxL := Y2.2.2.1) (ret := Y2.2.2.2.1) (b := qz_ad h x) (As := as.map (qz_cv h)) (rest := r2) hfix hM (va_cwU n h8 hT rfl rfl rfl hxm.symm ⟨m3.1, m3.2.1, hds⟩ ⟨rm1, rm2⟩) hpre rfl hlen hsize rfl hroom hca.1 ⟨rm3, rm4⟩) hW hS fin
end QD
end
section
section QE
variable {Y : qz_Y} {G : qz_G} {is isT : List (Instr × Nat)} {pc T : Nat} {ls st : List qz_V} {h : qz_H} {cs sl : Nat} {t t1 t2 : Option qz_R}
def qz_le (Y : qz_Y) (cs sl : Nat) : Bool := decide (cs ≤ Y.2.2.2.2.2.cells) && decide (sl ≤ Y.2.2.2.2.2.slots)
theorem qz_le_ok {Y : qz_Y} {cs sl : Nat} (h : qz_le Y cs sl = true) : cs ≤ Y.2.2.2.2.2.cells ∧ sl ≤ Y.2.2.2.2.2.slots := by
  simp only [qz_le, Bool.and_eq_true, decide_eq_true_eq] at h
  exact h

theorem qz_ireturn {x : Int} (hR : Y.2.2.2.1 = some .int ∧ Y.2.2.2.2.1 = 1) (hle : qz_le Y cs sl = true) : qz_J Y G ((.ireturn, 1) :: is) pc ls [qz_i x] h cs sl (some (x, h)) := by
  obtain ⟨p, l, e, s, m, args, below, meth, c, D, dA, B0, hc, h0⟩ := G
  intro r hr hx lsC stC H locs hca hl hs hW hS
  obtain ⟨h1, h2, h3, h4, h5, h6, h7, h8, h9⟩ := id hx
  obtain ⟨r1, rfl, v1, rfl⟩ := hs
  cases hr
  obtain ⟨l1, l2⟩ := qz_le_ok hle
  refine W.widen l1 l2 ?_
  exact W.iret h1 h2 (h4.trans hR.1) (fun t ht hWm => ⟨⟨by unfold qz_rv; rw [if_neg (by rw [hR.2]; decide), hR.2]; rfl, by rw [ht]; exact hW.moved hWm.alike, fun hne => by rw [hR.2]; exact v1⟩, hS.F ht⟩) hS.2.2 hca.1 h5
theorem qz_zreturn {x : Int} (hR : Y.2.2.2.1 = some .boolean ∧ Y.2.2.2.2.1 = 3) (hle : qz_le Y cs sl = true) : qz_J Y G ((.ireturn, 1) :: is) pc ls [qz_i x] h cs sl (qz_ck (x = 0 ∨ x = 1) (some (x, h))) := by
  obtain ⟨p, l, e, s, m, args, below, meth, c, D, dA, B0, hc, h0⟩ := G
  intro r hr hx lsC stC H locs hca hl hs hW hS
  obtain ⟨h1, h2, h3, h4, h5, h6, h7, h8, h9⟩ := id hx
  obtain ⟨r1, rfl, v1, rfl⟩ := hs
  obtain ⟨hb, hr⟩ := qz_ck_some hr
  cases hr
  obtain ⟨l1, l2⟩ := qz_le_ok hle
  refine W.widen l1 l2 ?_
  have hn : narrow .boolean (.int (Int32.ofInt x)) = .int (Int32.ofInt x) := (qz_nf (h := h) (ty := .boolean) (t := 3) rfl hb).1
  exact W.zret h1 h2 (h4.trans hR.1) hn (fun t ht hWm => ⟨⟨by unfold qz_rv; rw [if_neg (by rw [hR.2]; decide), hR.2]; rfl, by rw [ht]; exact hW.moved hWm.alike, fun hne => by rw [hR.2]; exact hb⟩, hS.F ht⟩) hS.2.2 hca.1 h5
theorem qz_breturn {x : Int} (hR : Y.2.2.2.1 = some .byte ∧ Y.2.2.2.2.1 = 5) (hle : qz_le Y cs sl = true) : qz_J Y G ((.ireturn, 1) :: is) pc ls [qz_i x] h cs sl (qz_ck (-128 ≤ x ∧ x ≤ 127) (some (x, h))) := by
  obtain ⟨p, l, e, s, m, args, below, meth, c, D, dA, B0, hc, h0⟩ := G
  intro r hr hx lsC stC H locs hca hl hs hW hS
  obtain ⟨h1, h2, h3, h4, h5, h6, h7, h8, h9⟩ := id hx
  obtain ⟨r1, rfl, v1, rfl⟩ := hs
  obtain ⟨hb, hr⟩ := qz_ck_some hr
  cases hr
  obtain ⟨l1, l2⟩ := qz_le_ok hle
  refine W.widen l1 l2 ?_
  have hn : narrow .byte (.int (Int32.ofInt x)) = .int (Int32.ofInt x) := (qz_nf (h := h) (ty := .byte) (t := 5) rfl hb).1
  exact W.zret h1 h2 (h4.trans hR.1) hn (fun t ht hWm => ⟨⟨by unfold qz_rv; rw [if_neg (by rw [hR.2]; decide), hR.2]; rfl, by rw [ht]; exact hW.moved hWm.alike, fun hne => by rw [hR.2]; exact hb⟩, hS.F ht⟩) hS.2.2 hca.1 h5
theorem qz_creturn {x : Int} (hR : Y.2.2.2.1 = some .char ∧ Y.2.2.2.2.1 = 4) (hle : qz_le Y cs sl = true) : qz_J Y G ((.ireturn, 1) :: is) pc ls [qz_i x] h cs sl (qz_ck (0 ≤ x ∧ x ≤ 65535) (some (x, h))) := by
  obtain ⟨p, l, e, s, m, args, below, meth, c, D, dA, B0, hc, h0⟩ := G
  intro r hr hx lsC stC H locs hca hl hs hW hS
  obtain ⟨h1, h2, h3, h4, h5, h6, h7, h8, h9⟩ := id hx
  obtain ⟨r1, rfl, v1, rfl⟩ := hs
  obtain ⟨hb, hr⟩ := qz_ck_some hr
  cases hr
  obtain ⟨l1, l2⟩ := qz_le_ok hle
  refine W.widen l1 l2 ?_
  have hn : narrow .char (.int (Int32.ofInt x)) = .int (Int32.ofInt x) := by
    show Value.int (Int32.ofInt x).toUInt32.toUInt16.toUInt32.toInt32 = _
    have e := qz_nc_eq x
    unfold qz_nc at e
    rw [show (Int32.ofInt x).toUInt32.toUInt16.toUInt32.toInt32 = Int32.ofInt x from Int32.toInt_inj.mp (by rw [e, qz_t32 ⟨by omega, by omega⟩]; omega)]
  exact W.zret h1 h2 (h4.trans hR.1) hn (fun t ht hWm => ⟨⟨by unfold qz_rv; rw [if_neg (by rw [hR.2]; decide), hR.2]; rfl, by rw [ht]; exact hW.moved hWm.alike, fun hne => by rw [hR.2]; exact hb⟩, hS.F ht⟩) hS.2.2 hca.1 h5
theorem qz_lreturn {x : Int} (hR : Y.2.2.2.1 = some .long ∧ Y.2.2.2.2.1 = 2) (hle : qz_le Y cs sl = true) : qz_J Y G ((.lreturn, 1) :: is) pc ls [qz_j x] h cs sl (some (x, h)) := by
  obtain ⟨p, l, e, s, m, args, below, meth, c, D, dA, B0, hc, h0⟩ := G
  intro r hr hx lsC stC H locs hca hl hs hW hS
  obtain ⟨h1, h2, h3, h4, h5, h6, h7, h8, h9⟩ := id hx
  obtain ⟨r1, rfl, v1, rfl⟩ := hs
  cases hr
  obtain ⟨l1, l2⟩ := qz_le_ok hle
  refine W.widen l1 l2 ?_
  exact W.lret h1 h2 (h4.trans hR.1) (fun t ht hWm => ⟨⟨by unfold qz_rv; rw [if_neg (by rw [hR.2]; decide), hR.2]; rfl, by rw [ht]; exact hW.moved hWm.alike, fun hne => by rw [hR.2]; exact v1⟩, hS.F ht⟩) hS.2.2 hca.1 h5
theorem qz_return (hR : Y.2.2.2.1 = none ∧ Y.2.2.2.2.1 = 0) (hle : qz_le Y cs sl = true) : qz_J Y G ((.return_, 1) :: is) pc ls [] h cs sl (some (0, h)) := by
  obtain ⟨p, l, e, s, m, args, below, meth, c, D, dA, B0, hc, h0⟩ := G
  intro r hr hx lsC stC H locs hca hl hs hW hS
  obtain ⟨h1, h2, h3, h4, h5, h6, h7, h8, h9⟩ := id hx
  cases hs
  cases hr
  obtain ⟨l1, l2⟩ := qz_le_ok hle
  refine W.widen l1 l2 ?_
  exact W.vret h1 h2 (h4.trans hR.1) (fun t ht hWm => ⟨⟨by unfold qz_rv; rw [if_pos hR.2], by rw [ht]; exact hW.moved hWm.alike, fun hne => absurd hR.2 hne⟩, hS.F ht⟩) hS.2.2 hca.1 h5
theorem qz_areturn {x : Int} {b : Bool} {k1 : Nat} {C : String} (hR : Y.2.2.2.1 = some (.object C) ∧ Y.2.2.2.2.1 = 10 + k1) (hle : qz_le Y cs sl = true) : qz_J Y G ((.areturn, 1) :: is) pc ls [qz_r b k1 x] h cs sl (some (x, h)) := by
  obtain ⟨p, l, e, s, m, args, below, meth, c, D, dA, B0, hc, h0⟩ := G
  intro r hr hx lsC stC H locs hca hl hs hW hS
  obtain ⟨h1, h2, h3, h4, h5, h6, h7, h8, h9⟩ := id hx
  obtain ⟨r1, rfl, v1, rfl⟩ := hs
  cases hr
  obtain ⟨l1, l2⟩ := qz_le_ok hle
  refine W.widen l1 l2 ?_
  refine W.aret h1 h2 (h4.trans hR.1) (Or.inl ⟨C, rfl⟩) (v := va_rf (qz_rf h x)) (by cases qz_rf h x with
    | none => exact Or.inl rfl
    | some a => exact Or.inr ⟨a, rfl⟩) (fun t ht hWm => ⟨⟨by unfold qz_rv; rw [if_neg (by rw [hR.2]; omega), hR.2]; unfold qz_tv; rw [if_neg (by omega), if_neg (by omega)], by rw [ht]; exact hW.moved hWm.alike, fun hne => by rw [hR.2]; exact qz_rgR' v1⟩, hS.F ht⟩) hS.2.2 hca.1 h5
theorem qz_alen {k0 : Nat} {a : Int} (h40 : decide (40 ≤ k0) = true) (k : qz_J Y G is (pc + 1) ls (qz_i (h a (-1)) :: st) h cs sl t) : qz_J Y G ((.arraylength, 1) :: is) pc ls (qz_r true k0 a :: st) h cs sl t := by
  obtain ⟨p, l, e, s, m, args, below, meth, c, D, dA, B0, hc, h0⟩ := G
  intro r hr hx lsC stC H locs hca hl hs hW hS
  obtain ⟨h1, h2, h3, h4, h5, h6, h7, h8, h9⟩ := id hx
  obtain ⟨r1, q1, v1, hs⟩ := hs
  have hok := qz_vot v1
  rw [qz_cvr (qz_ok_ne hok)] at q1
  subst q1
  have h40 : 40 ≤ k0 := by simpa using h40
  obtain ⟨⟨cell, b1, b2, b3, b4, b5, b6, b7⟩, b8, b9, b10⟩ := (hW.2.1 a k0 hok).2 h40
  refine W.alen h1 h2 b1 b2 b6 rfl rfl hca.1 ?_
  exact k r hr hx lsC _ H locs hca.2 hl ⟨r1, rfl, ⟨by omega, b9⟩, hs⟩ hW hS
def qz_mk (h : qz_H) (k n : Int) (f : qz_H → Int → Option qz_R) : Option qz_R := f (qz_nw h k n) (h 0 0 + 1)
theorem qz_dv {h : qz_H} {ty : FieldType} {t : Nat} (hc : qz_tc ty t = true) : defaultValue ty = qz_tv h t 0 ∧ qz_rg h t 0 := by
  cases ty with
  | int =>
    have : t = 1 := by simpa [qz_tc] using hc
    subst this
    exact ⟨rfl, ⟨by decide, by decide⟩⟩
  | long =>
    have : t = 2 := by simpa [qz_tc] using hc
    subst this
    exact ⟨rfl, ⟨by decide, by decide⟩⟩
  | boolean =>
    have : t = 3 := by simpa [qz_tc] using hc
    subst this
    exact ⟨rfl, Or.inl rfl⟩
  | byte =>
    have : t = 5 := by simpa [qz_tc] using hc
    subst this
    exact ⟨rfl, ⟨by decide, by decide⟩⟩
  | object n =>
    have ht : 10 ≤ t := by simpa [qz_tc] using hc
    refine ⟨?_, ?_⟩
    · unfold qz_tv; rw [if_neg (by omega), if_neg (by omega)]; rfl
    · unfold qz_rg; rw [if_neg (by omega), if_neg (by omega), if_neg (by omega), if_neg (by omega), if_neg (by omega)]; exact Or.inl rfl
  | array n =>
    have ht : 10 ≤ t := by simpa [qz_tc] using hc
    refine ⟨?_, ?_⟩
    · unfold qz_tv; rw [if_neg (by omega), if_neg (by omega)]; rfl
    · unfold qz_rg; rw [if_neg (by omega), if_neg (by omega), if_neg (by omega), if_neg (by omega), if_neg (by omega)]; exact Or.inl rfl
  | _ => cases hc
theorem qz_nw_cv {D : va_G} {dA : Nat → ClassId} {B0 : Nat} {hc h0 : qz_H} {U : State} {H : Heap} {k n : Int} {k0 : Nat} (hW : qz_W D dA B0 hc h0 U h H) : qz_cv (qz_nw h k n) (qz_r true k0 (h 0 0 + 1)) = .ref H.size ∧ qz_ad (qz_nw h k n) (h 0 0 + 1) = H.size := by
  obtain ⟨⟨w0, w1⟩, -⟩ := hW
  have adn : qz_ad (qz_nw h k n) (h 0 0 + 1) = H.size := by
    unfold qz_ad
    rw [qz_nw_new w0, if_neg (by decide), if_neg (by decide), if_pos rfl, w1]
    simp
  exact ⟨by rw [qz_cvr (by omega), adn], adn⟩
theorem qz_nw_ok {k n : Int} {k0 : Nat} (h00 : 0 ≤ h 0 0) (hk : k = (k0 : Int)) : qz_ok (qz_nw h k n) k0 (h 0 0 + 1) := by
  refine ⟨Or.inl ⟨by omega, by rw [qz_nw_00]; exact Int.le_refl _⟩, ?_⟩
  rw [qz_nw_new h00, if_neg (by decide), if_pos rfl]
  exact hk
theorem qz_S_new {A : Nat → Prop} {H0 H H' : Heap} {locs : List Loc} (hS : va_S A H0 H locs) (hz : H'.size = H.size + 1) (hq : ∀ q, q < H.size → H'[q]? = H[q]?) : va_S A H0 H' locs :=
  ⟨Nat.le_trans hS.1 (by omega), fun x h1 h2 => (hq x (Nat.lt_of_lt_of_le h1 hS.1)).trans (hS.2.1 x h1 h2), hS.2.2⟩
theorem qz_new {idx k0 : Nat} {kI : Int} {f : qz_H → Int → Option qz_R} (hw : qz_cw k0) (hk : kI = (k0 : Int)) (hf : ∃ q : vw_C, kz_cl[k0]? = some q ∧ Cond.classLink Y.1.cls idx q.1 ∈ kz_TT ∧ Cond.instantiable q.1 (kz_N k0) ∈ kz_TT ∧ Cond.initialized q.1 ∈ kz_TT) (hle : qz_le Y (cs + 1) (sl + kz_N k0) = true)
    (k : ∀ h' x, qz_J Y G is (pc + 3) ls (qz_r true k0 x :: st) h' (cs + 1) (sl + kz_N k0) (f h' x)) : qz_J Y G ((.new idx, 3) :: is) pc ls st h cs sl (qz_mk h kI 0 f) := by
  obtain ⟨p, l, e, s, m, args, below, meth, c, D, dA, B0, hc, h0⟩ := G
  intro r hr hx lsC stC H locs hca hl hs hW hS
  obtain ⟨h1, h2, h3, h4, h5, h6, h7, h8, h9⟩ := id hx
  subst hk
  obtain ⟨q, c1, c2, c3, c4, c5, c6, c7⟩ := hw
  obtain ⟨q', f1, f2, f3, f4⟩ := hf
  cases c1.symm.trans f1
  obtain ⟨l1, l2⟩ := qz_le_ok hle
  have hts : ∀ w ∈ kz_TT, w.before args s = true := fun w hw => h8 w (List.mem_cons_of_mem _ hw)
  have hKn := h9.2.1.1 k0 q c1
  refine W.newcK h1 h2 h7 (hts _ f2) (hts _ f3) (hts _ f4) rfl hca.1 l1 l2 hKn.2.1 rfl fun H' kC hkC e1 e2 e3 => ?_
  obtain ⟨g1, g2⟩ := qz_nw_cv (k := (k0 : Int)) (n := 0) (k0 := k0) hW
  have ex := qz_nw_ex (h := h) (x := (k0 : Int)) (n := 0) hW.1.1
  obtain ⟨cell, t1, t2, t3, t4⟩ := u_born (kz_fT k0) hts c4 hKn hkC e1 c5
  refine k (qz_nw h k0 0) (h 0 0 + 1) r hr hx lsC _ H' locs hca.2 (ex.lr hl) ⟨_, by rw [g1], Or.inr (qz_nw_ok hW.1.1 rfl), ex.sr _ _ hs⟩ ?_ (qz_S_new hS e2 e3)
  refine qz_W_nw hW (by omega) (Nat.le_trans h9.1 hS.1) e2 e3 ⟨fun _ => ⟨⟨cell, by rw [g2]; exact t1, t2, by rw [t3]; exact fun z => (by cases z), by rw [t3]; rfl, fun _ => t3, fun j hj => ?_⟩, fun j hj => ?_⟩, fun z => absurd c3 (by omega)⟩
  · rw [t4 j (by rw [c2]; exact hj), qz_nw_new hW.1.1, if_neg (by omega), if_neg (by omega), if_neg (by omega)]
    exact congrArg some (qz_dv (h := qz_nw h k0 0) (c7 j (by rw [c2]; exact hj))).1
  · rw [qz_nw_new hW.1.1, if_neg (by omega), if_neg (by omega), if_neg (by omega)]
    exact (qz_dv (c7 j (by rw [c2]; exact hj))).2
def qz_ta (ty : FieldType) (t : Nat) : Bool := match ty with
  | .int => t == 1
  | .long => t == 2
  | .boolean => t == 3
  | .char => t == 4
  | .byte => t == 5
  | .object _ => decide (10 ≤ t)
  | _ => false
theorem qz_da {h : qz_H} {ty : FieldType} {t : Nat} (hc : qz_ta ty t = true) : defaultValue ty = qz_tv h t 0 ∧ qz_rg h t 0 := by
  cases ty with
  | int =>
    have : t = 1 := by simpa [qz_ta] using hc
    subst this
    exact ⟨rfl, ⟨by decide, by decide⟩⟩
  | long =>
    have : t = 2 := by simpa [qz_ta] using hc
    subst this
    exact ⟨rfl, ⟨by decide, by decide⟩⟩
  | boolean =>
    have : t = 3 := by simpa [qz_ta] using hc
    subst this
    exact ⟨rfl, Or.inl rfl⟩
  | char =>
    have : t = 4 := by simpa [qz_ta] using hc
    subst this
    exact ⟨rfl, ⟨by decide, by decide⟩⟩
  | byte =>
    have : t = 5 := by simpa [qz_ta] using hc
    subst this
    exact ⟨rfl, ⟨by decide, by decide⟩⟩
  | object n =>
    have ht : 10 ≤ t := by simpa [qz_ta] using hc
    refine ⟨?_, ?_⟩
    · unfold qz_tv; rw [if_neg (by omega), if_neg (by omega)]; rfl
    · unfold qz_rg; rw [if_neg (by omega), if_neg (by omega), if_neg (by omega), if_neg (by omega), if_neg (by omega)]; exact Or.inl rfl
  | _ => cases hc
/-- an array is new: what its cell says -/
theorem qz_W_arr {D : va_G} {dA : Nat → ClassId} {B0 : Nat} {hc h0 : qz_H} {U : State} {H H' : Heap} {k0 N : Nat} {ty : FieldType} (hW : qz_W D dA B0 hc h0 U h H) (h40 : 40 ≤ k0) (h99 : k0 < 99) (hT : kz_aT k0 = ty) (hE : qz_ta ty (kz_ae k0) = true) (hN : N ≤ 2147483647) (hB : B0 ≤ H.size) (hAr : ArrOfT U (dA k0) ty) (hz : H'.size = H.size + 1) (hq : ∀ q, q < H.size → H'[q]? = H[q]?)
    (he : H'[H.size]? = some (arrV (dA k0) N (fun _ => defaultValue ty))) : qz_W D dA B0 hc h0 U (qz_nw h k0 N) H' := by
  obtain ⟨g1, g2⟩ := qz_nw_cv (k := (k0 : Int)) (n := (N : Int)) (k0 := k0) hW
  have hlen : qz_nw h k0 N (h 0 0 + 1) (-1) = (N : Int) := by rw [qz_nw_new hW.1.1, if_pos rfl]
  refine qz_W_nw hW h99 hB hz hq ⟨fun z => absurd h40 (by omega), fun _ => ⟨⟨_, by rw [g2]; exact he, by rw [hT]; exact hAr N _, fun z => (by cases z), fun _ => ⟨rfl, rfl⟩, ?_, ?_, fun j hj => ?_⟩, ?_, ?_, fun j hj => ?_⟩⟩
  · rw [hlen, arrV_size]; exact Nat.le_of_eq (Int.toNat_natCast N)
  · rw [hlen, arrV_size]
    show Int32.ofNat N = _
    rw [Int32.ofInt_eq_ofNat]
  · rw [hlen, Int.toNat_natCast] at hj
    rw [arrV_read _ _ hj, qz_nw_new hW.1.1, if_neg (by omega), if_neg (by omega), if_neg (by omega), (qz_da (h := qz_nw h k0 N) hE).1]
  · rw [hlen]; omega
  · rw [hlen]; omega
  · rw [qz_nw_new hW.1.1, if_neg (by omega), if_neg (by omega), if_neg (by omega)]
    exact (qz_da hE).2
theorem qz_tys_at {dA : Nat → ClassId} {k0 : Nat} (hk : k0 ∈ kz_ak) : ∃ i : Nat, (qz_tys dA)[i]? = some (dA k0, kz_aT k0) := by
  apply List.getElem?_of_mem
  exact List.mem_map.mpr ⟨k0, hk, rfl⟩

theorem qz_newa {at0 : ArrayType} {k0 N : Nat} {n kI : Int} {f : qz_H → Int → Option qz_R} (hk : kI = (k0 : Int)) (hn : n = (N : Int)) (hak : k0 ∈ kz_ak) (h40 : (decide (40 ≤ k0) && decide (k0 < 99) && decide (N ≤ 100000)) = true) (hT : kz_aT k0 = newarray.typeOf at0) (hE : qz_ta (newarray.typeOf at0) (kz_ae k0) = true) (hby : componentBytes (newarray.typeOf at0) ≤ 8) (hw : Cond.arrayClass (newarray.typeOf at0) ∈ kz_TT) (hle : qz_le Y (cs + 1) (sl + N) = true)
    (k : ∀ h' x, qz_J Y G is (pc + 2) ls (qz_r true k0 x :: st) h' (cs + 1) (sl + N) (f h' x)) : qz_J Y G ((.newarray at0, 2) :: is) pc ls (qz_i n :: st) h cs sl (qz_mk h kI n f) := by
  obtain ⟨p, l, e, s, m, args, below, meth, c, D, dA, B0, hc, h0⟩ := G
  intro r hr hx lsC stC H locs hca hl hs hW hS
  obtain ⟨h1, h2, h3, h4, h5, h6, h7, h8, h9⟩ := id hx
  subst hk
  subst hn
  obtain ⟨r1, rfl, v1, hs⟩ := hs
  obtain ⟨l1, l2⟩ := qz_le_ok hle
  simp only [Bool.and_eq_true, decide_eq_true_eq] at h40
  obtain ⟨⟨h40, h99⟩, hN⟩ := h40
  have hts : ∀ w ∈ kz_TT, w.before args s = true := fun w hw => h8 w (List.mem_cons_of_mem _ hw)
  have h32 : qz_32 (N : Int) := v1
  have hcl : (Int32.ofInt (N : Int)).toNatClampNeg = N := by
    show (Int32.ofInt (N : Int)).toInt.toNat = N
    rw [qz_t32 h32]; simp
  refine va_newaK h1 h2 (hts _ hw) rfl hca.1 rfl (by rw [qz_l0 h32]; omega) hcl (Nat.le_trans (Nat.mul_le_mul hN hby) (by decide)) l1 l2 rfl fun H' cA e1 e2 e3 hAr hNm => ?_
  obtain ⟨i, hi⟩ := qz_tys_at (dA := dA) hak
  obtain ⟨k1, k2⟩ := h9.2.1.2 i _ hi
  have hcA : cA = dA k0 := by
    dsimp only at k2
    rw [hT] at k2
    have k2' : s.vm.findClass ("[" ++ (newarray.typeOf at0).toString) = some (dA k0) := by cases at0 <;> exact k2
    exact Option.some.inj (hNm.symm.trans k2')
  subst hcA
  obtain ⟨g1, g2⟩ := qz_nw_cv (k := (k0 : Int)) (n := (N : Int)) (k0 := k0) hW
  have ex := qz_nw_ex (h := h) (x := (k0 : Int)) (n := (N : Int)) hW.1.1
  refine k (qz_nw h k0 N) (h 0 0 + 1) r hr hx lsC _ H' locs hca.2 (ex.lr hl) ⟨_, by rw [g1], Or.inr (qz_nw_ok hW.1.1 rfl), ex.sr _ _ hs⟩ ?_ (qz_S_new hS e2 e3)
  exact qz_W_arr hW h40 h99 hT hE (by omega) (Nat.le_trans h9.1 hS.1) hAr e2 e3 e1
theorem qz_anew {idx k0 N : Nat} {C : String} {n kI : Int} {f : qz_H → Int → Option qz_R} (hk : kI = (k0 : Int)) (hn : n = (N : Int)) (hak : k0 ∈ kz_ak) (h40 : (decide (40 ≤ k0) && decide (k0 < 99) && decide (N ≤ 100000)) = true) (hT : kz_aT k0 = .object C) (hE : qz_ta (.object C) (kz_ae k0) = true) (hw : Cond.classLink Y.1.cls idx C ∈ kz_TT ∧ Cond.arrayOver (.object C) ∈ kz_TT) (hle : qz_le Y (cs + 1) (sl + N) = true)
    (k : ∀ h' x, qz_J Y G is (pc + 3) ls (qz_r true k0 x :: st) h' (cs + 1) (sl + N) (f h' x)) : qz_J Y G ((.anewarray idx, 3) :: is) pc ls (qz_i n :: st) h cs sl (qz_mk h kI n f) := by
  obtain ⟨p, l, e, s, m, args, below, meth, c, D, dA, B0, hc, h0⟩ := G
  intro r hr hx lsC stC H locs hca hl hs hW hS
  obtain ⟨h1, h2, h3, h4, h5, h6, h7, h8, h9⟩ := id hx
  subst hk
  subst hn
  obtain ⟨r1, rfl, v1, hs⟩ := hs
  obtain ⟨l1, l2⟩ := qz_le_ok hle
  simp only [Bool.and_eq_true, decide_eq_true_eq] at h40
  obtain ⟨⟨h40, h99⟩, hN⟩ := h40
  have hts : ∀ w ∈ kz_TT, w.before args s = true := fun w hw => h8 w (List.mem_cons_of_mem _ hw)
  have h32 : qz_32 (N : Int) := v1
  have hcl : (Int32.ofInt (N : Int)).toNatClampNeg = N := by
    show (Int32.ofInt (N : Int)).toInt.toNat = N
    rw [qz_t32 h32]; simp
  refine W.anew h1 h2 h7 (hts _ hw.1) (hts _ hw.2) rfl hca.1 rfl (by rw [qz_l0 h32]; omega) (by rw [hcl]; omega) l1 (by rw [hcl]; exact l2) fun cA kA comp a1 a2 a3 a4 => ?_
  rw [hcl]
  obtain ⟨i, hi⟩ := qz_tys_at (dA := dA) hak
  obtain ⟨k1, k2⟩ := h9.2.1.2 i _ hi
  dsimp only at k1 k2
  rw [hT] at k1 k2
  obtain ⟨kA', comp', k3, k4, k5, k6⟩ := k2
  have hcA : cA = dA k0 := Option.some.inj (a1.symm.trans k6)
  subst hcA
  obtain ⟨g1, g2⟩ := qz_nw_cv (k := (k0 : Int)) (n := (N : Int)) (k0 := k0) hW
  have ex := qz_nw_ex (h := h) (x := (k0 : Int)) (n := (N : Int)) hW.1.1
  have e2 : (H.push { cls := dA k0, slots := Array.replicate N .null, vm := .none }).size = H.size + 1 := by simp
  have e3 : ∀ q, q < H.size → (H.push { cls := dA k0, slots := Array.replicate N .null, vm := .none })[q]? = H[q]? := fun q hq => by rw [Array.getElem?_push, if_neg (Nat.ne_of_lt hq)]
  refine k (qz_nw h k0 N) (h 0 0 + 1) r hr hx lsC _ _ locs hca.2 (ex.lr hl) ⟨_, by rw [g1], Or.inr (qz_nw_ok hW.1.1 rfl), ex.sr _ _ hs⟩ ?_ (qz_S_new hS e2 e3)
  exact qz_W_arr hW h40 h99 hT hE (by omega) (Nat.le_trans h9.1 hS.1) k1 e2 e3 (by show _ = some (arrV (dA k0) N (fun _ => Value.null)); rw [← arrV_new]; simp)
theorem qz_aast {k0 k1 : Nat} {a i v : Int} {C : String} {f : qz_H → Option qz_R} (h40 : decide (40 ≤ k0) = true) (hT : kz_aT k0 = .object C) (he : (kz_ae k0 == 10 + k1) = true) (hak : k0 ∈ kz_ak) (hcl : ∃ q : vw_C, kz_cl[k1]? = some q ∧ q.1 = C ∧ k1 < 40) (k : ∀ h', qz_J Y G is (pc + 1) ls st h' cs sl (f h')) : qz_J Y G ((.aastore, 1) :: is) pc ls (qz_r true k1 v :: qz_i i :: qz_r true k0 a :: st) h cs sl (qz_ck (0 < a ∧ 0 ≤ i ∧ i < h a (-1)) (qz_bn (qz_up h a i v) f)) := by
  obtain ⟨p, l, e, s, m, args, below, meth, c, D, dA, B0, hc, h0⟩ := G
  intro r hr hx lsC stC H locs hca hl hs hW hS
  obtain ⟨h1, h2, h3, h4, h5, h6, h7, h8, h9⟩ := id hx
  obtain ⟨rv, qv, v0, r0, q0, vi, r1, q1, v1, hs⟩ := hs
  obtain ⟨⟨hpos, g1, g2⟩, hr⟩ := qz_ck_some hr
  have hok := qz_vot v1
  have hov := qz_vot v0
  rw [qz_cvr (qz_ok_ne hok)] at q1
  rw [qz_cvr (qz_ok_ne hov)] at qv
  subst q1
  subst q0
  subst qv
  have h40 : 40 ≤ k0 := by simpa using h40
  have he : kz_ae k0 = 10 + k1 := by simpa using he
  obtain ⟨⟨cell, b1, b2, b3, b4, b5, b6, b7⟩, b8, b9, b10⟩ := (hW.2.1 a k0 hok).2 h40
  obtain ⟨x1, x2⟩ := qz_idx g1 g2 b9 b5
  obtain ⟨q, c1, c2, c3⟩ := hcl
  obtain ⟨⟨cv, d1, d2, d3, d4, -⟩, -⟩ := (hW.2.1 v k1 hov).1 c3
  obtain ⟨i', hi'⟩ := qz_tys_at (dA := dA) hak
  obtain ⟨k3, k4⟩ := h9.2.1.2 i' _ hi'
  dsimp only at k3 k4
  rw [hT] at k3 k4
  obtain ⟨kA, comp, k5, k6, k7, -⟩ := k4
  have hcls := (h9.2.1.1 k1 q c1).2
  rw [c2] at hcls
  have hcomp : comp = D.1 k1 := Option.some.inj (k7.symm.trans hcls.1)
  subst hcomp
  obtain ⟨kC, hkC, -⟩ := hcls.2
  obtain ⟨n1, n2⟩ := b4 hpos
  refine W.aast h1 h2 b1 (fun z w => by rw [n1] at w; cases w) b3 (by rw [n2]; exact k5) k6 rfl hkC ⟨fun z => x1 (Or.inl z), Nat.not_le.mp fun z => x1 (Or.inr z)⟩ d1 (fun z w => by rw [w] at d4; cases d4) (by rw [d2]; exact hkC) (by rw [d2]; exact va_assign hcls) rfl rfl hca.1 fun H' e1 e2 e3 => ?_
  have ex := (qz_up_sm (h := h) (v := v) hpos g1).ex
  rw [x2] at e1 ⊢
  refine k _ r hr hx lsC _ H' _ hca.2 (ex.lr hl) (ex.sr _ _ hs) ?_ (hS.put e2 e3 (hW.2.2.1 a (qz_ok_pos hok hpos).1 (qz_ok_pos hok hpos).2).1)
  refine qz_W_elt hW hok hpos h40 g1 g2 b1 (by rw [he]; exact qz_rgR' v0) ?_ e2 e3
  rw [he, e1]
  have e9 : qz_tv h (10 + k1) v = .ref (qz_ad h v) := by
    rw [← qz_cvr (b := true) (k := k1) (qz_ok_ne hov)]
    unfold qz_tv; rw [if_neg (by omega), if_neg (by omega)]; rfl
  rw [e9]
theorem qz_ifnull {b : Bool} {k0 : Nat} {x off : Int} (ht : (pc : Int) + off = (T : Int)) (hT : qz_ca Y.2.1 T isT) (kt : qz_J Y G isT T ls st h cs sl t1) (kf : qz_J Y G is (pc + 3) ls st h cs sl t2) : qz_J Y G ((.ifnull off, 3) :: is) pc ls (qz_r b k0 x :: st) h cs sl (if x = 0 then t1 else t2) := by
  obtain ⟨p, l, e, s, m, args, below, meth, c, D, dA, B0, hc, h0⟩ := G
  intro r hr hx lsC stC H locs hca hl hs hW hS
  obtain ⟨h1, h2, h3, h4, h5, h6, h7, h8, h9⟩ := id hx
  obtain ⟨r1, q1, v1, hs⟩ := hs
  by_cases hx0 : x = 0
  · subst hx0
    rw [if_pos rfl] at hr
    subst q1
    exact lv_ifnullN h1 h2 hca.1 ht (kt r hr hx lsC _ H locs hT hl hs hW hS)
  · rw [if_neg hx0] at hr
    rw [qz_cvr hx0] at q1
    subst q1
    exact lv_ifnull h1 h2 hca.1 (kf r hr hx lsC _ H locs hca.2 hl hs hW hS)
theorem qz_rf_inj {D : va_G} {dA : Nat → ClassId} {B0 : Nat} {hc h0 : qz_H} {U : State} {H : Heap} {x y : Int} {b b' : Bool} (hW : qz_W D dA B0 hc h0 U h H) (hE : ∀ x y : Int, -(kz_nC : Int) ≤ x → x ≤ -1 → -(kz_nC : Int) ≤ y → y ≤ -1 → hc x (-2) = (kz_kI : Int) → hc y (-2) = (kz_kI : Int) → qz_ad hc x = qz_ad hc y → x = y) (hx : qz_vo h (qz_r b kz_kI x)) (hy : qz_vo h (qz_r b' kz_kI y)) : qz_rf h x = qz_rf h y ↔ x = y := by
  refine ⟨fun e => ?_, fun e => by rw [e]⟩
  unfold qz_rf at e
  by_cases x0 : x = 0
  · by_cases y0 : y = 0
    · omega
    · rw [if_pos x0, if_neg y0] at e; cases e
  · by_cases y0 : y = 0
    · rw [if_neg x0, if_pos y0] at e; cases e
    · rw [if_neg x0, if_neg y0] at e
      have e := Option.some.inj e
      have ox := qz_vot (qz_learn x0 hx)
      have oy := qz_vot (qz_learn y0 hy)
      by_cases xp : 0 < x
      · by_cases hne : y = x
        · exact hne.symm
        · exact absurd e.symm (qz_W_ne hW ox xp oy hne)
      · by_cases yp : 0 < y
        · by_cases hne : x = y
          · exact hne
          · exact absurd e (qz_W_ne hW oy yp ox hne)
        · have w6 := hW.2.2.2.2.2.1
          have cx : -(kz_nC : Int) ≤ x ∧ x ≤ -1 := by rcases ox.1 with q | q; omega; exact q
          have cy : -(kz_nC : Int) ≤ y ∧ y ≤ -1 := by rcases oy.1 with q | q; omega; exact q
          refine hE x y cx.1 cx.2 cy.1 cy.2 (by rw [← w6 x cx.2]; exact ox.2) (by rw [← w6 y cy.2]; exact oy.2) ?_
          unfold qz_ad at e ⊢
          rw [← w6 x cx.2, ← w6 y cy.2]
          exact e
theorem qz_acmp_eq {b b2 : Bool} {x y off : Int} (ht : (pc : Int) + off = (T : Int)) (hT : qz_ca Y.2.1 T isT) (kt : qz_J Y G isT T ls st h cs sl t1) (kf : qz_J Y G is (pc + 3) ls st h cs sl t2) : qz_J Y G ((.if_acmp .eq off, 3) :: is) pc ls (qz_r b2 kz_kI y :: qz_r b kz_kI x :: st) h cs sl (if x = y then t1 else t2) := by
  obtain ⟨p, l, e, s, m, args, below, meth, c, D, dA, B0, hc, h0⟩ := G
  intro r hr hx lsC stC H locs hca hl hs hW hS
  obtain ⟨h1, h2, h3, h4, h5, h6, h7, h8, h9⟩ := id hx
  obtain ⟨r1, rfl, v1, r2, rfl, v2, hs⟩ := hs
  have e := qz_rf_inj hW h9.2.2.2.2.2.1 v2 v1
  refine lv_acmp_eq h1 h2 hca.1 ht (fun q => ?_) (fun q => ?_)
  · rw [if_pos (e.mp q)] at hr
    exact kt r hr hx lsC _ H locs hT hl hs hW hS
  · rw [if_neg (fun z => q (e.mpr z))] at hr
    exact kf r hr hx lsC _ H locs hca.2 hl hs hW hS
theorem qz_acmp_ne {b b2 : Bool} {x y off : Int} (ht : (pc : Int) + off = (T : Int)) (hT : qz_ca Y.2.1 T isT) (kt : qz_J Y G isT T ls st h cs sl t1) (kf : qz_J Y G is (pc + 3) ls st h cs sl t2) : qz_J Y G ((.if_acmp .ne off, 3) :: is) pc ls (qz_r b2 kz_kI y :: qz_r b kz_kI x :: st) h cs sl (if ¬ x = y then t1 else t2) := by
  obtain ⟨p, l, e, s, m, args, below, meth, c, D, dA, B0, hc, h0⟩ := G
  intro r hr hx lsC stC H locs hca hl hs hW hS
  obtain ⟨h1, h2, h3, h4, h5, h6, h7, h8, h9⟩ := id hx
  obtain ⟨r1, rfl, v1, r2, rfl, v2, hs⟩ := hs
  have e := qz_rf_inj hW h9.2.2.2.2.2.1 v2 v1
  refine lv_acmp_ne h1 h2 hca.1 ht (fun q => ?_) (fun q => ?_)
  · rw [if_pos (fun z => q (e.mpr z))] at hr
    exact kt r hr hx lsC _ H locs hT hl hs hW hS
  · rw [if_neg (fun z => z (e.mp q))] at hr
    exact kf r hr hx lsC _ H locs hca.2 hl hs hW hS
theorem qz_gets0 {idx : Nat} {q : String × String × String × Nat × Int} {V : qz_V} (hq : q ∈ kz_st) (hln : Cond.fieldLink Y.1.cls idx q.1 q.2.1 q.2.2.1 ∈ kz_TT ∨ ∃ host, Cond.fieldLinkNest Y.1.cls idx q.1 q.2.1 q.2.2.1 host ∈ kz_NT) (hV : ∀ hc : qz_H, (∀ x : Int, x ≤ -1 → ∀ j : Int, h x j = hc x j) → qz_tv hc q.2.2.2.1 q.2.2.2.2 = qz_cv h V) (hv : ∀ hc : qz_H, (∀ x : Int, x ≤ -1 → ∀ j : Int, h x j = hc x j) → qz_kd hc → qz_vo h V) (hkd : True) (k : qz_J Y G is (pc + 3) ls (V :: st) h cs sl t) : qz_J Y G ((.getstatic idx, 3) :: is) pc ls st h cs sl t := by
  obtain ⟨p, l, e, s, m, args, below, meth, c, D, dA, B0, hc, h0⟩ := G
  intro r hr hx lsC stC H locs hca hl hs hW hS
  obtain ⟨h1, h2, h3, h4, h5, h6, h7, h8, h9⟩ := id hx
  have w6 := hW.2.2.2.2.2.1
  have hZ := h9.2.2.2.1 q hq
  rw [hV hc w6] at hZ
  have kk := k r hr hx lsC _ H locs hca.2 hl ⟨_, rfl, hv hc w6 h9.2.2.2.2.2.2, hs⟩ hW hS
  rcases hln with g | ⟨host, g⟩
  · exact va_gets h1 h2 hZ hS h7 (h8 _ (List.mem_cons_of_mem _ g)) (fun _ z => z) hca.1 kk
  · exact va_getsN h1 h2 hZ hS h7 (va_Nw.use rfl (h9.2.2.1 _ g)) (fun _ z => z) hca.1 kk
theorem qz_getsR {idx k0 : Nat} {x : Int} {C n d : String} (hq : (C, n, d, 10 + k0, x) ∈ kz_st) (hln : Cond.fieldLink Y.1.cls idx C n d ∈ kz_TT ∨ ∃ host, Cond.fieldLinkNest Y.1.cls idx C n d host ∈ kz_NT) (hx : (decide (-(kz_nC : Int) ≤ x) && decide (x ≤ -1) && (kz_kc x == k0)) = true) (k : qz_J Y G is (pc + 3) ls (qz_r true k0 x :: st) h cs sl t) : qz_J Y G ((.getstatic idx, 3) :: is) pc ls st h cs sl t := by
  simp only [Bool.and_eq_true, decide_eq_true_eq, beq_iff_eq] at hx
  refine qz_gets0 hq hln (fun hc w6 => ?_) (fun hc w6 kd => ?_) trivial k
  · show qz_tv hc (10 + k0) x = va_rf (qz_rf h x)
    unfold qz_tv qz_rf qz_ad
    rw [if_neg (by omega), if_neg (by omega), if_neg (by omega), if_neg (by omega), w6 x hx.1.2]
  · refine Or.inr ⟨Or.inr hx.1, ?_⟩
    rw [w6 x hx.1.2, kd x hx.1.1 hx.1.2, hx.2]
theorem qz_getsI {idx t0 : Nat} {x : Int} {C n d : String} (hq : (C, n, d, t0, x) ∈ kz_st) (hln : Cond.fieldLink Y.1.cls idx C n d ∈ kz_TT ∨ ∃ host, Cond.fieldLinkNest Y.1.cls idx C n d host ∈ kz_NT) (hx : (decide (t0 < 10) && !(t0 == 2) && qz_b32 x) = true) (k : qz_J Y G is (pc + 3) ls (qz_i x :: st) h cs sl t) : qz_J Y G ((.getstatic idx, 3) :: is) pc ls st h cs sl t := by
  simp only [Bool.and_eq_true, decide_eq_true_eq, Bool.not_eq_true', beq_eq_false_iff_ne, ne_eq] at hx
  refine qz_gets0 (V := qz_i x) hq hln (fun hc w6 => ?_) (fun hc w6 kd => qz_b32_ok hx.2) trivial k
  show qz_tv hc t0 x = Value.int (Int32.ofInt x)
  unfold qz_tv
  rw [if_neg hx.1.2, if_pos hx.1.1]
theorem qz_ldcS {idx : Nat} {tx : String} {x : Int} (hq : (Y.1.cls, idx, tx, x) ∈ kz_ss) (hxx : (decide (-(kz_nC : Int) ≤ x) && decide (x ≤ -1) && (kz_kc x == kz_kS)) = true) (k : qz_J Y G is (pc + 2) ls (qz_r true kz_kS x :: st) h cs sl t) : qz_J Y G ((.ldc idx, 2) :: is) pc ls st h cs sl t := by
  obtain ⟨p, l, e, s, m, args, below, meth, c, D, dA, B0, hc, h0⟩ := G
  intro r hr hx lsC stC H locs hca hl hs hW hS
  obtain ⟨h1, h2, h3, h4, h5, h6, h7, h8, h9⟩ := id hx
  simp only [Bool.and_eq_true, decide_eq_true_eq, beq_iff_eq] at hxx
  have w6 := hW.2.2.2.2.2.1
  have hZ := h9.2.2.2.2.1 _ hq
  refine va_ldcS h1 h2 h7 hZ hca.1 ?_
  refine k r hr hx lsC _ H locs hca.2 hl ⟨_, ?_, Or.inr ⟨Or.inr hxx.1, ?_⟩, hs⟩ hW hS
  · rw [qz_cvr (by omega)]
    unfold qz_ad
    rw [w6 x hxx.1.2]
  · rw [w6 x hxx.1.2, h9.2.2.2.2.2.2 x hxx.1.1 hxx.1.2, hxx.2]
theorem qz_objI {idx k0 : Nat} {x : Int} (hw : Cond.methodLink Y.1.cls idx Lib.objectInit ∈ kz_TT ∧ Cond.instanceMethod Lib.objectInit ∈ kz_TT ∧ Cond.code Lib.objectInit ⟨#[0xb1]⟩ 1 none ∈ kz_TT) (hrm : (decide (1 ≤ Y.2.2.2.2.2.frames) && decide (20 ≤ Y.2.2.2.2.2.locals) && (qz_sz st).ble 8) = true) (k : qz_J Y G is (pc + 3) ls st h cs sl t) : qz_J Y G ((.invokespecial idx, 3) :: is) pc ls (qz_r true k0 x :: st) h cs sl t := by
  obtain ⟨p, l, e, s, m, args, below, meth, c, D, dA, B0, hc, h0⟩ := G
  intro r hr hx lsC stC H locs hca hl hs hW hS
  obtain ⟨h1, h2, h3, h4, h5, h6, h7, h8, h9⟩ := id hx
  obtain ⟨r1, q1, v1, hs⟩ := hs
  have hok := qz_vot v1
  rw [qz_cvr (qz_ok_ne hok)] at q1
  subst q1
  simp only [Bool.and_eq_true, decide_eq_true_eq] at hrm
  have hts : ∀ w ∈ kz_TT, w.before args s = true := fun w hw => h8 w (List.mem_cons_of_mem _ hw)
  have hroom : 2 * (F0 m pc lsC ([] : List Value)).monitorRoom + (r1.map fun v => v.category).sum ≤ 8 := lv_room (Nat.le_trans (qz_sz_ok _ _ hs) (Nat.le_of_ble_eq_true hrm.2))
  have hroom : 2 * (F0 m pc lsC (.ref (qz_ad h x) :: r1)).monitorRoom + (r1.map fun v => v.category).sum ≤ 8 := hroom
  have hsize : lsC.size = c.maxLocals := by obtain ⟨lv, g1, -⟩ := hl; rw [h3]; exact g1.1
  refine W.objInit h1 h2 h7 (hts _ hw.1) (hts _ hw.2.1) (hts _ hw.2.2) rfl hsize rfl hca.1 hrm.1.1 (by omega) ?_
  exact k r hr hx lsC _ H locs hca.2 hl hs hW hS
def qz_fg : List Nat → List qz_V → List qz_V
  | [], ls => ls.map fun _ => qz_u
  | _ :: _, [] => []
  | n :: ns, v :: ls => (if n = 0 then qz_u else if n = 1 then v else match v with
      | .inr (.inr (.inl q)) => .inr (.inr (.inl (false, q.2)))
      | v => v) :: qz_fg ns ls
theorem qz_fg_at {h : qz_H} {P : Nat → Value → Prop} : ∀ (ns : List Nat) (ls : List qz_V) (d : Nat), (∀ (i : Nat) (v : qz_V), ls[i]? = some v → v = qz_u ∨ (qz_vo h v ∧ P (d + i) (qz_cv h v))) → ∀ (i : Nat) (v : qz_V), (qz_fg ns ls)[i]? = some v → v = qz_u ∨ (qz_vo h v ∧ P (d + i) (qz_cv h v))
  | [], ls, d, hl, i, v, hi => by
    simp only [qz_fg, List.getElem?_map] at hi
    cases hq : ls[i]? with
    | none => rw [hq] at hi; cases hi
    | some w => rw [hq] at hi; cases hi; exact Or.inl rfl
  | n :: ns, [], d, hl, i, v, hi => by simp [qz_fg] at hi
  | n :: ns, w :: ls, d, hl, 0, v, hi => by
    simp only [qz_fg, List.getElem?_cons_zero, Option.some.injEq] at hi
    have h0 := hl 0 w rfl
    split at hi
    · exact Or.inl hi.symm
    · split at hi
      · rw [← hi]; exact h0
      · rcases w with x | x | ⟨b, k, x⟩ | q
        · rw [← hi]; exact h0
        · rw [← hi]; exact h0
        · rcases h0 with h0 | ⟨h0, h1⟩
          · cases h0
          · refine Or.inr ?_
            rw [← hi]
            refine ⟨?_, h1⟩
            rcases h0 with ⟨_, z⟩ | z
            · exact Or.inl ⟨rfl, z⟩
            · exact Or.inr z
        · rw [← hi]; exact h0
  | n :: ns, w :: ls, d, hl, i + 1, v, hi => by
    simp only [qz_fg, List.getElem?_cons_succ] at hi
    have ih := qz_fg_at (h := h) (P := P) ns ls (d + 1) (fun j u hj => by
      have := hl (j + 1) u (by simpa using hj)
      rwa [show d + 1 + j = d + (j + 1) by omega]) i v hi
    rwa [show d + (i + 1) = d + 1 + i by omega]
theorem qz_fgt (ns : List Nat) (k : qz_J Y G is pc (qz_fg ns ls) st h cs sl t) : qz_J Y G is pc ls st h cs sl t := by
  obtain ⟨p, l, e, s, m, args, below, meth, c, D, dA, B0, hc, h0⟩ := G
  intro r hr hx lsC stC H locs hca hl hs hW hS
  obtain ⟨h1, h2, h3, h4, h5, h6, h7, h8, h9⟩ := id hx
  obtain ⟨lv, g1, g2⟩ := hl
  refine k r hr hx lsC stC H locs hca ⟨lv, g1, fun i v hi => ?_⟩ hs hW hS
  have := qz_fg_at (h := h) (P := fun i w => (i, w) ∈ lv) ns ls 0 (fun i v hi => by rw [Nat.zero_add]; exact g2 i v hi) i v hi
  rwa [Nat.zero_add] at this
theorem qz_wk {k0 : Nat} {b : Bool} {x : Int} (k : qz_J Y G is pc ls (qz_r false k0 x :: st) h cs sl t) : qz_J Y G is pc ls (qz_r b k0 x :: st) h cs sl t := by
  obtain ⟨p, l, e, s, m, args, below, meth, c, D, dA, B0, hc, h0⟩ := G
  intro r hr hx lsC stC H locs hca hl hs hW hS
  obtain ⟨h1, h2, h3, h4, h5, h6, h7, h8, h9⟩ := id hx
  obtain ⟨r1, q1, v1, hs⟩ := hs
  refine k r hr hx lsC stC H locs hca hl ⟨r1, q1, ?_, hs⟩ hW hS
  rcases v1 with ⟨-, z⟩ | z
  · exact Or.inl ⟨rfl, z⟩
  · exact Or.inr z
def qz_en (vs : List qz_V) (n : Nat) : List qz_V := (vs.flatMap fun v => if qz_lg v = true then [v, qz_u] else [v]) ++ List.replicate (n - (vs.flatMap fun v => if qz_lg v = true then [v, qz_u] else [v]).length) qz_u
theorem qz_en_at {h : qz_H} : ∀ (vs : List qz_V) (d i : Nat) (v : qz_V), (∀ v ∈ vs, qz_vo h v) → (vs.flatMap fun v => if qz_lg v = true then [v, qz_u] else [v])[i]? = some v → v = qz_u ∨ (qz_vo h v ∧ (d + i, qz_cv h v) ∈ lv_args d (vs.map (qz_cv h)))
  | [], d, i, v, _, hi => by simp at hi
  | w :: vs, d, i, v, hv, hi => by
    rw [List.flatMap_cons] at hi
    by_cases hw : qz_lg w = true
    · rw [if_pos hw] at hi
      have hc : (qz_cv h w).category = 2 := by
        rcases w with x | x | q | q
        · cases hw
        · rfl
        · cases hw
        · cases hw
      match i, hi with
      | 0, hi =>
        have : w = v := by simpa using hi
        subst this
        exact Or.inr ⟨hv _ List.mem_cons_self, List.mem_cons_self⟩
      | 1, hi =>
        have : qz_u = v := by simpa using hi
        exact Or.inl this.symm
      | i + 2, hi =>
        have ih := qz_en_at vs (d + 2) i v (fun v hv' => hv v (List.mem_cons_of_mem _ hv')) (by simpa using hi)
        rcases ih with ih | ⟨ih1, ih2⟩
        · exact Or.inl ih
        · refine Or.inr ⟨ih1, ?_⟩
          show _ ∈ (d, qz_cv h w) :: lv_args (if (qz_cv h w).category = 2 then d + 2 else d + 1) (vs.map (qz_cv h))
          rw [if_pos hc, show d + (i + 2) = d + 2 + i by omega]
          exact List.mem_cons_of_mem _ ih2
    · rw [if_neg hw] at hi
      have hc : ¬ (qz_cv h w).category = 2 := qz_catL h (by simpa using hw)
      match i, hi with
      | 0, hi =>
        have : w = v := by simpa using hi
        subst this
        exact Or.inr ⟨hv _ List.mem_cons_self, List.mem_cons_self⟩
      | i + 1, hi =>
        have ih := qz_en_at vs (d + 1) i v (fun v hv' => hv v (List.mem_cons_of_mem _ hv')) (by simpa using hi)
        rcases ih with ih | ⟨ih1, ih2⟩
        · exact Or.inl ih
        · refine Or.inr ⟨ih1, ?_⟩
          show _ ∈ (d, qz_cv h w) :: lv_args (if (qz_cv h w).category = 2 then d + 2 else d + 1) (vs.map (qz_cv h))
          rw [if_neg hc, show d + (i + 1) = d + 1 + i by omega]
          exact List.mem_cons_of_mem _ ih2
theorem qz_sl_len {h : qz_H} : ∀ vs : List qz_V, (lg_sl (vs.map (qz_cv h))).length = (vs.flatMap fun v => if qz_lg v = true then [v, qz_u] else [v]).length
  | [] => rfl
  | w :: vs => by
    have ih := qz_sl_len (h := h) vs
    unfold lg_sl at ih ⊢
    rw [List.map_cons, List.flatMap_cons, List.flatMap_cons, List.length_append, List.length_append, ih]
    congr 1
    by_cases hw : qz_lg w = true
    · rw [if_pos hw]
      have hc : (qz_cv h w).category = 2 := by
        rcases w with x | x | q | q
        · cases hw
        · rfl
        · cases hw
        · cases hw
      rw [if_pos hc]; rfl
    · rw [if_neg hw, if_neg (qz_catL h (by simpa using hw))]; rfl
theorem qz_con {vs ls : List qz_V} (hpn : plainName Y.1.cls = true) (hca : qz_ca Y.2.1 0 is) (hls : qz_en vs Y.2.2.1 = ls) (hlen : decide ((vs.flatMap fun v => if qz_lg v = true then [v, qz_u] else [v]).length ≤ Y.2.2.1) = true) (k : ∀ G, qz_J Y G is 0 ls [] h 0 0 t) : qz_C Y vs h t := by
  intro r hr l D dA B0 hc
  refine Met.ofW (cc := Y.2.1) (maxL := Y.2.2.1) (ret := Y.2.2.2.1) hpn rfl ?_
  intro p e s m args below meth c s₁ B hml hv
  obtain ⟨rfl, v1, w1, e1⟩ := hv
  have hlen : (vs.flatMap fun v => if qz_lg v = true then [v, qz_u] else [v]).length ≤ Y.2.2.1 := by simpa using hlen
  have hl := lv_entry (vs.map (qz_cv h)) (n := Y.2.2.1) (by rw [qz_sl_len]; exact hlen)
  rw [lg_entry_eq]
  refine k (p, l, e, s, m, (vs.map (qz_cv h)).toArray, below, meth, c, D, dA, B0, hc, h) r hr ⟨B.exec, B.bytes, hml, B.returns, B.notSynchronized, (name_of_methodNamed B.named B.method).1, findClass_of_methodNamed B.named, atoms_spec (ws := qz_ws Y) B.pre, e1⟩ _ [] s.heap [] hca ⟨_, hl, fun i v hi => ?_⟩ rfl w1 va_S.rf
  subst hls
  unfold qz_en at hi
  by_cases hil : i < (vs.flatMap fun v => if qz_lg v = true then [v, qz_u] else [v]).length
  · rw [List.getElem?_append_left hil] at hi
    have := qz_en_at (h := h) vs 0 i v v1 hi
    rwa [Nat.zero_add] at this
  · rw [List.getElem?_append_right (by omega)] at hi
    exact Or.inl (List.eq_of_mem_replicate (List.mem_of_getElem? hi))
end QE
end
section
def qz_NF : Nat := 4000
section QF
variable {Y : qz_Y} {G : qz_G} {is isT : List (Instr × Nat)} {pc T : Nat} {ls st : List qz_V} {h : qz_H} {cs sl : Nat} {t t1 t2 : Option qz_R}
theorem qz_none : qz_J Y G is pc ls st h cs sl none := by
  obtain ⟨p, l, e, s, m, args, below, meth, c, D, dA, B0, hc, h0⟩ := G
  intro r hr
  cases hr
theorem qz_eqt {t' : Option qz_R} (he : t' = t) (k : qz_J Y G is pc ls st h cs sl t') : qz_J Y G is pc ls st h cs sl t := he ▸ k
def qz_fn : Nat → List qz_V → List qz_V
  | _, [] => []
  | 0, v :: r => (match v with
      | .inr (.inr (.inl q)) => .inr (.inr (.inl (true, q.2)))
      | v => v) :: r
  | d + 1, v :: r => v :: qz_fn d r
theorem qz_fn_sr {b : Bool} {k0 : Nat} {x : Int} (hx : x ≠ 0) : ∀ (d : Nat) (st : List qz_V) (s : List Value), st[d]? = some (qz_r b k0 x) → qz_sr h st s → qz_sr h (qz_fn d st) s
  | d, [], s, hd, hs => by simp at hd
  | 0, v :: st, s, hd, hs => by
    have hd : v = qz_r b k0 x := by simpa using hd
    subst hd
    obtain ⟨r, g1, g2, g3⟩ := hs
    exact ⟨r, g1, qz_learn hx g2, g3⟩
  | d + 1, v :: st, s, hd, hs => by
    obtain ⟨r, g1, g2, g3⟩ := hs
    exact ⟨r, g1, g2, qz_fn_sr hx d st r (by simpa using hd) g3⟩
theorem qz_nnd (d : Nat) {b : Bool} {k0 : Nat} {x : Int} (hd : st[d]? = some (qz_r b k0 x)) (k : qz_J Y G is pc ls (qz_fn d st) h cs sl t) : qz_J Y G is pc ls st h cs sl (qz_ck (x ≠ 0) t) := by
  obtain ⟨p, l, e, s, m, args, below, meth, c, D, dA, B0, hc, h0⟩ := G
  intro r hr hx lsC stC H locs hca hl hs hW hS
  obtain ⟨h1, h2, h3, h4, h5, h6, h7, h8, h9⟩ := id hx
  obtain ⟨g1, g2⟩ := qz_ck_some hr
  exact k r g2 hx lsC stC H locs hca hl (qz_fn_sr g1 d st stC hd hs) hW hS
def qz_fs : List Nat → List qz_V → List qz_V
  | [], st => st
  | _ :: _, [] => []
  | n :: ns, v :: st => (if n = 2 then (match v with
      | .inr (.inr (.inl q)) => .inr (.inr (.inl (false, q.2)))
      | v => v) else v) :: qz_fs ns st
theorem qz_fs_sr : ∀ (ns : List Nat) (st : List qz_V) (s : List Value), qz_sr h st s → qz_sr h (qz_fs ns st) s
  | [], st, s, hs => hs
  | n :: ns, [], s, hs => hs
  | n :: ns, v :: st, s, hs => by
    obtain ⟨r, g1, g2, g3⟩ := hs
    have ih := qz_fs_sr ns st r g3
    show qz_sr h ((if n = 2 then _ else v) :: qz_fs ns st) s
    split
    · rcases v with x | x | ⟨b, k, x⟩ | q
      · exact ⟨r, g1, g2, ih⟩
      · exact ⟨r, g1, g2, ih⟩
      · refine ⟨r, g1, ?_, ih⟩
        rcases g2 with ⟨-, z⟩ | z
        · exact Or.inl ⟨rfl, z⟩
        · exact Or.inr z
      · exact ⟨r, g1, g2, ih⟩
    · exact ⟨r, g1, g2, ih⟩
theorem qz_wkS (ns : List Nat) (k : qz_J Y G is pc ls (qz_fs ns st) h cs sl t) : qz_J Y G is pc ls st h cs sl t := by
  obtain ⟨p, l, e, s, m, args, below, meth, c, D, dA, B0, hc, h0⟩ := G
  intro r hr hx lsC stC H locs hca hl hs hW hS
  obtain ⟨h1, h2, h3, h4, h5, h6, h7, h8, h9⟩ := id hx
  exact k r hr hx lsC stC H locs hca hl (qz_fs_sr ns st stC hs) hW hS
/-- the same instructions where a number is known: no name is given -/
theorem qz_istore_nC {q : Fin 4} {a : Int} (hn : (q : Nat) < Y.2.2.1) (k : qz_J Y G is (pc + 1) (qz_st (q : Nat) (qz_i a) ls) st h cs sl t) : qz_J Y G ((.istore_n q, 1) :: is) pc ls (qz_i a :: st) h cs sl t := qz_istore_n (f := fun x => if x = a then t else none) hn (fun x => by
    by_cases hx : x = a
    · subst hx; rw [if_pos rfl]; exact k
    · rw [if_neg hx]; exact qz_none) |> qz_eqt (by show (if a = a then t else none) = t; rw [if_pos rfl])
theorem qz_istoreC {i : Nat} {a : Int} (hn : i < Y.2.2.1) (k : qz_J Y G is (pc + 2) (qz_st i (qz_i a) ls) st h cs sl t) : qz_J Y G ((.istore i, 2) :: is) pc ls (qz_i a :: st) h cs sl t := qz_istore (f := fun x => if x = a then t else none) hn (fun x => by
    by_cases hx : x = a
    · subst hx; rw [if_pos rfl]; exact k
    · rw [if_neg hx]; exact qz_none) |> qz_eqt (by show (if a = a then t else none) = t; rw [if_pos rfl])
theorem qz_astore_nC {q : Fin 4} {b : Bool} {k0 : Nat} {a : Int} (hn : (q : Nat) < Y.2.2.1) (k : qz_J Y G is (pc + 1) (qz_st (q : Nat) (qz_r b k0 a) ls) st h cs sl t) : qz_J Y G ((.astore_n q, 1) :: is) pc ls (qz_r b k0 a :: st) h cs sl t := qz_astore_n (f := fun x => if x = a then t else none) hn (fun x => by
    by_cases hx : x = a
    · subst hx; rw [if_pos rfl]; exact k
    · rw [if_neg hx]; exact qz_none) |> qz_eqt (by show (if a = a then t else none) = t; rw [if_pos rfl])
theorem qz_iincC {i : Nat} {n x y : Int} (hi : ls[i]? = some (qz_i x)) (hn : i < Y.2.2.1) (hy : qz_w (x + n) = y) (k : qz_J Y G is (pc + 3) (qz_st i (qz_i y) ls) st h cs sl t) : qz_J Y G ((.iinc i n, 3) :: is) pc ls st h cs sl t := qz_iinc (n := n) (f := fun z => if z = y then t else none) hi hn (fun z => by
    by_cases hx : z = y
    · subst hx; rw [if_pos rfl]; exact k
    · rw [if_neg hx]; exact qz_none) |> qz_eqt (by show (if qz_w (x + n) = y then t else none) = t; rw [if_pos hy])
/-- switches -/
def qz_swt (x : Int) : List (Int × Option qz_R) → Option qz_R → Option qz_R
  | [], d => d
  | q :: E, d => if x = q.1 then q.2 else qz_swt x E d
def qz_swJ (Y : qz_Y) (G : qz_G) (ls st : List qz_V) (h : qz_H) (cs sl : Nat) : List (Int × Nat × List (Instr × Nat)) → List (Int × Option qz_R) → Prop
  | q :: L, e :: E => qz_ca Y.2.1 q.2.1 q.2.2 ∧ qz_J Y G q.2.2 q.2.1 ls st h cs sl e.2 ∧ qz_swJ Y G ls st h cs sl L E
  | [], [] => True
  | _, _ => False
def qz_kz : Int → List (Int × Nat × List (Instr × Nat)) → List (Int × Option qz_R) → Bool
  | lo, q :: L, e :: E => q.1 == lo && (e.1 == lo && qz_kz (lo + 1) L E)
  | _, [], [] => true
  | _, _, _ => false
theorem qz_sw_at : ∀ (L : List (Int × Nat × List (Instr × Nat))) (E : List (Int × Option qz_R)) (lo x : Int) (d : Option qz_R), qz_swJ Y G ls st h cs sl L E → qz_kz lo L E = true → (lo ≤ x ∧ x < lo + L.length → ∃ (q : Int × Nat × List (Instr × Nat)) (e : Option qz_R), L[(x - lo).toNat]? = some q ∧ qz_ca Y.2.1 q.2.1 q.2.2 ∧ qz_J Y G q.2.2 q.2.1 ls st h cs sl e ∧ qz_swt x E d = e) ∧ (¬ (lo ≤ x ∧ x < lo + L.length) → qz_swt x E d = d)
  | [], [], lo, x, d, _, _ => ⟨fun hx => by simp at hx; omega, fun _ => rfl⟩
  | [], _ :: _, lo, x, d, hJ, _ => hJ.elim
  | _ :: _, [], lo, x, d, hJ, _ => hJ.elim
  | q :: L, e :: E, lo, x, d, hJ, hk => by
    obtain ⟨j1, j2, j3⟩ := hJ
    simp only [qz_kz, Bool.and_eq_true, beq_iff_eq] at hk
    obtain ⟨k1, k2, k3⟩ := hk
    obtain ⟨a1, a2⟩ := qz_sw_at L E (lo + 1) x d j3 k3
    have hstep : qz_swt x (e :: E) d = if x = e.1 then e.2 else qz_swt x E d := rfl
    rw [hstep, k2]
    simp only [List.length_cons]
    by_cases hxl : x = lo
    · subst hxl
      refine ⟨fun _ => ⟨q, e.2, by simp, j1, j2, if_pos rfl⟩, fun hn => absurd ⟨Int.le_refl _, by omega⟩ hn⟩
    · rw [if_neg hxl]
      refine ⟨fun hx => ?_, fun hn => a2 (fun z => hn ⟨by omega, by omega⟩)⟩
      obtain ⟨q', e', b1, b2, b3, b4⟩ := a1 ⟨by omega, by omega⟩
      refine ⟨q', e', ?_, b2, b3, b4⟩
      have : (x - lo).toNat = (x - (lo + 1)).toNat + 1 := by omega
      rw [this, List.getElem?_cons_succ]
      exact b1
theorem qz_tsw {dflt lo hi : Int} {offs : Array Int} {len : Nat} {x : Int} {E : List (Int × Option qz_R)} (L : List (Int × Nat × List (Instr × Nat))) (hT : qz_ca Y.2.1 T isT) (ho : offs.toList = L.map (fun q => (q.2.1 : Int) - (pc : Int))) (hk : qz_kz lo L E = true) (hd : (decide ((pc : Int) + dflt = (T : Int)) && decide (hi + 1 = lo + L.length)) = true) (hJ : qz_swJ Y G ls st h cs sl L E) (kd : qz_J Y G isT T ls st h cs sl t) : qz_J Y G ((.tableswitch dflt lo hi offs, len) :: is) pc ls (qz_i x :: st) h cs sl (qz_swt x E t) := by
  have key := qz_sw_at L E lo x t hJ hk
  obtain ⟨p, l, e, s, m, args, below, meth, c, D, dA, B0, hc, h0⟩ := G
  intro r hr hx lsC stC H locs hca hl hs hW hS
  obtain ⟨h1, h2, h3, h4, h5, h6, h7, h8, h9⟩ := id hx
  obtain ⟨r1, rfl, v1, hs⟩ := hs
  simp only [Bool.and_eq_true, decide_eq_true_eq] at hd
  have e32 : (Int32.ofInt x).toInt = x := qz_t32 v1
  by_cases hin : lo ≤ x ∧ x < lo + L.length
  · obtain ⟨q, e', b1, b2, b3, b4⟩ := key.1 hin
    rw [b4] at hr
    refine lv_tableIn h1 h2 hca.1 (by rw [e32]; omega) (by rw [e32]; omega) (off := (q.2.1 : Int) - pc) (tgt := q.2.1) ?_ (by omega) ?_
    · rw [e32, ← Array.getElem?_toList, ho, List.getElem?_map, b1]; rfl
    · exact b3 r hr hx lsC _ H locs b2 hl hs hW hS
  · rw [key.2 hin] at hr
    refine lv_tableOut h1 h2 hca.1 (by rw [e32]; omega) hd.1 ?_
    exact kd r hr hx lsC _ H locs hT hl hs hW hS
def qz_kl : List (Int × Nat × List (Instr × Nat)) → List (Int × Option qz_R) → Bool
  | q :: L, e :: E => q.1 == e.1 && qz_kl L E
  | [], [] => true
  | _, _ => false
theorem qz_lw_at {pc : Nat} {dflt : Int} : ∀ (L : List (Int × Nat × List (Instr × Nat))) (E : List (Int × Option qz_R)) (x : Int) (d : Option qz_R), qz_swJ Y G ls st h cs sl L E → qz_kl L E = true → (∃ (q : Int × Nat × List (Instr × Nat)) (e : Option qz_R), Op.lookupswitch.offset (L.map (fun q => (q.1, (q.2.1 : Int) - (pc : Int)))) dflt x = (q.2.1 : Int) - pc ∧ qz_ca Y.2.1 q.2.1 q.2.2 ∧ qz_J Y G q.2.2 q.2.1 ls st h cs sl e ∧ qz_swt x E d = e) ∨ (Op.lookupswitch.offset (L.map (fun q => (q.1, (q.2.1 : Int) - (pc : Int)))) dflt x = dflt ∧ qz_swt x E d = d)
  | [], [], x, d, _, _ => Or.inr ⟨rfl, rfl⟩
  | [], _ :: _, x, d, hJ, _ => hJ.elim
  | _ :: _, [], x, d, hJ, _ => hJ.elim
  | q :: L, e :: E, x, d, hJ, hk => by
    obtain ⟨j1, j2, j3⟩ := hJ
    simp only [qz_kl, Bool.and_eq_true, beq_iff_eq] at hk
    have hstep : qz_swt x (e :: E) d = if x = e.1 then e.2 else qz_swt x E d := rfl
    rw [hstep, ← hk.1, List.map_cons]
    by_cases hxl : x = q.1
    · rw [if_pos hxl]
      refine Or.inl ⟨q, e.2, ?_, j1, j2, rfl⟩
      subst hxl
      simp [Op.lookupswitch.offset]
    · rw [if_neg hxl]
      have hof : Op.lookupswitch.offset ((q.1, (q.2.1 : Int) - (pc : Int)) :: L.map (fun q => (q.1, (q.2.1 : Int) - (pc : Int)))) dflt x = Op.lookupswitch.offset (L.map (fun q => (q.1, (q.2.1 : Int) - (pc : Int)))) dflt x := by
        simp [Op.lookupswitch.offset, Ne.symm hxl, hxl]
      rw [hof]
      exact qz_lw_at L E x d j3 hk.2
theorem qz_lsw {dflt : Int} {ps : Array (Int × Int)} {len : Nat} {x : Int} {E : List (Int × Option qz_R)} (L : List (Int × Nat × List (Instr × Nat))) (hT : qz_ca Y.2.1 T isT) (ho : ps.toList = L.map (fun q => (q.1, (q.2.1 : Int) - (pc : Int)))) (hk : qz_kl L E = true) (hd : (decide ((pc : Int) + dflt = (T : Int)) && (ps.toList.zip (ps.toList.drop 1)).all (fun (a, next) => a.1 < next.1)) = true) (hJ : qz_swJ Y G ls st h cs sl L E) (kd : qz_J Y G isT T ls st h cs sl t) : qz_J Y G ((.lookupswitch dflt ps, len) :: is) pc ls (qz_i x :: st) h cs sl (qz_swt x E t) := by
  have key := qz_lw_at (pc := pc) (dflt := dflt) L E x t hJ hk
  obtain ⟨p, l, e, s, m, args, below, meth, c, D, dA, B0, hc, h0⟩ := G
  intro r hr hx lsC stC H locs hca hl hs hW hS
  obtain ⟨h1, h2, h3, h4, h5, h6, h7, h8, h9⟩ := id hx
  obtain ⟨r1, rfl, v1, hs⟩ := hs
  rw [Bool.and_eq_true] at hd
  have hd1 : (pc : Int) + dflt = (T : Int) := by simpa using hd.1
  have e32 : (Int32.ofInt x).toInt = x := qz_t32 v1
  rcases key with ⟨q, e', b1, b2, b3, b4⟩ | ⟨b1, b2⟩
  · rw [b4] at hr
    refine lv_lookup h1 h2 hca.1 hd.2 (off := (q.2.1 : Int) - pc) (tgt := q.2.1) (by rw [ho, e32]; exact b1) (by omega) ?_
    exact b3 r hr hx lsC _ H locs b2 hl hs hW hS
  · rw [b2] at hr
    refine lv_lookup h1 h2 hca.1 hd.2 (off := dflt) (tgt := T) (by rw [ho, e32]; exact b1) hd1 ?_
    exact kd r hr hx lsC _ H locs hT hl hs hW hS
end QF
end
